section
-- ===== PART A: goes FIRST, ahead of the names: the tables' words, and 'selects' of the private methods out of them =====
/-- a private method of a class that the tables say can be made, by its rows of tables_1 -/
def lw_okq (q : MethodName × Nat) : Prop := (q.1.cls ≠ "java/lang/invoke/MethodHandle" ∧ q.1.cls ≠ "java/lang/invoke/VarHandle") ∧ Cond.instantiable q.1.cls q.2 ∈ tables_1 ∧ Cond.privateMethod q.1 ∈ tables_1 ∧ Cond.instanceMethod q.1 ∈ tables_1
theorem lw_p0 : lw_okq (⟨"LintPress$Findings", "note", "(LLintPress$Text;LLintPress$Rules;III)V"⟩, 5) := ⟨⟨by decide +kernel, by decide +kernel⟩, List.mem_of_getElem? (i := 112) (by decide +kernel), List.mem_of_getElem? (i := 229) (by decide +kernel), List.mem_of_getElem? (i := 230) (by decide +kernel)⟩
theorem lw_p1 : lw_okq (⟨"LintPress", "chooseBest", "()V"⟩, 9) := ⟨⟨by decide +kernel, by decide +kernel⟩, List.mem_of_getElem? (i := 23) (by decide +kernel), List.mem_of_getElem? (i := 259) (by decide +kernel), List.mem_of_getElem? (i := 260) (by decide +kernel)⟩
theorem lw_p2 : lw_okq (⟨"LintPress$BestSet", "sumUp", "(LLintPress$Findings;)V"⟩, 2) := ⟨⟨by decide +kernel, by decide +kernel⟩, List.mem_of_getElem? (i := 134) (by decide +kernel), List.mem_of_getElem? (i := 267) (by decide +kernel), List.mem_of_getElem? (i := 268) (by decide +kernel)⟩
theorem lw_p3 : lw_okq (⟨"LintPress$BestSet", "sumWith", "(LLintPress$Findings;I)I"⟩, 2) := ⟨⟨by decide +kernel, by decide +kernel⟩, List.mem_of_getElem? (i := 134) (by decide +kernel), List.mem_of_getElem? (i := 274) (by decide +kernel), List.mem_of_getElem? (i := 275) (by decide +kernel)⟩
theorem lw_p4 : lw_okq (⟨"LintPress$BestSet", "isWorthTaking", "(LLintPress$Findings;I)Z"⟩, 2) := ⟨⟨by decide +kernel, by decide +kernel⟩, List.mem_of_getElem? (i := 134) (by decide +kernel), List.mem_of_getElem? (i := 294) (by decide +kernel), List.mem_of_getElem? (i := 295) (by decide +kernel)⟩
theorem lw_p5 : lw_okq (⟨"LintPress$Layout", "chooseLineFrom", "(LLintPress$Text;II)V"⟩, 4) := ⟨⟨by decide +kernel, by decide +kernel⟩, List.mem_of_getElem? (i := 147) (by decide +kernel), List.mem_of_getElem? (i := 315) (by decide +kernel), List.mem_of_getElem? (i := 316) (by decide +kernel)⟩
theorem lw_p6 : lw_okq (⟨"LintPress", "shownIsLikeTried", "()Z"⟩, 9) := ⟨⟨by decide +kernel, by decide +kernel⟩, List.mem_of_getElem? (i := 23) (by decide +kernel), List.mem_of_getElem? (i := 357) (by decide +kernel), List.mem_of_getElem? (i := 358) (by decide +kernel)⟩
theorem lw_p7 : lw_okq (⟨"java/lang/Throwable", "fillInStackTrace", "(I)Ljava/lang/Throwable;"⟩, 6) := ⟨⟨by decide +kernel, by decide +kernel⟩, List.mem_of_getElem? (i := 460) (by decide +kernel), List.mem_of_getElem? (i := 458) (by decide +kernel), List.mem_of_getElem? (i := 459) (by decide +kernel)⟩
theorem lw_p8 : lw_okq (⟨"LintPress", "append", "(CII)I"⟩, 9) := ⟨⟨by decide +kernel, by decide +kernel⟩, List.mem_of_getElem? (i := 23) (by decide +kernel), List.mem_of_getElem? (i := 494) (by decide +kernel), List.mem_of_getElem? (i := 495) (by decide +kernel)⟩
theorem lw_p9 : lw_okq (⟨"LintPress$Text", "put", "(ICIIZ)V"⟩, 5) := ⟨⟨by decide +kernel, by decide +kernel⟩, List.mem_of_getElem? (i := 31) (by decide +kernel), List.mem_of_getElem? (i := 518) (by decide +kernel), List.mem_of_getElem? (i := 519) (by decide +kernel)⟩
theorem lw_p10 : lw_okq (⟨"LintPress", "needEntry", "(I)V"⟩, 9) := ⟨⟨by decide +kernel, by decide +kernel⟩, List.mem_of_getElem? (i := 23) (by decide +kernel), List.mem_of_getElem? (i := 590) (by decide +kernel), List.mem_of_getElem? (i := 591) (by decide +kernel)⟩
theorem lw_p11 : lw_okq (⟨"LintPress", "needFinding", "(I)V"⟩, 9) := ⟨⟨by decide +kernel, by decide +kernel⟩, List.mem_of_getElem? (i := 23) (by decide +kernel), List.mem_of_getElem? (i := 694) (by decide +kernel), List.mem_of_getElem? (i := 695) (by decide +kernel)⟩
theorem lw_p12 : lw_okq (⟨"LintPress", "startDeed", "()V"⟩, 9) := ⟨⟨by decide +kernel, by decide +kernel⟩, List.mem_of_getElem? (i := 23) (by decide +kernel), List.mem_of_getElem? (i := 764) (by decide +kernel), List.mem_of_getElem? (i := 765) (by decide +kernel)⟩
theorem lw_p13 : lw_okq (⟨"LintPress$Deeds", "newestDeed", "()LLintPress$Deed;"⟩, 3) := ⟨⟨by decide +kernel, by decide +kernel⟩, List.mem_of_getElem? (i := 80) (by decide +kernel), List.mem_of_getElem? (i := 773) (by decide +kernel), List.mem_of_getElem? (i := 774) (by decide +kernel)⟩
theorem lw_p14 : lw_okq (⟨"LintPress$Text", "copyEntry", "(LLintPress$Text;II)V"⟩, 5) := ⟨⟨by decide +kernel, by decide +kernel⟩, List.mem_of_getElem? (i := 31) (by decide +kernel), List.mem_of_getElem? (i := 785) (by decide +kernel), List.mem_of_getElem? (i := 786) (by decide +kernel)⟩
theorem lw_p15 : lw_okq (⟨"LintPress", "applyFix", "(I)V"⟩, 9) := ⟨⟨by decide +kernel, by decide +kernel⟩, List.mem_of_getElem? (i := 23) (by decide +kernel), List.mem_of_getElem? (i := 790) (by decide +kernel), List.mem_of_getElem? (i := 791) (by decide +kernel)⟩
def lw_privs_1 : List (MethodName × Nat) := [(⟨"LintPress$Findings", "note", "(LLintPress$Text;LLintPress$Rules;III)V"⟩, 5), (⟨"LintPress", "chooseBest", "()V"⟩, 9), (⟨"LintPress$BestSet", "sumUp", "(LLintPress$Findings;)V"⟩, 2), (⟨"LintPress$BestSet", "sumWith", "(LLintPress$Findings;I)I"⟩, 2), (⟨"LintPress$BestSet", "isWorthTaking", "(LLintPress$Findings;I)Z"⟩, 2), (⟨"LintPress$Layout", "chooseLineFrom", "(LLintPress$Text;II)V"⟩, 4), (⟨"LintPress", "shownIsLikeTried", "()Z"⟩, 9), (⟨"java/lang/Throwable", "fillInStackTrace", "(I)Ljava/lang/Throwable;"⟩, 6), (⟨"LintPress", "append", "(CII)I"⟩, 9), (⟨"LintPress$Text", "put", "(ICIIZ)V"⟩, 5), (⟨"LintPress", "needEntry", "(I)V"⟩, 9), (⟨"LintPress", "needFinding", "(I)V"⟩, 9), (⟨"LintPress", "startDeed", "()V"⟩, 9), (⟨"LintPress$Deeds", "newestDeed", "()LLintPress$Deed;"⟩, 3), (⟨"LintPress$Text", "copyEntry", "(LLintPress$Text;II)V"⟩, 5), (⟨"LintPress", "applyFix", "(I)V"⟩, 9)]
theorem lw_r1 : ∀ q ∈ lw_privs_1, lw_okq q := List.forall_mem_cons.mpr ⟨lw_p0, List.forall_mem_cons.mpr ⟨lw_p1, List.forall_mem_cons.mpr ⟨lw_p2, List.forall_mem_cons.mpr ⟨lw_p3, List.forall_mem_cons.mpr ⟨lw_p4, List.forall_mem_cons.mpr ⟨lw_p5, List.forall_mem_cons.mpr ⟨lw_p6, List.forall_mem_cons.mpr ⟨lw_p7, List.forall_mem_cons.mpr ⟨lw_p8, List.forall_mem_cons.mpr ⟨lw_p9, List.forall_mem_cons.mpr ⟨lw_p10, List.forall_mem_cons.mpr ⟨lw_p11, List.forall_mem_cons.mpr ⟨lw_p12, List.forall_mem_cons.mpr ⟨lw_p13, List.forall_mem_cons.mpr ⟨lw_p14, List.forall_mem_cons.mpr ⟨lw_p15, fun _ h => absurd h List.not_mem_nil⟩⟩⟩⟩⟩⟩⟩⟩⟩⟩⟩⟩⟩⟩⟩⟩
theorem lw_p16 : lw_okq (⟨"LintPress", "needLayout", "()V"⟩, 9) := ⟨⟨by decide +kernel, by decide +kernel⟩, List.mem_of_getElem? (i := 23) (by decide +kernel), List.mem_of_getElem? (i := 977) (by decide +kernel), List.mem_of_getElem? (i := 978) (by decide +kernel)⟩
theorem lw_p17 : lw_okq (⟨"LintPressModel", "fails", "(ZI)Z"⟩, 26) := ⟨⟨by decide +kernel, by decide +kernel⟩, List.mem_of_getElem? (i := 1000) (by decide +kernel), List.mem_of_getElem? (i := 1100) (by decide +kernel), List.mem_of_getElem? (i := 1101) (by decide +kernel)⟩
theorem lw_p18 : lw_okq (⟨"LintPressModel", "add", "(CII)I"⟩, 26) := ⟨⟨by decide +kernel, by decide +kernel⟩, List.mem_of_getElem? (i := 1000) (by decide +kernel), List.mem_of_getElem? (i := 1104) (by decide +kernel), List.mem_of_getElem? (i := 1105) (by decide +kernel)⟩
theorem lw_p19 : lw_okq (⟨"LintPressModel", "depth", "(I)I"⟩, 26) := ⟨⟨by decide +kernel, by decide +kernel⟩, List.mem_of_getElem? (i := 1000) (by decide +kernel), List.mem_of_getElem? (i := 1116) (by decide +kernel), List.mem_of_getElem? (i := 1117) (by decide +kernel)⟩
theorem lw_p20 : lw_okq (⟨"LintPressModel", "open", "()I"⟩, 26) := ⟨⟨by decide +kernel, by decide +kernel⟩, List.mem_of_getElem? (i := 1000) (by decide +kernel), List.mem_of_getElem? (i := 1124) (by decide +kernel), List.mem_of_getElem? (i := 1125) (by decide +kernel)⟩
theorem lw_p21 : lw_okq (⟨"LintPressModel", "noEntry", "(I)Z"⟩, 26) := ⟨⟨by decide +kernel, by decide +kernel⟩, List.mem_of_getElem? (i := 1000) (by decide +kernel), List.mem_of_getElem? (i := 1136) (by decide +kernel), List.mem_of_getElem? (i := 1137) (by decide +kernel)⟩
theorem lw_p22 : lw_okq (⟨"LintPressModel", "wide", "(I)I"⟩, 26) := ⟨⟨by decide +kernel, by decide +kernel⟩, List.mem_of_getElem? (i := 1000) (by decide +kernel), List.mem_of_getElem? (i := 1148) (by decide +kernel), List.mem_of_getElem? (i := 1149) (by decide +kernel)⟩
theorem lw_p23 : lw_okq (⟨"LintPressModel", "occurs", "(I)I"⟩, 26) := ⟨⟨by decide +kernel, by decide +kernel⟩, List.mem_of_getElem? (i := 1000) (by decide +kernel), List.mem_of_getElem? (i := 1160) (by decide +kernel), List.mem_of_getElem? (i := 1161) (by decide +kernel)⟩
theorem lw_p24 : lw_okq (⟨"LintPressModel", "look", "()V"⟩, 26) := ⟨⟨by decide +kernel, by decide +kernel⟩, List.mem_of_getElem? (i := 1000) (by decide +kernel), List.mem_of_getElem? (i := 1180) (by decide +kernel), List.mem_of_getElem? (i := 1181) (by decide +kernel)⟩
theorem lw_p25 : lw_okq (⟨"LintPressModel", "are", "(ICC)Z"⟩, 26) := ⟨⟨by decide +kernel, by decide +kernel⟩, List.mem_of_getElem? (i := 1000) (by decide +kernel), List.mem_of_getElem? (i := 1184) (by decide +kernel), List.mem_of_getElem? (i := 1185) (by decide +kernel)⟩
theorem lw_p26 : lw_okq (⟨"LintPressModel", "find", "(III)V"⟩, 26) := ⟨⟨by decide +kernel, by decide +kernel⟩, List.mem_of_getElem? (i := 1000) (by decide +kernel), List.mem_of_getElem? (i := 1188) (by decide +kernel), List.mem_of_getElem? (i := 1189) (by decide +kernel)⟩
theorem lw_p27 : lw_okq (⟨"LintPressModel", "fixable", "(I)Z"⟩, 26) := ⟨⟨by decide +kernel, by decide +kernel⟩, List.mem_of_getElem? (i := 1000) (by decide +kernel), List.mem_of_getElem? (i := 1192) (by decide +kernel), List.mem_of_getElem? (i := 1193) (by decide +kernel)⟩
theorem lw_p28 : lw_okq (⟨"LintPressModel", "noFinding", "(I)Z"⟩, 26) := ⟨⟨by decide +kernel, by decide +kernel⟩, List.mem_of_getElem? (i := 1000) (by decide +kernel), List.mem_of_getElem? (i := 1200) (by decide +kernel), List.mem_of_getElem? (i := 1201) (by decide +kernel)⟩
theorem lw_p29 : lw_okq (⟨"LintPressModel", "fixables", "()I"⟩, 26) := ⟨⟨by decide +kernel, by decide +kernel⟩, List.mem_of_getElem? (i := 1000) (by decide +kernel), List.mem_of_getElem? (i := 1224) (by decide +kernel), List.mem_of_getElem? (i := 1225) (by decide +kernel)⟩
theorem lw_p30 : lw_okq (⟨"LintPressModel", "keep", "()V"⟩, 26) := ⟨⟨by decide +kernel, by decide +kernel⟩, List.mem_of_getElem? (i := 1000) (by decide +kernel), List.mem_of_getElem? (i := 1236) (by decide +kernel), List.mem_of_getElem? (i := 1237) (by decide +kernel)⟩
theorem lw_p31 : lw_okq (⟨"LintPressModel", "fixes", "(I)V"⟩, 26) := ⟨⟨by decide +kernel, by decide +kernel⟩, List.mem_of_getElem? (i := 1000) (by decide +kernel), List.mem_of_getElem? (i := 1240) (by decide +kernel), List.mem_of_getElem? (i := 1241) (by decide +kernel)⟩
def lw_privs_2 : List (MethodName × Nat) := [(⟨"LintPress", "needLayout", "()V"⟩, 9), (⟨"LintPressModel", "fails", "(ZI)Z"⟩, 26), (⟨"LintPressModel", "add", "(CII)I"⟩, 26), (⟨"LintPressModel", "depth", "(I)I"⟩, 26), (⟨"LintPressModel", "open", "()I"⟩, 26), (⟨"LintPressModel", "noEntry", "(I)Z"⟩, 26), (⟨"LintPressModel", "wide", "(I)I"⟩, 26), (⟨"LintPressModel", "occurs", "(I)I"⟩, 26), (⟨"LintPressModel", "look", "()V"⟩, 26), (⟨"LintPressModel", "are", "(ICC)Z"⟩, 26), (⟨"LintPressModel", "find", "(III)V"⟩, 26), (⟨"LintPressModel", "fixable", "(I)Z"⟩, 26), (⟨"LintPressModel", "noFinding", "(I)Z"⟩, 26), (⟨"LintPressModel", "fixables", "()I"⟩, 26), (⟨"LintPressModel", "keep", "()V"⟩, 26), (⟨"LintPressModel", "fixes", "(I)V"⟩, 26)]
theorem lw_r2 : ∀ q ∈ lw_privs_2, lw_okq q := List.forall_mem_cons.mpr ⟨lw_p16, List.forall_mem_cons.mpr ⟨lw_p17, List.forall_mem_cons.mpr ⟨lw_p18, List.forall_mem_cons.mpr ⟨lw_p19, List.forall_mem_cons.mpr ⟨lw_p20, List.forall_mem_cons.mpr ⟨lw_p21, List.forall_mem_cons.mpr ⟨lw_p22, List.forall_mem_cons.mpr ⟨lw_p23, List.forall_mem_cons.mpr ⟨lw_p24, List.forall_mem_cons.mpr ⟨lw_p25, List.forall_mem_cons.mpr ⟨lw_p26, List.forall_mem_cons.mpr ⟨lw_p27, List.forall_mem_cons.mpr ⟨lw_p28, List.forall_mem_cons.mpr ⟨lw_p29, List.forall_mem_cons.mpr ⟨lw_p30, List.forall_mem_cons.mpr ⟨lw_p31, fun _ h => absurd h List.not_mem_nil⟩⟩⟩⟩⟩⟩⟩⟩⟩⟩⟩⟩⟩⟩⟩⟩
theorem lw_p32 : lw_okq (⟨"LintPressModel", "change", "(II)V"⟩, 26) := ⟨⟨by decide +kernel, by decide +kernel⟩, List.mem_of_getElem? (i := 1000) (by decide +kernel), List.mem_of_getElem? (i := 1244) (by decide +kernel), List.mem_of_getElem? (i := 1245) (by decide +kernel)⟩
theorem lw_p33 : lw_okq (⟨"LintPressModel", "put", "(II)V"⟩, 26) := ⟨⟨by decide +kernel, by decide +kernel⟩, List.mem_of_getElem? (i := 1000) (by decide +kernel), List.mem_of_getElem? (i := 1248) (by decide +kernel), List.mem_of_getElem? (i := 1249) (by decide +kernel)⟩
theorem lw_p34 : lw_okq (⟨"LintPressModel", "remove", "(I)V"⟩, 26) := ⟨⟨by decide +kernel, by decide +kernel⟩, List.mem_of_getElem? (i := 1000) (by decide +kernel), List.mem_of_getElem? (i := 1252) (by decide +kernel), List.mem_of_getElem? (i := 1253) (by decide +kernel)⟩
theorem lw_p35 : lw_okq (⟨"LintPressModel", "measure", "()V"⟩, 26) := ⟨⟨by decide +kernel, by decide +kernel⟩, List.mem_of_getElem? (i := 1000) (by decide +kernel), List.mem_of_getElem? (i := 1299) (by decide +kernel), List.mem_of_getElem? (i := 1300) (by decide +kernel)⟩
theorem lw_p36 : lw_okq (⟨"LintPressModel", "costs", "(II)I"⟩, 26) := ⟨⟨by decide +kernel, by decide +kernel⟩, List.mem_of_getElem? (i := 1000) (by decide +kernel), List.mem_of_getElem? (i := 1304) (by decide +kernel), List.mem_of_getElem? (i := 1305) (by decide +kernel)⟩
theorem lw_p37 : lw_okq (⟨"LintPressModel", "span", "(II)I"⟩, 26) := ⟨⟨by decide +kernel, by decide +kernel⟩, List.mem_of_getElem? (i := 1000) (by decide +kernel), List.mem_of_getElem? (i := 1308) (by decide +kernel), List.mem_of_getElem? (i := 1309) (by decide +kernel)⟩
def lw_privs_3 : List (MethodName × Nat) := [(⟨"LintPressModel", "change", "(II)V"⟩, 26), (⟨"LintPressModel", "put", "(II)V"⟩, 26), (⟨"LintPressModel", "remove", "(I)V"⟩, 26), (⟨"LintPressModel", "measure", "()V"⟩, 26), (⟨"LintPressModel", "costs", "(II)I"⟩, 26), (⟨"LintPressModel", "span", "(II)I"⟩, 26)]
theorem lw_r3 : ∀ q ∈ lw_privs_3, lw_okq q := List.forall_mem_cons.mpr ⟨lw_p32, List.forall_mem_cons.mpr ⟨lw_p33, List.forall_mem_cons.mpr ⟨lw_p34, List.forall_mem_cons.mpr ⟨lw_p35, List.forall_mem_cons.mpr ⟨lw_p36, List.forall_mem_cons.mpr ⟨lw_p37, fun _ h => absurd h List.not_mem_nil⟩⟩⟩⟩⟩⟩
def lw_privs : List (MethodName × Nat) := lw_privs_1 ++ (lw_privs_2 ++ (lw_privs_3))
def lw_tbl : List Cond := k2_sels lw_privs ++ tables_1
theorem lw_privs_ok : ∀ q ∈ lw_privs, lw_okq q := by
  show ∀ q ∈ lw_privs_1 ++ (lw_privs_2 ++ (lw_privs_3)), lw_okq q
  exact List.forall_mem_append.mpr ⟨lw_r1, List.forall_mem_append.mpr ⟨lw_r2, lw_r3⟩⟩
/-- the streams that the claim lets the run draw from -/
abbrev lw_cs : List Choice := [Jvm.Choice.named "NaN.bits"]
theorem lw_bits : nanBits ∈ lw_cs := by first | decide | exact List.mem_cons_self | simp [lw_cs, nanBits]
/-! ===== BEGIN words of one list among another's, by their places ===== -/
theorem goodIn_r {big : List Cond} (ws : List Cond) (ps : List Nat) (hp : ws = ps.filterMap (fun i => big[i]?)) (h : ws.all goodWord = true) : GoodIn big ws := by
  intro w hw
  have h1 := List.all_eq_true.mp h w hw
  rw [hp] at hw
  obtain ⟨i, -, hi⟩ := List.mem_filterMap.mp hw
  have hm : w ∈ big := by first | exact List.mem_of_getElem? hi | exact List.getElem?_mem hi
  exact ⟨hm, good_of_word h1⟩
theorem goodIn_app {big a b : List Cond} (ha : GoodIn big a) (hb : GoodIn big b) : GoodIn big (a ++ b) := fun w h => (List.mem_append.mp h).elim (ha w) (hb w)
theorem goodIn_ca {big a b : List Cond} {c : Cond} (ha : GoodIn big (c :: a)) (hb : GoodIn big b) : GoodIn big (c :: (a ++ b)) := fun w h => (List.mem_cons.mp h).elim (fun e => ha w (List.mem_cons.mpr (Or.inl e))) (fun h => (List.mem_append.mp h).elim (fun h => ha w (List.mem_cons.mpr (Or.inr h))) (hb w))
theorem goodIn_sub {big ws : List Cond} (hm : ∀ w ∈ ws, w ∈ big) (h : ws.all goodWord = true) : GoodIn big ws := fun w hw => ⟨hm w hw, good_of_word (List.all_eq_true.mp h w hw)⟩
/-! ===== END ===== -/

/-! ===== BEGIN exceptions that leave a method, and their catching by the caller (launches without stack traces) ===== -/
section VXA
/-! The laws vx_back, vx_callV, vx_callS, vx_callSW, vx_throw0, vx_throwS follow proofs of the library, with one case more: JvmDerived/Free/Laws.lean (Back.of_free), Shelf42/LK1.lean (callV, callS), Shelf/KitTraced.lean (throwNew0V, throwNewS). -/
/-- where a method has thrown q: the class by its name, the cell, what was written, the world -/
def vx_T (XC : String → State → State → Prop) (st : State) (q : Addr) (t : State) (mc ms : Nat) (free : Addr → Prop) : Prop :=
  ∃ (E : String) (ce : Cell) (L : List Loc), XC E st t ∧ t.heap[q]? = some ce ∧ ce.vm = .none ∧ st.vm.findClass E = some ce.cls ∧ st.WarmedH t.vm ∧ st.sameButNew ({ t with vm := st.vm } : State) L mc ms ∧ ∀ z ∈ L, free z.base
def vx_Q (Qc : Array Value → State → Outcome → State → Prop) (XC : String → State → State → Prop) (mc ms : Nat) (free : Addr → Prop) : Array Value → State → Outcome → State → Prop := fun a st o t =>
  (Qc a st o t ∧ ∃ L, FrameEnd st o t L mc ms ∧ ∀ q ∈ L, free q.base) ∨ ∃ q, o = .threw q ∧ vx_T XC st q t mc ms free
/-- a callee that returns or throws -/
def vx_Met (l : Launch) (y : MethodName) (ws : List Cond) (rm : Room) (Pc : Array Value → State → Prop) (Qc : Array Value → State → Outcome → State → Prop) (XC : String → State → State → Prop) (mc ms : Nat) (free : Addr → Prop) : Prop :=
  MetFree l y (headSpec ws rm) Pc (fun _ _ _ _ _ => True) (vx_Q Qc XC mc ms free)
def vx_Post (XC : String → State → State → Prop) (mc ms : Nat) (free : Addr → Prop) : Pt → Array Value → Addr → Pt → Prop := fun A a q B =>
  ∃ (g : JFrame) (mk : MethodId) (t : State) (L : List Loc) (E : String) (ce : Cell), B.U.heap = t.heap ∧ B.U.vm = t.vm ∧ XC E (A.U.calling g mk a) t ∧ t.heap[q]? = some ce ∧ ce.vm = .none ∧ A.U.vm.findClass E = some ce.cls ∧ B.locs = A.locs ++ L ∧ (∀ z ∈ L, free z.base) ∧ B.cells = A.cells + mc ∧ B.slots = A.slots + ms
def vx_Back (l : Launch) (R : Room) (p : Program) (e : Env) (below : List Frame) (s : State) (sargs : Array Value) (y : MethodName) (len W9 : Nat)
    (Pre : Pt → Array Value → Prop) (Post : Pt → Array Value → Option Value → Pt → Prop) (PostX : Pt → Array Value → Addr → Pt → Prop) : Prop :=
  ∀ (m : MethodId) (meth : Method) (c : Code) (A : Pt) (g : JFrame) (ig : Instr) (mk : MethodId) (a : Array Value),
    Stand p l e R s m sargs below meth c A.U A.locs A.cells A.slots → g.method = m → g.locals.size = c.maxLocals → decode c.code g.pc = .ok (ig, len) →
    2 * g.monitorRoom + (g.stack.map fun v => v.category).sum ≤ W9 → A.U.methodNamed? y = some mk → Pre A a →
    (∃ (v : Option Value) (B : Pt), Stand p l e R s m sargs below meth c B.U B.locs B.cells B.slots ∧ Post A a v B ∧
      Steps p.tables e below (doInvoke e (A.U.setTop g) [] mk a).1 (B.U.setTop { g with pc := g.pc + len, stack := v.toList ++ g.stack })) ∨
    (∃ (q : Addr) (B : Pt), Stand p l e R s m sargs below meth c B.U B.locs B.cells B.slots ∧ PostX A a q B ∧
      Steps p.tables e below (doInvoke e (A.U.setTop g) [] mk a).1 ((B.U.setTop g).pushFrame (.throwing q)))
section Payer
variable {l : Launch} {R : Room} {p : Program} {e : Env} {below : List Frame} {s : State} {sargs : Array Value} {y : MethodName} {len W9 : Nat}
theorem vx_back {ws : List Cond} {rm : Room} {Pc : Array Value → State → Prop} {Qc : Array Value → State → Outcome → State → Prop} {XC : String → State → State → Prop} {mc ms : Nat} {free : Addr → Prop} {bytes : ByteArray} {maxL : Nat} {ret : Option FieldType}
    (hM : vx_Met l y ws rm Pc Qc XC mc ms free) (hblind : FrameBlind Pc) (hrc : rm.cells = mc) (hrs : rm.slots = ms)
    (hframes : rm.frames + 1 ≤ R.frames) (hlocals : W9 + (maxL + 11) + rm.locals ≤ R.locals)
    (hws : ∀ w ∈ ws, ∀ a' U, s.WarmedH U.vm → w.before a' U = true) (hcode : Cond.code y bytes maxL ret ∈ ws) (hinit : ∀ a' U, s.WarmedH U.vm → (Cond.initialized y.cls).before a' U = true) :
    vx_Back l R p e below s sargs y len W9 (PreOf R mc ms Pc) (PostOf Qc mc ms free) (vx_Post XC mc ms free) := by
  intro m meth c A g ig mk a X hg hsize hdg hW hn hp
  have h1 : (headSpec ws rm).pre.before a A.U = true := atoms_intro fun w hw => hws w hw _ _ X.warmed
  have h2 : (Cond.code y bytes maxL ret).before a A.U = true := hws _ hcode _ _ X.warmed
  have h3 : (Cond.initialized y.cls).before a A.U = true := hinit _ _ X.warmed
  have h4 : A.cells + (headSpec ws rm).room.cells ≤ R.cells := by rw [show (headSpec ws rm).room.cells = mc from hrc]; exact hp.1
  have h5 : A.slots + (headSpec ws rm).room.slots ≤ R.slots := by rw [show (headSpec ws rm).room.slots = ms from hrs]; exact hp.2.1
  have hPc : Pc a (A.U.calling g mk a) := hblind _ _ _ _ hp.2.2
  obtain ⟨U, Ls, c0, s0⟩ := A
  dsimp only [Pt.U, Pt.locs, Pt.cells, Pt.slots] at h1 h2 h3 h4 h5 X hn hPc ⊢
  obtain ⟨methY, cY, hmY, hcY, -, hlY, -, -, -, -⟩ := Cond.code_spec hn h2
  obtain ⟨kY, hkY, -⟩ := className_of_methodNamed hn
  have hinitY : kY.init = .initialized := Cond.initialized_spec (findClass_of_methodNamed hn) hkY h3
  have h : At U g.method c below := by rw [hg]; exact X.here
  have hlocals9 : W9 + (maxL + 11) + (headSpec ws rm).room.locals ≤ R.locals := hlocals
  have happ : (headSpec ws rm).appliesLoose y e.platform (U.calling g mk a) = true :=
    Spec.appliesLoose_calling (g := g) h hdg hn hkY hinitY
      (X.room_calling (g := g) (R' := (headSpec ws rm).room) hsize hmY hcY hframes (by rw [hlY]; omega) h4 h5) h1
  obtain ⟨mid, hmid⟩ := h.above
  have hfr : (U.setTop g).frames = (.java g :: mid) ++ below := by rw [State.frames_setTop' g h.top, hmid]; rfl
  obtain ⟨o, s₂, hsteps, -, hend, hq⟩ := Steps.callFree hM p X.admits X.cas X.clock (acts := []) hfr happ hPc trivial
  have hq' : vx_Q Qc XC mc ms free a (U.calling g mk a) o s₂ := hq
  rw [State.frames_setTop' g h.top] at hend
  obtain ⟨g₀, hg0⟩ := Option.isSome_iff_exists.mp h.top
  obtain ⟨r, hr⟩ := State.topJava?_eq_some.mp hg0
  have hr' : (({ U with heap := s₂.heap, slotsUsed := s₂.slotsUsed } : State).setVm s₂.vm).frames = .java g₀ :: r := hr
  rcases hq' with ⟨hqc, L, hfe, hL⟩ | ⟨q, rfl, E, ce, L, hx, hce, hcv, hcl, hW₂, hsm, hL⟩
  · obtain ⟨⟨v, rfl⟩, hW₂, e2, q2, q3, q4, q5, q6⟩ := id hfe
    have e3 : s₂ = ({ (U.calling g mk a).setFrames s₂.frames with heap := s₂.heap, slotsUsed := s₂.slotsUsed } : State).setVm s₂.vm := by
      have : s₂ = ({ s₂ with vm := (U.calling g mk a).vm } : State).setVm s₂.vm := rfl
      rw [e2] at this
      exact this
    obtain ⟨c₂, i₂, len₂, hc₂, hd₂, hf₂⟩ := hend
    have hW' : U.WarmedH s₂.vm := hW₂
    have hcc : c₂ = c := by
      have h1 : s₂.code? g.method = U.code? g.method := by
        rw [State.code?_eq, State.code?_eq, hW'.alike.method?]
      exact Option.some.inj (hc₂.symm.trans (h1.trans h.code))
    subst hcc
    have hlen : len₂ = len := by rw [hdg] at hd₂; cases hd₂; rfl
    subst hlen
    have hs₂ : s₂ = (({ U with heap := s₂.heap, slotsUsed := s₂.slotsUsed } : State).setVm s₂.vm).setTop { g with pc := g.pc + len₂, stack := v.toList ++ g.stack } := by
      refine e3.trans ?_
      rw [hf₂, State.calling_eq h.top, State.setFrames_setFrames, State.setTop_of_frames _ hr', hr]
      rfl
    have hsame : U.sameButNew ({ U with heap := s₂.heap, slotsUsed := s₂.slotsUsed } : State) L mc ms := by
      refine ⟨?_, q2, q3, q4, q5, q6⟩
      obtain ⟨t, ht, -⟩ := State.frames_cons hr
      show ({ U with heap := s₂.heap, slotsUsed := s₂.slotsUsed } : State) = { U.setFrames U.frames with heap := s₂.heap, slotsUsed := s₂.slotsUsed }
      rw [State.setFrames_self ht]
    subst hg
    refine Or.inl ⟨v, ⟨(({ U with heap := s₂.heap, slotsUsed := s₂.slotsUsed } : State).setVm s₂.vm), Ls ++ L, c0 + mc, s0 + ms⟩,
      ⟨X.admits, X.cas, X.clock, X.frames, X.room, X.hears, X.method, X.code, (X.here.setHeapUsed s₂.heap s₂.slotsUsed).setVm hW'.alike, X.tail, State.WarmedH.trans X.warmed hW', X.limits, X.bytes, X.same.trans (hsame.setVm s.vm)⟩,
      ⟨g, mk, s₂, L, rfl, rfl, hqc, rfl, hL, rfl, rfl⟩, ?_⟩
    show Steps p.tables e below _ ((({ U with heap := s₂.heap, slotsUsed := s₂.slotsUsed } : State).setVm s₂.vm).setTop { g with pc := g.pc + len₂, stack := v.toList ++ g.stack })
    rw [← hs₂]
    exact hsteps
  · obtain ⟨e2, q2, q3, q4, q5, q6⟩ := id hsm
    have e3 : s₂ = ({ (U.calling g mk a).setFrames s₂.frames with heap := s₂.heap, slotsUsed := s₂.slotsUsed } : State).setVm s₂.vm := by
      have : s₂ = ({ s₂ with vm := (U.calling g mk a).vm } : State).setVm s₂.vm := rfl
      rw [e2] at this
      exact this
    have hf₂ : s₂.frames = .throwing q :: .java g :: U.frames.tail := hend
    have hW' : U.WarmedH s₂.vm := hW₂
    have hs₂ : s₂ = ((({ U with heap := s₂.heap, slotsUsed := s₂.slotsUsed } : State).setVm s₂.vm).setTop g).pushFrame (.throwing q) := by
      refine e3.trans ?_
      rw [hf₂, State.calling_eq h.top, State.setFrames_setFrames, State.pushFrame, State.frames_setTop _ hr', State.setTop_of_frames _ hr', State.setFrames_setFrames, hr]
      rfl
    have hsame : U.sameButNew ({ U with heap := s₂.heap, slotsUsed := s₂.slotsUsed } : State) L mc ms := by
      refine ⟨?_, q2, q3, q4, q5, q6⟩
      obtain ⟨t, ht, -⟩ := State.frames_cons hr
      show ({ U with heap := s₂.heap, slotsUsed := s₂.slotsUsed } : State) = { U.setFrames U.frames with heap := s₂.heap, slotsUsed := s₂.slotsUsed }
      rw [State.setFrames_self ht]
    subst hg
    refine Or.inr ⟨q, ⟨(({ U with heap := s₂.heap, slotsUsed := s₂.slotsUsed } : State).setVm s₂.vm), Ls ++ L, c0 + mc, s0 + ms⟩,
      ⟨X.admits, X.cas, X.clock, X.frames, X.room, X.hears, X.method, X.code, (X.here.setHeapUsed s₂.heap s₂.slotsUsed).setVm hW'.alike, X.tail, State.WarmedH.trans X.warmed hW', X.limits, X.bytes, X.same.trans (hsame.setVm s.vm)⟩,
      ⟨g, mk, s₂, L, E, ce, rfl, rfl, hx, hce, hcv, hcl, rfl, hL, rfl, rfl⟩, ?_⟩
    show Steps p.tables e below _ (((({ U with heap := s₂.heap, slotsUsed := s₂.slotsUsed } : State).setVm s₂.vm).setTop g).pushFrame (.throwing q))
    rw [← hs₂]
    exact hsteps
end Payer
section Calls
variable {p : Program} {l : Launch} {e : Env} {R : Room} {s : State} {m : MethodId} {args : Array Value} {below : List Frame} {meth : Method} {c : Code} {T : State} {locs : List Loc} {cells slots : Nat}
theorem vx_callV (X : Stand p l e R s m args below meth c T locs cells slots) (hexec : p.tables.exec = Jvm.exec) {own C : String} {index : Nat} {y : MethodName} {bytes : ByteArray} {maxL : Nat} {ret : Option FieldType}
    (hown : s.vm.findClass own = some m.cls) (hlink : (Cond.methodLink own index y).before args s = true) (hinst : (Cond.instanceMethod y).before args s = true) (hsel : (Cond.selects C y y).before args s = true)
    (hcode : (Cond.code y bytes maxL ret).before args s = true) (hy : y.cls ≠ "java/lang/invoke/MethodHandle" ∧ y.cls ≠ "java/lang/invoke/VarHandle")
    {W9 : Nat} {Pre : Pt → Array Value → Prop} {Post : Pt → Array Value → Option Value → Pt → Prop} {PostX : Pt → Array Value → Addr → Pt → Prop} (hK : vx_Back l R p e below s args y 3 W9 Pre Post PostX)
    {b : Addr} {cellB : Cell} (hcell : T.heap[b]? = some cellB) (hobj : cellB.vm.isStatics = false) (hcls : s.vm.findClass C = some cellB.cls)
    {g : JFrame} (hg : g.method = m) (hsize : g.locals.size = c.maxLocals) {argsL rest : List Value} (hlen : ∀ sig, parseMethodDescriptor y.desc = some sig → argsL.length = sig.parameters.length)
    (hstack : g.stack = argsL.reverse ++ .ref b :: rest) (hW : 2 * g.monitorRoom + (rest.map fun v => v.category).sum ≤ W9) (hdg : decode c.code g.pc = .ok (.invokevirtual index, 3))
    (hpre : ∀ vm₁, s.WarmedH vm₁ → Pre ⟨T.setVm vm₁, locs, cells, slots⟩ (Value.ref b :: argsL).toArray) :
    (∃ (v : Option Value) (vm₁ : Vm) (B : Pt), s.WarmedH vm₁ ∧ Stand p l e R s m args below meth c B.U B.locs B.cells B.slots ∧ Post ⟨T.setVm vm₁, locs, cells, slots⟩ (Value.ref b :: argsL).toArray v B ∧
      ∀ target, Steps p.tables e below (B.U.setTop { g with pc := g.pc + 3, stack := v.toList ++ rest }) target → Steps p.tables e below (T.setTop g) target) ∨
    (∃ (q : Addr) (vm₁ : Vm) (B : Pt), s.WarmedH vm₁ ∧ Stand p l e R s m args below meth c B.U B.locs B.cells B.slots ∧ PostX ⟨T.setVm vm₁, locs, cells, slots⟩ (Value.ref b :: argsL).toArray q B ∧
      Steps p.tables e below (T.setTop g) ((B.U.setTop { g with stack := rest }).pushFrame (.throwing q))) := by
  obtain ⟨mk, methM, hnamed, hmethM, hstM, habM⟩ := Cond.instanceMethod_spec hinst
  obtain ⟨methM', cM, hmethM', -, -, -, -, -, -, hsigM⟩ := Cond.code_spec hnamed hcode
  cases hmethM.symm.trans hmethM'
  obtain ⟨c2, r2, m2, q1, q2, q3, q4, kP, hkP, hkPi⟩ := Cond.selects_spec hsel
  cases hcls.symm.trans q1
  cases (State.methodFound?_of_named hnamed hy).symm.trans q2
  cases hnamed.symm.trans q3
  have hselP : selectMethod e.platform s.vm cellB.cls mk = .method mk := by rw [Launch.admits_selectMethod X.admits]; exact q4
  obtain ⟨vm₁, X₁, hstep₁⟩ := X.invokevirtual hexec hown hlink hnamed hmethM hstM hkP hkPi hy (a := b) (cell := cellB) hcell
    (fun z h => by rw [h] at hobj; cases hobj) hselP hmethM habM hkP hkPi (g := g) hg (argsL := argsL) (rest := rest) (hlen _ hsigM) hstack hdg
  rcases hK m meth c ⟨T.setVm vm₁, locs, cells, slots⟩ { g with stack := rest } (.invokevirtual index) mk (Value.ref b :: argsL).toArray X₁ hg hsize hdg hW (X₁.named hnamed) (hpre vm₁ X₁.warmed) with ⟨v, B, X', hpost, hsteps⟩ | ⟨q, B, X', hpost, hsteps⟩
  · exact Or.inl ⟨v, vm₁, B, X₁.warmed, X', hpost, fun target h => hstep₁ _ fun acts => by rw [doInvoke_state]; exact hsteps.trans h⟩
  · exact Or.inr ⟨q, vm₁, B, X₁.warmed, X', hpost, hstep₁ _ fun acts => by rw [doInvoke_state]; exact hsteps⟩
theorem vx_callS (X : Stand p l e R s m args below meth c T locs cells slots) (hexec : p.tables.exec = Jvm.exec) {own : String} {index : Nat} {y : MethodName} {bytes : ByteArray} {maxL : Nat} {ret : Option FieldType}
    (hown : s.vm.findClass own = some m.cls) (hlink : (Cond.methodLink own index y).before args s = true) (hstat : (Cond.static y).before args s = true) (hinit : (Cond.initialized y.cls).before args s = true)
    (hcode : (Cond.code y bytes maxL ret).before args s = true) (hy : y.cls ≠ "java/lang/invoke/MethodHandle" ∧ y.cls ≠ "java/lang/invoke/VarHandle")
    {W9 : Nat} {Pre : Pt → Array Value → Prop} {Post : Pt → Array Value → Option Value → Pt → Prop} {PostX : Pt → Array Value → Addr → Pt → Prop} (hK : vx_Back l R p e below s args y 3 W9 Pre Post PostX)
    {g : JFrame} (hg : g.method = m) (hsize : g.locals.size = c.maxLocals) {argsL rest : List Value} (hlen : ∀ sig, parseMethodDescriptor y.desc = some sig → argsL.length = sig.parameters.length)
    (hstack : g.stack = argsL.reverse ++ rest) (hW : 2 * g.monitorRoom + (rest.map fun v => v.category).sum ≤ W9) (hdg : decode c.code g.pc = .ok (.invokestatic index, 3))
    (hpre : ∀ vm₁, s.WarmedH vm₁ → Pre ⟨T.setVm vm₁, locs, cells, slots⟩ argsL.toArray) :
    (∃ (v : Option Value) (vm₁ : Vm) (B : Pt), s.WarmedH vm₁ ∧ Stand p l e R s m args below meth c B.U B.locs B.cells B.slots ∧ Post ⟨T.setVm vm₁, locs, cells, slots⟩ argsL.toArray v B ∧
      ∀ target, Steps p.tables e below (B.U.setTop { g with pc := g.pc + 3, stack := v.toList ++ rest }) target → Steps p.tables e below (T.setTop g) target) ∨
    (∃ (q : Addr) (vm₁ : Vm) (B : Pt), s.WarmedH vm₁ ∧ Stand p l e R s m args below meth c B.U B.locs B.cells B.slots ∧ PostX ⟨T.setVm vm₁, locs, cells, slots⟩ argsL.toArray q B ∧
      Steps p.tables e below (T.setTop g) ((B.U.setTop { g with stack := rest }).pushFrame (.throwing q))) := by
  obtain ⟨mk, hnamed⟩ := Cond.code_named hcode
  obtain ⟨methM, cM, hmethM, -, -, -, -, -, -, hsigM⟩ := Cond.code_spec hnamed hcode
  have hstatic : methM.isStatic = true := Cond.static_spec hnamed hmethM hstat
  obtain ⟨kP, hkP, -⟩ := className_of_methodNamed hnamed
  have hinitP : kP.init = .initialized := Cond.initialized_spec (findClass_of_methodNamed hnamed) hkP hinit
  obtain ⟨vm₁, X₁, hstep₁⟩ := X.invokestatic hexec hown hlink hnamed hmethM hstatic hkP hinitP hy (g := g) hg (argsL := argsL) (rest := rest) (hlen _ hsigM) hstack hdg
  rcases hK m meth c ⟨T.setVm vm₁, locs, cells, slots⟩ { g with stack := rest } (.invokestatic index) mk argsL.toArray X₁ hg hsize hdg hW (X₁.named hnamed) (hpre vm₁ X₁.warmed) with ⟨v, B, X', hpost, hsteps⟩ | ⟨q, B, X', hpost, hsteps⟩
  · exact Or.inl ⟨v, vm₁, B, X₁.warmed, X', hpost, fun target h => hstep₁ _ fun acts => by rw [doInvoke_state]; exact hsteps.trans h⟩
  · exact Or.inr ⟨q, vm₁, B, X₁.warmed, X', hpost, hstep₁ _ fun acts => by rw [doInvoke_state]; exact hsteps⟩
end Calls
theorem vx_cls {s : State} {T : State} {vm₁ : Vm} {E : String} {k : ClassId} (hW : s.WarmedH vm₁) (h : (T.setVm vm₁).vm.findClass E = some k) : s.vm.findClass E = some k := by
  have h1 : vm₁.findClass E = some k := h
  rw [hW.alike.findClass] at h1
  exact h1
/-- the method's frame g, with q thrown over it -/
def vx_W (p : Program) (l : Launch) (e : Env) (R : Room) (s : State) (m : MethodId) (args : Array Value) (below : List Frame) (meth : Method) (c : Code) (H : Heap) (locs : List Loc) (cells slots : Nat) (Q : State → Prop) (g : JFrame) (q : Addr) : Prop :=
  ∀ T : State, T.heap = H → Stand p l e R s m args below meth c T locs cells slots → ∃ t, Steps p.tables e below ((T.setTop g).pushFrame (.throwing q)) t ∧ Q t
def vx_Run (p : Program) (l : Launch) (e : Env) (R : Room) (s : State) (m : MethodId) (args : Array Value) (below : List Frame) (meth : Method) (c : Code) (H : Heap) (locs : List Loc) (cells slots mc ms : Nat) (g : JFrame) (rest : List Value) (Qa : State → Outcome → State → Prop) (XC : String → State → State → Prop) (free : Addr → Prop) : Prop :=
  ∀ T : State, T.heap = H → Stand p l e R s m args below meth c T locs cells slots →
    (∃ (v : Option Value) (st₀ t T' : State) (L : List Loc), st₀.heap = H ∧ Stand p l e R s m args below meth c T' (locs ++ L) (cells + mc) (slots + ms) ∧ (∀ q ∈ L, free q.base) ∧ T'.heap = t.heap ∧ T'.vm = t.vm ∧ Qa st₀ (.returned v) t ∧
      Goes p e below T g T' { g with pc := g.pc + 3, stack := v.toList ++ rest }) ∨
    (∃ (q : Addr) (st₀ t T' : State) (L : List Loc) (E : String) (ce : Cell), st₀.heap = H ∧ Stand p l e R s m args below meth c T' (locs ++ L) (cells + mc) (slots + ms) ∧ (∀ z ∈ L, free z.base) ∧ T'.heap = t.heap ∧ T'.vm = t.vm ∧ XC E st₀ t ∧ t.heap[q]? = some ce ∧ ce.vm = .none ∧ s.vm.findClass E = some ce.cls ∧
      Steps p.tables e below (T.setTop g) ((T'.setTop { g with stack := rest }).pushFrame (.throwing q)))
def vx_X {S : Type} (px : S → Prop) (B : String → S → State → Prop) (A : Nat → Prop) : String → State → State → Prop := fun E st t => ∃ u : S, px u ∧ B E u t ∧ va_F A st t
section Runs
variable {p : Program} {l : Launch} {e : Env} {R : Room} {s : State} {m : MethodId} {args : Array Value} {below : List Frame} {meth : Method} {c : Code} {H : Heap} {locs : List Loc} {cells slots : Nat}
variable {y : MethodName} {bytes cc : ByteArray} {maxL nL mc ms n index : Nat} {ret : Option FieldType} {ws : List Cond} {rm : Room} {Pc : Array Value → State → Prop} {Qc : Array Value → State → Outcome → State → Prop} {XC : String → State → State → Prop} {free : Addr → Prop} {Ts : List Cond} {own C : String} {b : Addr} {As rest : List Value} {g : JFrame}
theorem vx_callBack (cb : CallB R s args own index y bytes maxL ret ws rm mc ms n) (hM : vx_Met l y ws rm Pc Qc XC mc ms free) (hbl : FrameBlind Pc) : vx_Back l R p e below s args y 3 8 (PreOf R mc ms Pc) (PostOf Qc mc ms free) (vx_Post XC mc ms free) := by
  obtain ⟨hrc, hrs, hfr, hlo, hws, hcw, -, hini, -⟩ := cb
  exact vx_back (bytes := bytes) (maxL := maxL) (ret := ret) hM hbl hrc hrs hfr hlo hws hcw (fun a' U hW => word_at hW (Or.inl (by first | rfl | simp [Cond.onTables, Cond.keeps, Cond.steady])) hini)
theorem vx_runV (S : CallFix p m c cc nL s args Ts own) (hM : vx_Met l y ws rm Pc Qc XC mc ms free) (cw : CallW R s args own C index y bytes maxL ret ws rm mc ms n) (hp : PreV s H C b Pc As)
    (hg : g.method = m) (hn : As.length = n) (hsize : g.locals.size = nL) (hstack : g.stack = As.reverse ++ .ref b :: rest) (hW : 2 * g.monitorRoom + (rest.map fun v => v.category).sum ≤ 8) (hdg : decode cc g.pc = .ok (.invokevirtual index, 3)) (hf : cells + mc ≤ R.cells ∧ slots + ms ≤ R.slots) :
    vx_Run p l e R s m args below meth c H locs cells slots mc ms g rest (Qc (Value.ref b :: As).toArray) XC free := by
  have hK : vx_Back l R p e below s args y 3 8 (PreOf R mc ms Pc) (PostOf Qc mc ms free) (vx_Post XC mc ms free) := vx_callBack cw.1 hM hp.1
  obtain ⟨⟨-, -, -, -, -, -, hcode, -, hy, hlen, hl⟩, hin, hse⟩ := cw
  obtain ⟨hx, hb, hml, ho, -⟩ := S
  obtain ⟨-, ⟨cellB, hcB, hoB, hclB⟩, hPc⟩ := hp
  intro T hT X
  rcases vx_callV X hx (C := C) (bytes := bytes) (maxL := maxL) (ret := ret) ho hl hin hse hcode hy hK (by rw [hT]; exact hcB) hoB hclB hg (hsize.trans hml.symm) (argsL := As) (rest := rest) (fun sig h => hn.trans (hlen sig h)) hstack hW (by rw [hb]; exact hdg)
    (fun vm₁ hW₁ => ⟨hf.1, hf.2, hPc (T.setVm vm₁) hT hW₁⟩) with ⟨v, vm₁, ⟨U', l2, c2, s2⟩, hW₁, X', ⟨g', mk, t, L, e1, e2, hq, h1, hL, h2, h3⟩, st⟩ | ⟨q, vm₁, ⟨U', l2, c2, s2⟩, hW₁, X', ⟨g', mk, t, L, E, ce, e1, e2, hq, hce, hcv, hcl, h1, hL, h2, h3⟩, st⟩
  · dsimp only [Pt.U, Pt.locs, Pt.cells, Pt.slots] at X' e1 e2 h1 h2 h3 st
    subst h1; subst h2; subst h3
    exact Or.inl ⟨v, (T.setVm vm₁).calling g' mk (Value.ref b :: As).toArray, t, U', L, hT, X', hL, e1, e2, hq, st⟩
  · dsimp only [Pt.U, Pt.locs, Pt.cells, Pt.slots] at X' e1 e2 h1 h2 h3 st hcl
    subst h1; subst h2; subst h3
    exact Or.inr ⟨q, (T.setVm vm₁).calling g' mk (Value.ref b :: As).toArray, t, U', L, E, ce, hT, X', hL, e1, e2, hq, hce, hcv, vx_cls hW₁ hcl, st⟩
theorem vx_runS (S : CallFix p m c cc nL s args Ts own) (hM : vx_Met l y ws rm Pc Qc XC mc ms free) (cw : CallB R s args own index y bytes maxL ret ws rm mc ms n ∧ (Cond.static y).before args s = true) (hp : PreS s H Pc As)
    (hg : g.method = m) (hn : As.length = n) (hsize : g.locals.size = nL) (hstack : g.stack = As.reverse ++ rest) (hW : 2 * g.monitorRoom + (rest.map fun v => v.category).sum ≤ 8) (hdg : decode cc g.pc = .ok (.invokestatic index, 3)) (hf : cells + mc ≤ R.cells ∧ slots + ms ≤ R.slots) :
    vx_Run p l e R s m args below meth c H locs cells slots mc ms g rest (Qc As.toArray) XC free := by
  have hK : vx_Back l R p e below s args y 3 8 (PreOf R mc ms Pc) (PostOf Qc mc ms free) (vx_Post XC mc ms free) := vx_callBack cw.1 hM hp.1
  obtain ⟨⟨-, -, -, -, -, -, hcode, hini, hy, hlen, hl⟩, hstt⟩ := cw
  obtain ⟨hx, hb, hml, ho, -⟩ := S
  intro T hT X
  rcases vx_callS X hx (bytes := bytes) (maxL := maxL) (ret := ret) ho hl hstt hini hcode hy hK hg (hsize.trans hml.symm) (argsL := As) (rest := rest) (fun sig h => hn.trans (hlen sig h)) hstack hW (by rw [hb]; exact hdg)
    (fun vm₁ hW₁ => ⟨hf.1, hf.2, hp.2 (T.setVm vm₁) hT hW₁⟩) with ⟨v, vm₁, ⟨U', l2, c2, s2⟩, hW₁, X', ⟨g', mk, t, L, e1, e2, hq, h1, hL, h2, h3⟩, st⟩ | ⟨q, vm₁, ⟨U', l2, c2, s2⟩, hW₁, X', ⟨g', mk, t, L, E, ce, e1, e2, hq, hce, hcv, hcl, h1, hL, h2, h3⟩, st⟩
  · dsimp only [Pt.U, Pt.locs, Pt.cells, Pt.slots] at X' e1 e2 h1 h2 h3 st
    subst h1; subst h2; subst h3
    exact Or.inl ⟨v, (T.setVm vm₁).calling g' mk As.toArray, t, U', L, hT, X', hL, e1, e2, hq, st⟩
  · dsimp only [Pt.U, Pt.locs, Pt.cells, Pt.slots] at X' e1 e2 h1 h2 h3 st hcl
    subst h1; subst h2; subst h3
    exact Or.inr ⟨q, (T.setVm vm₁).calling g' mk As.toArray, t, U', L, E, ce, hT, X', hL, e1, e2, hq, hce, hcv, vx_cls hW₁ hcl, st⟩
end Runs
section Rows
variable {p : Program} {l : Launch} {e : Env} {R : Room} {s : State} {m : MethodId} {args : Array Value} {below : List Frame} {meth : Method} {c : Code} {H : Heap} {locs : List Loc} {cells slots : Nat} {Q : State → Prop}
variable {mc ms : Nat} {free : Addr → Prop} {A0 A1 : Nat → Prop} {H0 : Heap} {a : Array Value} {pc : Nat} {ls : Array Slot} {st0 rest : List Value}
theorem vx_keep {st₀ t T' : State} {L : List Loc} (h0 : st₀.heap = H) (e1 : T'.heap = t.heap) (hS : va_S A0 H0 H locs) (hA : ∀ q, q < H.size → A1 q → A0 q) (hf : ∀ q, free q → A0 q) (hL : ∀ q ∈ L, free q.base) (hF : va_F A1 st₀ t) :
    H.size ≤ T'.heap.size ∧ (∀ q : Nat, q < H.size → ¬ A1 q → T'.heap[q]? = H[q]?) ∧ va_S A0 H0 T'.heap (locs ++ L) := by
  obtain ⟨hz, hk⟩ := hF
  rw [h0] at hz hk
  exact ⟨by rw [e1]; exact hz, fun q h1 h2 => by rw [e1]; exact hk q h1 h2,
    ⟨Nat.le_trans hS.1 (by rw [e1]; exact hz), fun q h1 h2 => by rw [e1, hk q (Nat.lt_of_lt_of_le h1 hS.1) (fun z => h2 (hA q (Nat.lt_of_lt_of_le h1 hS.1) z))]; exact hS.2.1 q h1 h2, fun q hq => by
      rcases List.mem_append.mp hq with h | h
      · exact hS.2.2 q h
      · exact hf _ (hL q h)⟩⟩
theorem vx_calli {S SX : Type} {post : Int32 → S → Prop} {px : SX → Prop} {B : S → State → Prop} {BX : String → SX → State → Prop} {AX : Nat → Prop} (hr : vx_Run p l e R s m args below meth c H locs cells slots mc ms (F0 m pc ls st0) rest (va_Qi post B A1 a) (vx_X px BX AX) free) (hS : va_S A0 H0 H locs) (hA : ∀ q, q < H.size → A1 q → A0 q) (hf : ∀ q, free q → A0 q) (hAX : ∀ q, q < H.size → AX q → A0 q)
    (kx : ∀ (E : String) (ce : Cell) (q9 : Addr) (u : SX) (t : State) (H1 : Heap) (locs1 : List Loc), t.heap = H1 → s.vm.Alike t.vm → px u → BX E u t → H.size ≤ H1.size → (∀ q : Nat, q < H.size → ¬ AX q → H1[q]? = H[q]?) → va_S A0 H0 H1 locs1 → H1[q9]? = some ce → ce.vm = .none → s.vm.findClass E = some ce.cls → vx_W p l e R s m args below meth c H1 locs1 (cells + mc) (slots + ms) Q (F0 m pc ls rest) q9)
    (kk : ∀ (r : Int32) (u : S) (t : State) (H1 : Heap) (locs1 : List Loc), t.heap = H1 → s.vm.Alike t.vm → post r u → B u t → H.size ≤ H1.size → (∀ q : Nat, q < H.size → ¬ A1 q → H1[q]? = H[q]?) → va_S A0 H0 H1 locs1 → W p l e R s m args below meth c H1 locs1 (cells + mc) (slots + ms) Q (F0 m (pc + 3) ls (.int r :: rest))) : W p l e R s m args below meth c H locs cells slots Q (F0 m pc ls st0) := by
  intro T hT X
  rcases hr T hT X with ⟨v, st₀, t, T', L, h0, X', hL, e1, e2, ⟨⟨r, u, hv, hp, hb⟩, hF⟩, st⟩ | ⟨q, st₀, t, T', L, E, ce, h0, X', hL, e1, e2, ⟨u, hp, hb, hF⟩, hce, hcv, hcl, st⟩
  · cases hv
    obtain ⟨k1, k2, k3⟩ := vx_keep h0 e1 hS hA hf hL hF
    obtain ⟨t2, a1, b1⟩ := kk r u t T'.heap (locs ++ L) e1.symm (by rw [← e2]; exact X'.warmed.alike) hp hb k1 k2 k3 T' rfl X'
    exact ⟨t2, st t2 a1, b1⟩
  · obtain ⟨k1, k2, k3⟩ := vx_keep h0 e1 hS hAX hf hL hF
    obtain ⟨t2, a1, b1⟩ := kx E ce q u t T'.heap (locs ++ L) e1.symm (by rw [← e2]; exact X'.warmed.alike) hp hb k1 k2 k3 (by rw [e1]; exact hce) hcv hcl T' rfl X'
    exact ⟨t2, st.trans a1, b1⟩
theorem vx_calll {S SX : Type} {post : Int64 → S → Prop} {px : SX → Prop} {B : S → State → Prop} {BX : String → SX → State → Prop} {AX : Nat → Prop} (hr : vx_Run p l e R s m args below meth c H locs cells slots mc ms (F0 m pc ls st0) rest (va_Ql post B A1 a) (vx_X px BX AX) free) (hS : va_S A0 H0 H locs) (hA : ∀ q, q < H.size → A1 q → A0 q) (hf : ∀ q, free q → A0 q) (hAX : ∀ q, q < H.size → AX q → A0 q)
    (kx : ∀ (E : String) (ce : Cell) (q9 : Addr) (u : SX) (t : State) (H1 : Heap) (locs1 : List Loc), t.heap = H1 → s.vm.Alike t.vm → px u → BX E u t → H.size ≤ H1.size → (∀ q : Nat, q < H.size → ¬ AX q → H1[q]? = H[q]?) → va_S A0 H0 H1 locs1 → H1[q9]? = some ce → ce.vm = .none → s.vm.findClass E = some ce.cls → vx_W p l e R s m args below meth c H1 locs1 (cells + mc) (slots + ms) Q (F0 m pc ls rest) q9)
    (kk : ∀ (r : Int64) (u : S) (t : State) (H1 : Heap) (locs1 : List Loc), t.heap = H1 → s.vm.Alike t.vm → post r u → B u t → H.size ≤ H1.size → (∀ q : Nat, q < H.size → ¬ A1 q → H1[q]? = H[q]?) → va_S A0 H0 H1 locs1 → W p l e R s m args below meth c H1 locs1 (cells + mc) (slots + ms) Q (F0 m (pc + 3) ls (.long r :: rest))) : W p l e R s m args below meth c H locs cells slots Q (F0 m pc ls st0) := by
  intro T hT X
  rcases hr T hT X with ⟨v, st₀, t, T', L, h0, X', hL, e1, e2, ⟨⟨r, u, hv, hp, hb⟩, hF⟩, st⟩ | ⟨q, st₀, t, T', L, E, ce, h0, X', hL, e1, e2, ⟨u, hp, hb, hF⟩, hce, hcv, hcl, st⟩
  · cases hv
    obtain ⟨k1, k2, k3⟩ := vx_keep h0 e1 hS hA hf hL hF
    obtain ⟨t2, a1, b1⟩ := kk r u t T'.heap (locs ++ L) e1.symm (by rw [← e2]; exact X'.warmed.alike) hp hb k1 k2 k3 T' rfl X'
    exact ⟨t2, st t2 a1, b1⟩
  · obtain ⟨k1, k2, k3⟩ := vx_keep h0 e1 hS hAX hf hL hF
    obtain ⟨t2, a1, b1⟩ := kx E ce q u t T'.heap (locs ++ L) e1.symm (by rw [← e2]; exact X'.warmed.alike) hp hb k1 k2 k3 (by rw [e1]; exact hce) hcv hcl T' rfl X'
    exact ⟨t2, st.trans a1, b1⟩
theorem vx_callf {S SX : Type} {post : UInt32 → S → Prop} {px : SX → Prop} {B : S → State → Prop} {BX : String → SX → State → Prop} {AX : Nat → Prop} (hr : vx_Run p l e R s m args below meth c H locs cells slots mc ms (F0 m pc ls st0) rest (va_Qf post B A1 a) (vx_X px BX AX) free) (hS : va_S A0 H0 H locs) (hA : ∀ q, q < H.size → A1 q → A0 q) (hf : ∀ q, free q → A0 q) (hAX : ∀ q, q < H.size → AX q → A0 q)
    (kx : ∀ (E : String) (ce : Cell) (q9 : Addr) (u : SX) (t : State) (H1 : Heap) (locs1 : List Loc), t.heap = H1 → s.vm.Alike t.vm → px u → BX E u t → H.size ≤ H1.size → (∀ q : Nat, q < H.size → ¬ AX q → H1[q]? = H[q]?) → va_S A0 H0 H1 locs1 → H1[q9]? = some ce → ce.vm = .none → s.vm.findClass E = some ce.cls → vx_W p l e R s m args below meth c H1 locs1 (cells + mc) (slots + ms) Q (F0 m pc ls rest) q9)
    (kk : ∀ (r : UInt32) (u : S) (t : State) (H1 : Heap) (locs1 : List Loc), t.heap = H1 → s.vm.Alike t.vm → post r u → B u t → H.size ≤ H1.size → (∀ q : Nat, q < H.size → ¬ A1 q → H1[q]? = H[q]?) → va_S A0 H0 H1 locs1 → W p l e R s m args below meth c H1 locs1 (cells + mc) (slots + ms) Q (F0 m (pc + 3) ls (.float r :: rest))) : W p l e R s m args below meth c H locs cells slots Q (F0 m pc ls st0) := by
  intro T hT X
  rcases hr T hT X with ⟨v, st₀, t, T', L, h0, X', hL, e1, e2, ⟨⟨r, u, hv, hp, hb⟩, hF⟩, st⟩ | ⟨q, st₀, t, T', L, E, ce, h0, X', hL, e1, e2, ⟨u, hp, hb, hF⟩, hce, hcv, hcl, st⟩
  · cases hv
    obtain ⟨k1, k2, k3⟩ := vx_keep h0 e1 hS hA hf hL hF
    obtain ⟨t2, a1, b1⟩ := kk r u t T'.heap (locs ++ L) e1.symm (by rw [← e2]; exact X'.warmed.alike) hp hb k1 k2 k3 T' rfl X'
    exact ⟨t2, st t2 a1, b1⟩
  · obtain ⟨k1, k2, k3⟩ := vx_keep h0 e1 hS hAX hf hL hF
    obtain ⟨t2, a1, b1⟩ := kx E ce q u t T'.heap (locs ++ L) e1.symm (by rw [← e2]; exact X'.warmed.alike) hp hb k1 k2 k3 (by rw [e1]; exact hce) hcv hcl T' rfl X'
    exact ⟨t2, st.trans a1, b1⟩
theorem vx_calld {S SX : Type} {post : UInt64 → S → Prop} {px : SX → Prop} {B : S → State → Prop} {BX : String → SX → State → Prop} {AX : Nat → Prop} (hr : vx_Run p l e R s m args below meth c H locs cells slots mc ms (F0 m pc ls st0) rest (va_Qd post B A1 a) (vx_X px BX AX) free) (hS : va_S A0 H0 H locs) (hA : ∀ q, q < H.size → A1 q → A0 q) (hf : ∀ q, free q → A0 q) (hAX : ∀ q, q < H.size → AX q → A0 q)
    (kx : ∀ (E : String) (ce : Cell) (q9 : Addr) (u : SX) (t : State) (H1 : Heap) (locs1 : List Loc), t.heap = H1 → s.vm.Alike t.vm → px u → BX E u t → H.size ≤ H1.size → (∀ q : Nat, q < H.size → ¬ AX q → H1[q]? = H[q]?) → va_S A0 H0 H1 locs1 → H1[q9]? = some ce → ce.vm = .none → s.vm.findClass E = some ce.cls → vx_W p l e R s m args below meth c H1 locs1 (cells + mc) (slots + ms) Q (F0 m pc ls rest) q9)
    (kk : ∀ (r : UInt64) (u : S) (t : State) (H1 : Heap) (locs1 : List Loc), t.heap = H1 → s.vm.Alike t.vm → post r u → B u t → H.size ≤ H1.size → (∀ q : Nat, q < H.size → ¬ A1 q → H1[q]? = H[q]?) → va_S A0 H0 H1 locs1 → W p l e R s m args below meth c H1 locs1 (cells + mc) (slots + ms) Q (F0 m (pc + 3) ls (.double r :: rest))) : W p l e R s m args below meth c H locs cells slots Q (F0 m pc ls st0) := by
  intro T hT X
  rcases hr T hT X with ⟨v, st₀, t, T', L, h0, X', hL, e1, e2, ⟨⟨r, u, hv, hp, hb⟩, hF⟩, st⟩ | ⟨q, st₀, t, T', L, E, ce, h0, X', hL, e1, e2, ⟨u, hp, hb, hF⟩, hce, hcv, hcl, st⟩
  · cases hv
    obtain ⟨k1, k2, k3⟩ := vx_keep h0 e1 hS hA hf hL hF
    obtain ⟨t2, a1, b1⟩ := kk r u t T'.heap (locs ++ L) e1.symm (by rw [← e2]; exact X'.warmed.alike) hp hb k1 k2 k3 T' rfl X'
    exact ⟨t2, st t2 a1, b1⟩
  · obtain ⟨k1, k2, k3⟩ := vx_keep h0 e1 hS hAX hf hL hF
    obtain ⟨t2, a1, b1⟩ := kx E ce q u t T'.heap (locs ++ L) e1.symm (by rw [← e2]; exact X'.warmed.alike) hp hb k1 k2 k3 (by rw [e1]; exact hce) hcv hcl T' rfl X'
    exact ⟨t2, st.trans a1, b1⟩
theorem vx_callv {S SX : Type} {post : S → Prop} {px : SX → Prop} {B : S → State → Prop} {BX : String → SX → State → Prop} {AX : Nat → Prop} (hr : vx_Run p l e R s m args below meth c H locs cells slots mc ms (F0 m pc ls st0) rest (va_Qv post B A1 a) (vx_X px BX AX) free) (hS : va_S A0 H0 H locs) (hA : ∀ q, q < H.size → A1 q → A0 q) (hf : ∀ q, free q → A0 q) (hAX : ∀ q, q < H.size → AX q → A0 q)
    (kx : ∀ (E : String) (ce : Cell) (q9 : Addr) (u : SX) (t : State) (H1 : Heap) (locs1 : List Loc), t.heap = H1 → s.vm.Alike t.vm → px u → BX E u t → H.size ≤ H1.size → (∀ q : Nat, q < H.size → ¬ AX q → H1[q]? = H[q]?) → va_S A0 H0 H1 locs1 → H1[q9]? = some ce → ce.vm = .none → s.vm.findClass E = some ce.cls → vx_W p l e R s m args below meth c H1 locs1 (cells + mc) (slots + ms) Q (F0 m pc ls rest) q9)
    (kk : ∀ (u : S) (t : State) (H1 : Heap) (locs1 : List Loc), t.heap = H1 → s.vm.Alike t.vm → post u → B u t → H.size ≤ H1.size → (∀ q : Nat, q < H.size → ¬ A1 q → H1[q]? = H[q]?) → va_S A0 H0 H1 locs1 → W p l e R s m args below meth c H1 locs1 (cells + mc) (slots + ms) Q (F0 m (pc + 3) ls (rest))) : W p l e R s m args below meth c H locs cells slots Q (F0 m pc ls st0) := by
  intro T hT X
  rcases hr T hT X with ⟨v, st₀, t, T', L, h0, X', hL, e1, e2, ⟨⟨u, hv, hp, hb⟩, hF⟩, st⟩ | ⟨q, st₀, t, T', L, E, ce, h0, X', hL, e1, e2, ⟨u, hp, hb, hF⟩, hce, hcv, hcl, st⟩
  · cases hv
    obtain ⟨k1, k2, k3⟩ := vx_keep h0 e1 hS hA hf hL hF
    obtain ⟨t2, a1, b1⟩ := kk u t T'.heap (locs ++ L) e1.symm (by rw [← e2]; exact X'.warmed.alike) hp hb k1 k2 k3 T' rfl X'
    exact ⟨t2, st t2 a1, b1⟩
  · obtain ⟨k1, k2, k3⟩ := vx_keep h0 e1 hS hAX hf hL hF
    obtain ⟨t2, a1, b1⟩ := kx E ce q u t T'.heap (locs ++ L) e1.symm (by rw [← e2]; exact X'.warmed.alike) hp hb k1 k2 k3 (by rw [e1]; exact hce) hcv hcl T' rfl X'
    exact ⟨t2, st.trans a1, b1⟩
/-- caught by the row x of this method's table; the rows ahead don't take it -/
theorem vx_catch {own name : String} {E : String} {ce : Cell} {q : Addr} (hown : s.vm.findClass own = some m.cls) (pre : List ExceptionTableEntry) (x : ExceptionTableEntry) (suf : List ExceptionTableEntry) (hsplit : c.exceptionTable.toList = pre ++ x :: suf)
    (hpass : ∀ z ∈ pre, covers z pc = false ∨ (z.catchType ≠ 0 ∧ ∃ nm : String, (Cond.classLink own z.catchType nm).before args s = true ∧ va_Nc E nm s)) (hx : covers x pc = true) (h0 : x.catchType ≠ 0)
    (hlink : (Cond.classLink own x.catchType name).before args s = true) (hcast : (Cond.castable E name).before args s = true) (hcell : H[q]? = some ce) (hv : ce.vm = .none) (hcl : s.vm.findClass E = some ce.cls)
    (kk : W p l e R s m args below meth c H locs cells slots Q (F0 m x.handlerPc ls [.ref q])) : vx_W p l e R s m args below meth c H locs cells slots Q (F0 m pc ls rest) q := by
  intro T hT X
  have hpl : e.platform.magicAccessors = ({} : Platform).magicAccessors := by rw [X.admits.platform]
  obtain ⟨c3, c4, hc3, hc4, hasg⟩ := Cond.castable_spec hcast
  cases Option.some.inj (hc3.symm.trans hcl)
  obtain ⟨c5, hc5, hcl5⟩ := Cond.classLink_spec hown hlink e.platform hpl
  cases Option.some.inj (hc4.symm.trans hc5)
  obtain ⟨vm', X', st⟩ := X.thenCaughtThrough q (g := F0 m pc ls rest) rfl (Steps.refl _) (by rw [hT]; exact hcell) (by rw [hv]; rfl) (by obtain ⟨k9, h9, -⟩ := Vm.findClass_spec hcl; exact ⟨k9, h9⟩) pre x suf hsplit
    (fun z hz => by
      rcases hpass z hz with h | ⟨hz0, nm, hl1, hn1⟩
      · exact Or.inl h
      · obtain ⟨c6, hc6, hcl6⟩ := Cond.classLink_spec hown hl1 e.platform hpl
        obtain ⟨a8, b8, h1, h2, h3⟩ := hn1
        cases Option.some.inj (h1.symm.trans hcl)
        cases Option.some.inj (h2.symm.trans hc6)
        exact Or.inr ⟨hz0, _, hcl6, h3⟩) hx (Or.inr ⟨h0, c4, hcl5, hasg⟩)
  obtain ⟨t, a1, b1⟩ := kk (T.setVm vm') hT X'
  exact ⟨t, st.trans a1, b1⟩
end Rows
section Ends
variable {p : Program} {l : Launch} {e : Env} {R : Room} {s : State} {m : MethodId} {args : Array Value} {below : List Frame} {meth : Method} {c : Code} {H : Heap} {locs : List Loc} {cells slots : Nat} {Q : State → Prop}
variable {mc ms : Nat} {free : Addr → Prop} {A0 A1 : Nat → Prop} {H0 : Heap} {a : Array Value} {ls : Array Slot} {st0 rest : List Value}
variable {Qc : Array Value → State → Outcome → State → Prop} {XC : String → State → State → Prop}
/-- what a body that may throw owes at its end -/
def vx_MQ (below : List Frame) (Qc : Array Value → State → Outcome → State → Prop) (XC : String → State → State → Prop) (a : Array Value) (s : State) (mc ms : Nat) (free : Addr → Prop) : State → Prop := fun t =>
  ∃ o, t.status = .running ∧ Ended t below o ∧ vx_Q Qc XC mc ms free a s o t
theorem vx_ret {g : JFrame} {mc ms : Nat} (k : W p l e R s m args below meth c H locs cells slots (MQ below Qc args s mc ms free) g) : W p l e R s m args below meth c H locs cells slots (vx_MQ below Qc XC args s mc ms free) g := by
  intro T hT X
  obtain ⟨t, a1, o, b1, b2, b3, b4⟩ := k T hT X
  exact ⟨t, a1, o, b1, b2, Or.inl ⟨b3, b4⟩⟩
/-- not caught here: it goes on to the caller -/
theorem vx_widen {g : JFrame} {q : Addr} {k n : Nat} (h1 : cells ≤ k) (h2 : slots ≤ n) (kk : vx_W p l e R s m args below meth c H locs k n Q g q) : vx_W p l e R s m args below meth c H locs cells slots Q g q := fun T hT X => kk T hT (stand_widen X h1 h2)
theorem vx_out {pc : Nat} {E : String} {ce : Cell} {q : Addr} {mc ms : Nat} (hout : ∀ x ∈ c.exceptionTable.toList, covers x pc = false) (hlocks : meth.locks = false) (hcell : H[q]? = some ce) (hv : ce.vm = .none) (hcl : s.vm.findClass E = some ce.cls)
    (hx : ∀ t : State, t.heap = H → s.vm.Alike t.vm → XC E s t) (hf : ∀ z ∈ locs, free z.base) (hc : cells ≤ mc) (hs : slots ≤ ms) :
    vx_W p l e R s m args below meth c H locs cells slots (vx_MQ below Qc XC args s mc ms free) (F0 m pc ls rest) q := by
  intro T hT X
  obtain ⟨st1, hrun, hend, hW, hsm⟩ := X.leaveThrown q (g := F0 m pc ls rest) rfl rfl rfl hout hlocks
  have hcell9 : (T.setFrames (.throwing q :: below)).heap[q]? = some ce := by
    show T.heap[q]? = some ce
    rw [hT]; exact hcell
  exact ⟨_, st1, .threw q, hrun, hend, Or.inr ⟨q, rfl, E, ce, locs, hx _ hT hW.alike, hcell9, hv, hcl, hW, hsm.mono hc hs, hf⟩⟩
theorem vx_frame {U : State} {k n : Nat} (h : s.sameButNew ({ U with vm := s.vm } : State) locs k n) : s.heap.size ≤ U.heap.size ∧ ∀ q : Nat, q < s.heap.size → (∀ z ∈ locs, z.base ≠ q) → U.heap[q]? = s.heap[q]? := by
  obtain ⟨-, h2, -, -, -, h6⟩ := h
  refine ⟨h2, fun q hq hz => ?_⟩
  obtain ⟨c9, e1, e2, e3, e4⟩ := h6 q _ (Array.getElem?_eq_getElem hq)
  have hs : c9.slots = (s.heap[q]).slots := Array.ext_getElem? fun i => e4 i fun hm => hz _ hm rfl
  have h9 : c9 = s.heap[q] := by
    rw [hs] at e2
    exact e2
  have e5 : U.heap[q]? = some c9 := e1
  rw [e5, h9, Array.getElem?_eq_getElem hq]
/-- the words of a throw but the four that speak of the heap -/
def vx_no (w : Cond) : Bool := decide (w ≠ .isRef (.static Bundle.tN "UNASSIGNED_STACK" Bundle.steD)) && decide (w ≠ .isRef (.static Bundle.tN "SUPPRESSED_SENTINEL" Bundle.listD)) && decide (w ≠ .laysStatic Bundle.tN "UNASSIGNED_STACK" Bundle.steD) && decide (w ≠ .laysStatic Bundle.tN "SUPPRESSED_SENTINEL" Bundle.listD)
def vx_at0 (own : String) (ic : Nat) (X : String) (names : List String) : List Cond := (Bundle.ownAtoms0 own ic X names).filter vx_no
def vx_atS (own : String) (ic : Nat) (X : String) (names : List String) : List Cond := (Bundle.ownAtoms own ic X names).filter vx_no
/-- a word that the tables alone decide, or a good one -/
def vx_ot (w : Cond) : Bool := w.onTables || goodWord w
theorem vx_ot_at {args a' : Array Value} {s U : State} {w : Cond} (hW : s.WarmedH U.vm) (hvm : s.vm = U.vm) (hg : vx_ot w = true) (h : w.before args s = true) : w.before a' U = true := by
  simp only [vx_ot, Bool.or_eq_true] at hg
  rcases hg with hg | hg
  · exact va_tabs hg hvm h
  · exact word_at hW (good_of_word hg) h
/-- a list's words: the good ones out of the method's own list, the others by premises of their own -/
theorem vx_hat {args : Array Value} {s : State} {L B : List Cond} (h1 : ∀ w ∈ L.filter goodWord, w.before args s = true) (h2 : ∀ w ∈ L.filter (fun w => !goodWord w), w ∈ B) (h3 : ∀ w ∈ B, w.before args s = true) : ∀ w ∈ L, w.before args s = true := by
  intro w hw
  by_cases g : goodWord w = true
  · exact h1 w (List.mem_filter.mpr ⟨hw, g⟩)
  · refine h3 w (h2 w (List.mem_filter.mpr ⟨hw, ?_⟩))
    show (!goodWord w) = true
    cases hgw : goodWord w
    · rfl
    · exact absurd hgw g
theorem vx_c {args : Array Value} {s : State} {w : Cond} {B : List Cond} (h : w.before args s = true) (t : ∀ w ∈ B, w.before args s = true) : ∀ w' ∈ w :: B, w'.before args s = true := fun w' h' => (List.mem_cons.mp h').elim (fun e => by rw [e]; exact h) (t w')
theorem vx_n {args : Array Value} {s : State} : ∀ w ∈ ([] : List Cond), w.before args s = true := fun _ h => nomatch h
theorem vx_own {args : Array Value} {s : State} {L : List Cond} (h1 : ∀ w ∈ L.filter vx_no, w.before args s = true)
    (hU : (Cond.isRef (.static Bundle.tN "UNASSIGNED_STACK" Bundle.steD)).before args s = true) (hN : (Cond.isRef (.static Bundle.tN "SUPPRESSED_SENTINEL" Bundle.listD)).before args s = true)
    (lU : (Cond.laysStatic Bundle.tN "UNASSIGNED_STACK" Bundle.steD).before args s = true) (lN : (Cond.laysStatic Bundle.tN "SUPPRESSED_SENTINEL" Bundle.listD).before args s = true) : ∀ w ∈ L, w.before args s = true := by
  intro w hw
  by_cases e1 : w = .isRef (.static Bundle.tN "UNASSIGNED_STACK" Bundle.steD)
  · rw [e1]; exact hU
  · by_cases e2 : w = .isRef (.static Bundle.tN "SUPPRESSED_SENTINEL" Bundle.listD)
    · rw [e2]; exact hN
    · by_cases e3 : w = .laysStatic Bundle.tN "UNASSIGNED_STACK" Bundle.steD
      · rw [e3]; exact lU
      · by_cases e4 : w = .laysStatic Bundle.tN "SUPPRESSED_SENTINEL" Bundle.listD
        · rw [e4]; exact lN
        · exact h1 w (List.mem_filter.mpr ⟨hw, by unfold vx_no; rw [decide_eq_true e1, decide_eq_true e2, decide_eq_true e3, decide_eq_true e4]; rfl⟩)
/-- where a static field lies, its class's statics cell in H -/
def vx_L (C n d : String) (A : Nat → Prop) (U : State) (H : Heap) : Prop := ∃ (c : ClassId) (k : Class) (i : Nat) (f : Field) (a : Nat) (cell : Cell), U.vm.findClass C = some c ∧ U.fieldFound? C n d = some (c, k, i, f) ∧ f.isStatic = true ∧ k.statics = some a ∧ H[a]? = some cell ∧ cell.vm.isStatics = true ∧ cell.cls = c ∧ f.slot < cell.slots.size ∧ k.staticTypes[f.slot]? = some f.type ∧ ¬ A a
theorem vx_L.moved {C n d : String} {A : Nat → Prop} {u U : State} {H : Heap} (hvm : u.vm.Alike U.vm) (h : vx_L C n d A u H) : vx_L C n d A U H := by
  obtain ⟨c, k, i, f, a, cell, h1, h2, h3, h4, h5, h6, h7, h8, h9, h10⟩ := h
  obtain ⟨k', hi', he⟩ := State.fieldFound?_setVm hvm h2
  exact ⟨c, k', i, f, a, cell, by rw [hvm.findClass]; exact h1, hi', h3, by rw [he]; exact h4, h5, h6, h7, h8, by rw [he]; exact h9, h10⟩
theorem vx_L.kept {C n d : String} {A : Nat → Prop} {U : State} {H H1 : Heap} (h : vx_L C n d A U H) (hq : ∀ a : Nat, a < H.size → ¬ A a → H1[a]? = H[a]?) : vx_L C n d A U H1 := by
  obtain ⟨c, k, i, f, a, cell, h1, h2, h3, h4, h5, h6, h7, h8, h9, h10⟩ := h
  exact ⟨c, k, i, f, a, cell, h1, h2, h3, h4, by rw [hq a (Array.getElem?_eq_some_iff.mp h5).1 h10]; exact h5, h6, h7, h8, h9, h10⟩
theorem vx_L.narrow {C n d : String} {A B : Nat → Prop} {U : State} {H : Heap} (h : vx_L C n d A U H) (hAB : ∀ q, B q → A q) : vx_L C n d B U H := by
  obtain ⟨c, k, i, f, a, cell, h1, h2, h3, h4, h5, h6, h7, h8, h9, h10⟩ := h
  exact ⟨c, k, i, f, a, cell, h1, h2, h3, h4, h5, h6, h7, h8, h9, fun z => h10 (hAB _ z)⟩
theorem vx_L.word {C n d : String} {A : Nat → Prop} {s : State} {args : Array Value} (h : vx_L C n d A s s.heap) : (Cond.laysStatic C n d).before args s = true := by
  obtain ⟨c, k, i, f, a, cell, h1, h2, h3, h4, h5, h6, h7, h8, h9, -⟩ := h
  show (Cond.laysStatic C n d).holds args s none s [] = true
  exact Cond.laysStatic_of h1 h2 h3 h4 h5 h6 h7 h8 h9
/-- .. and what it holds: null or some reference -/
def vx_Zq (C n d : String) (A : Nat → Prop) (U : State) (H : Heap) : Prop := va_Zq C n d A U H ∧ vx_L C n d A U H
theorem vx_Zq.moved {C n d : String} {A : Nat → Prop} {u U : State} {H : Heap} (hvm : u.vm.Alike U.vm) (h : vx_Zq C n d A u H) : vx_Zq C n d A U H := ⟨va_Zq.moved hvm h.1, vx_L.moved hvm h.2⟩
theorem vx_Zq.kept {C n d : String} {A : Nat → Prop} {U : State} {H H1 : Heap} (h : vx_Zq C n d A U H) (hq : ∀ a : Nat, a < H.size → ¬ A a → H1[a]? = H[a]?) : vx_Zq C n d A U H1 := ⟨va_Zq.kept h.1 hq, vx_L.kept h.2 hq⟩
theorem vx_Zq.narrow {C n d : String} {A B : Nat → Prop} {U : State} {H : Heap} (h : vx_Zq C n d A U H) (hAB : ∀ q, B q → A q) : vx_Zq C n d B U H := ⟨va_Zq.narrow h.1 hAB, vx_L.narrow h.2 hAB⟩
theorem vx_Zqof {args : Array Value} {s : State} {C n d : String} {A : Nat → Prop} (hl : (Cond.laysStatic C n d).before args s = true) (hini : (Cond.initialized C).before args s = true) (h : (Cond.isRef (.static C n d)).before args s = true) (hA : ∀ a : Nat, a < s.heap.size → ¬ A a) : vx_Zq C n d A s s.heap := by
  refine ⟨va_Zqof hl hini h hA, ?_⟩
  obtain ⟨c, k, i, f, a, cell, h1, h2, h3, h4, h5, h6, h7, h8, h9⟩ := Cond.laysStatic_spec hl
  exact ⟨c, k, i, f, a, cell, h1, h2, h3, h4, h5, h6, h7, h8, h9, hA a (Array.getElem?_eq_some_iff.mp h5).1⟩
theorem vx_isRef {C n d : String} {v : Value} {A : Nat → Prop} {s : State} {args : Array Value} (h : va_Z C n d v A s s.heap) (hv : v.isRef = true) : (Cond.isRef (.static C n d)).before args s = true := by
  obtain ⟨cf, kf, fi, f, a, cell, h1, h2, h3, h4, h5, h6, h7, -⟩ := h
  have he : (Term.static C n d).eval args s none [] s = some v := by
    simp [Term.eval, State.fieldNamed?, h1, h2, h4, h5, h6, h7]
  simp only [Cond.before, Cond.holds, Cond.value, he]
  cases v <;> simp_all [Value.isRef]
theorem vx_isRefq {C n d : String} {A : Nat → Prop} {s : State} {args : Array Value} (h : va_Zq C n d A s s.heap) : (Cond.isRef (.static C n d)).before args s = true := by
  rcases h with h | ⟨t, h⟩
  · exact vx_isRef h rfl
  · exact vx_isRef h rfl
/-- the same frame, seen from here: as if the method were called anew in this heap -/
theorem vx_rebase {T : State} (X : Stand p l e R s m args below meth c T locs cells slots) {R' : Room} (hf : R'.frames ≤ R.frames) (hl : R'.locals ≤ R.locals) (hc : cells + R'.cells ≤ R.cells) (hs : slots + R'.slots ≤ R.slots) :
    Stand p l e R' ((T.setVm s.vm).setFrames (.invoking m args :: below)) m args below meth c T [] 0 0 := by
  have htop : (T.setVm s.vm).topJava?.isSome := X.here.top
  have hF : ((T.setVm s.vm).setFrames (.invoking m args :: below)).frames = .invoking m args :: below := State.frames_setFrames _ (State.cur_lt_of_top htop)
  obtain ⟨g₀, hg0⟩ := Option.isSome_iff_exists.mp htop
  obtain ⟨r, hr⟩ := State.topJava?_eq_some.mp hg0
  have hl9 : e.platform.stackLimits (T.setVm s.vm).me = e.platform.stackLimits s.me := X.limits
  have hb9 : (T.setVm s.vm).me.stackBytes = s.me.stackBytes := X.bytes
  refine ⟨X.admits, X.cas, X.clock, hF, ?_, X.hears, X.method, X.code, X.here, X.tail, X.warmed, ?_, ?_, ?_⟩
  · have h := X.room
    have hU : ((T.setVm s.vm).setFrames (.invoking m args :: below)).localsInUse = s.localsInUse := by
      rw [State.localsInUse_invoking hF (meth := meth) (c := c) X.method X.code, State.localsInUse_invoking X.frames X.method X.code]
    simp only [State.hasRoom, Bool.and_eq_true, decide_eq_true_eq] at h ⊢
    obtain ⟨⟨⟨⟨h1, h2, h3, h4, h5, h6⟩, h7⟩, h8⟩, h9⟩ := h
    rw [X.frames, List.length_cons] at h2 h3
    have q1 := X.heapSize
    have q2 := X.used
    simp only [hF, hU, List.length_cons, State.stackLimits_setFrames, State.stackBytes_setFrames, hl9, hb9]
    refine ⟨⟨⟨⟨by omega, by omega, by omega, by omega, by omega, h6⟩, ?_⟩, ?_⟩, X.book⟩
    · show T.heap.size + R'.cells ≤ e.platform.maxCells
      omega
    · show T.slotsUsed + R'.slots ≤ e.platform.maxSlots
      omega
  · rw [State.stackLimits_setFrames]; rfl
  · rw [State.stackBytes_setFrames]; rfl
  · refine ⟨?_, Nat.le_refl _, Nat.le_refl _, ?_, ?_, fun a c9 h9 => ⟨c9, h9, rfl, rfl, fun _ _ => rfl⟩⟩
    · obtain ⟨t, ht, -⟩ := State.frames_cons hr
      show T.setVm s.vm = { ((T.setVm s.vm).setFrames (.invoking m args :: below)).setFrames (T.setVm s.vm).frames with heap := T.heap, slotsUsed := T.slotsUsed }
      rw [State.setFrames_setFrames, State.setFrames_self ht]
      rfl
    · show T.slotsUsed = T.slotsUsed + ((T.heap.toList.drop T.heap.size).map (·.slots.size)).sum
      rw [List.drop_eq_nil_of_le (Nat.le_of_eq Array.length_toList)]
      rfl
    · show ((T.heap.toList.drop T.heap.size).map (·.slots.size)).sum ≤ 0
      rw [List.drop_eq_nil_of_le (Nat.le_of_eq Array.length_toList)]
      exact Nat.le_refl _
/-- 'throw new E()': new; dup; invokespecial; athrow -/
theorem vx_throw0 {cc : ByteArray} {pc : Nat} (hexec : p.tables.exec = Jvm.exec) (hb : c.code = cc) (hl : l.stackTraces = false) {own cls : String} {names : List String} {ik ic mc ms : Nat} {A : Nat → Prop}
    (hown : s.vm.findClass own = some m.cls) (hcls : Bundle.fit cls = true) (hnames : ∀ n ∈ names, Bundle.fit n = true)
    (hk : (Cond.classLink own ik cls).before args s = true) (hini : (Cond.initialized cls).before args s = true) (hat : ∀ w ∈ vx_at0 own ic cls names, w.before args s = true)
    (hgood : ∀ w ∈ Cond.classLink own ik cls :: Cond.initialized cls :: vx_at0 own ic cls names, vx_ot w = true)
    (hU : vx_Zq Bundle.tN "UNASSIGNED_STACK" Bundle.steD A s s.heap) (hN : vx_Zq Bundle.tN "SUPPRESSED_SENTINEL" Bundle.listD A s s.heap) (hS : va_S A s.heap H locs) (hsize : ls.size = c.maxLocals)
    (d0 : decode cc pc = .ok (.new ik, 3)) (d3 : decode cc (pc + 3) = .ok (.dup, 1)) (d4 : decode cc (pc + 4) = .ok (.invokespecial ic, 3)) (d7 : decode cc (pc + 7) = .ok (.athrow, 1))
    (hout : ∀ x ∈ c.exceptionTable.toList, covers x (pc + 7) = false)
    (hRframes : names.length + 3 < R.frames) (hRlocals : (rest.map fun v => v.category).sum + (13 * (names.length + 1) + 42) ≤ R.locals) (hRcells : cells + 1 ≤ R.cells) (hRslots : slots + 6 ≤ R.slots) (hlocks : meth.locks = false)
    (hx : ∀ t : State, s.vm.Alike t.vm → H.size ≤ t.heap.size → (∀ q : Nat, q < H.size → t.heap[q]? = H[q]?) → XC cls s t)
    (hf : ∀ z ∈ locs, free z.base) (hc : cells + 1 ≤ mc) (hs : slots + 6 ≤ ms) :
    W p l e R s m args below meth c H locs cells slots (vx_MQ below Qc XC args s mc ms free) (F0 m pc ls rest) := by
  intro T hT X
  have htr : e.platform.stackTraces = false := (show e.platform.stackTraces = l.stackTraces by rw [X.admits.platform]).trans hl
  have Y := vx_rebase X (R' := { frames := R.frames, locals := R.locals, cells := 1, slots := 6 }) (Nat.le_refl _) (Nat.le_refl _) hRcells hRslots
  obtain ⟨s', hA⟩ : ∃ z, z = (T.setVm s.vm).setFrames (.invoking m args :: below) := ⟨_, rfl⟩
  rw [← hA] at Y
  have hvm : s'.vm = s.vm := by rw [hA]; rfl
  have hhp : s'.heap = H := by rw [hA]; exact hT
  have hW0 : s.WarmedH s'.vm := by rw [hvm]; exact State.WarmedH.refl s
  have hat' : ∀ w ∈ vx_at0 own ic cls names, w.before args s' = true := fun w hw => vx_ot_at hW0 hvm.symm (hgood w (List.mem_cons_of_mem _ (List.mem_cons_of_mem _ hw))) (hat w hw)
  have hk' : (Cond.classLink own ik cls).before args s' = true := vx_ot_at hW0 hvm.symm (hgood _ List.mem_cons_self) hk
  have hini' : (Cond.initialized cls).before args s' = true := vx_ot_at hW0 hvm.symm (hgood _ (List.mem_cons_of_mem _ List.mem_cons_self)) hini
  have hU' : vx_Zq Bundle.tN "UNASSIGNED_STACK" Bundle.steD A s' s'.heap := by rw [hhp]; exact vx_Zq.moved hW0.alike (hU.kept hS.2.1)
  have hN' : vx_Zq Bundle.tN "SUPPRESSED_SENTINEL" Bundle.listD A s' s'.heap := by rw [hhp]; exact vx_Zq.moved hW0.alike (hN.kept hS.2.1)
  have h : ∀ w ∈ Bundle.ownAtoms0 own ic cls names, w.before args s' = true := vx_own hat' (vx_isRefq hU'.1) (vx_isRefq hN'.1) hU'.2.word hN'.2.word
  have hown' : s'.vm.findClass own = some m.cls := by rw [hvm]; exact hown
  have hins : (Cond.instantiable cls 6).before args s' = true := h _ (by simp [Bundle.ownAtoms0])
  obtain ⟨vm₁, cX, kX, hfX, hkX, -, -, X₁, st1⟩ := Y.newCold hexec (own := own) (C := cls) (index := ik) (n := 6) hown' hk' hins hini'
    (g := F0 m pc ls rest) rfl (by rw [hb]; exact d0) (Nat.le_refl _) (Nat.le_refl _)
  generalize hT1 : (T.setVm vm₁).pushCell { cls := cX, slots := kX.instanceTypes.map defaultValue, vm := .none } = T1 at X₁ st1
  have hcat : (Value.ref T.heap.size).category = 1 := rfl
  have hcellA : T1.heap[T.heap.size]? = some (freshCell cX kX) := by rw [← hT1]; exact State.heap_pushCell_size _ _
  have d3' : decode c.code (pc + 3) = .ok (.dup, 1) := by rw [hb]; exact d3
  obtain ⟨U, hsteps, hrun, hend, hW, hsame, ce, hce, hO⟩ := X₁.ctorThrow0 hexec htr (own := own) (cls := cls) (names := names) (ic := ic) hown' hcls hnames h (fun x hx => nomatch hx) hfX hkX hcellA (by rw [hhp, hT]; exact Nat.le_refl _)
    (g := { method := m, pc := pc + 4, locals := ls, stack := .ref T.heap.size :: .ref T.heap.size :: rest, locked := none }) rfl hsize rfl rfl (rest := rest) rfl
    (by rw [hb]; exact d4) (by rw [hb]; exact d7) hout hRframes (by simp only [List.map_cons, List.sum_cons, hcat]; omega) hlocks
  obtain ⟨f1, f2⟩ := vx_frame hsame
  rw [hhp] at f1 f2
  have hWs : s.WarmedH U.vm := State.WarmedH.trans hW0 hW
  have hcl : s.vm.findClass cls = some ce.cls := by
    have h9 := hO.cls
    rw [hvm] at h9
    exact h9
  have hall : s.sameButNew ({ U with vm := s.vm } : State) locs mc ms := by
    subst hA
    obtain ⟨e1, e2⟩ := hsame
    rw [State.setFrames_setFrames] at e1
    have h2 : (T.setVm s.vm).sameButNew ({ U with vm := s.vm } : State) [] (0 + 1) (0 + 6) := ⟨e1, e2⟩
    have h3 := X.same.trans h2
    rw [List.append_nil] at h3
    exact h3.mono hc hs
  refine ⟨U, ?_, .threw T.heap.size, hrun, hend, Or.inr ⟨T.heap.size, rfl, cls, ce, locs, hx U hWs.alike f1 (fun q hq => f2 q hq (fun z hz => nomatch hz)), hce, hO.vm, hcl, hWs, hall, hf⟩⟩
  refine st1 _ ?_
  show Steps p.tables e below (T1.setTop { method := m, pc := pc + 3, locals := ls, stack := .ref T.heap.size :: rest, locked := none }) _
  jvm_step X₁.here [X₁.here.top, hexec, d3', Value.category]
  exact hsteps
/-- 'throw new E("text")': new; dup; ldc; invokespecial; athrow -/
theorem vx_throwS {cc : ByteArray} {pc : Nat} (hexec : p.tables.exec = Jvm.exec) (hb : c.code = cc) (hl : l.stackTraces = false) {own cls text : String} {names : List String} {ik is ic mc ms sa : Nat} {A : Nat → Prop}
    (hown : s.vm.findClass own = some m.cls) (hcls : Bundle.fit cls = true) (hnames : ∀ n ∈ names, Bundle.fit n = true)
    (hk : (Cond.classLink own ik cls).before args s = true) (hini : (Cond.initialized cls).before args s = true) (hstr : vk_R own is text sa s) (hat : ∀ w ∈ vx_atS own ic cls names, w.before args s = true)
    (hgood : ∀ w ∈ Cond.classLink own ik cls :: Cond.initialized cls :: vx_atS own ic cls names, vx_ot w = true)
    (hU : vx_Zq Bundle.tN "UNASSIGNED_STACK" Bundle.steD A s s.heap) (hN : vx_Zq Bundle.tN "SUPPRESSED_SENTINEL" Bundle.listD A s s.heap) (hS : va_S A s.heap H locs) (hsize : ls.size = c.maxLocals)
    (d0 : decode cc pc = .ok (.new ik, 3)) (d3 : decode cc (pc + 3) = .ok (.dup, 1)) (d4 : decode cc (pc + 4) = .ok (.ldc is, 2)) (d6 : decode cc (pc + 6) = .ok (.invokespecial ic, 3)) (d9 : decode cc (pc + 9) = .ok (.athrow, 1))
    (hout : ∀ x ∈ c.exceptionTable.toList, covers x (pc + 9) = false)
    (hRframes : names.length + 3 < R.frames) (hRlocals : (rest.map fun v => v.category).sum + (13 * (names.length + 1) + 43) ≤ R.locals) (hRcells : cells + 1 ≤ R.cells) (hRslots : slots + 6 ≤ R.slots) (hlocks : meth.locks = false)
    (hx : ∀ t : State, s.vm.Alike t.vm → H.size ≤ t.heap.size → (∀ q : Nat, q < H.size → t.heap[q]? = H[q]?) → XC cls s t)
    (hf : ∀ z ∈ locs, free z.base) (hc : cells + 1 ≤ mc) (hs : slots + 6 ≤ ms) :
    W p l e R s m args below meth c H locs cells slots (vx_MQ below Qc XC args s mc ms free) (F0 m pc ls rest) := by
  intro T hT X
  have htr : e.platform.stackTraces = false := (show e.platform.stackTraces = l.stackTraces by rw [X.admits.platform]).trans hl
  have Y := vx_rebase X (R' := { frames := R.frames, locals := R.locals, cells := 1, slots := 6 }) (Nat.le_refl _) (Nat.le_refl _) hRcells hRslots
  obtain ⟨s', hA⟩ : ∃ z, z = (T.setVm s.vm).setFrames (.invoking m args :: below) := ⟨_, rfl⟩
  rw [← hA] at Y
  have hvm : s'.vm = s.vm := by rw [hA]; rfl
  have hhp : s'.heap = H := by rw [hA]; exact hT
  have hW0 : s.WarmedH s'.vm := by rw [hvm]; exact State.WarmedH.refl s
  have hat' : ∀ w ∈ vx_atS own ic cls names, w.before args s' = true := fun w hw => vx_ot_at hW0 hvm.symm (hgood w (List.mem_cons_of_mem _ (List.mem_cons_of_mem _ hw))) (hat w hw)
  have hk' : (Cond.classLink own ik cls).before args s' = true := vx_ot_at hW0 hvm.symm (hgood _ List.mem_cons_self) hk
  have hini' : (Cond.initialized cls).before args s' = true := vx_ot_at hW0 hvm.symm (hgood _ (List.mem_cons_of_mem _ List.mem_cons_self)) hini
  have hU' : vx_Zq Bundle.tN "UNASSIGNED_STACK" Bundle.steD A s' s'.heap := by rw [hhp]; exact vx_Zq.moved hW0.alike (hU.kept hS.2.1)
  have hN' : vx_Zq Bundle.tN "SUPPRESSED_SENTINEL" Bundle.listD A s' s'.heap := by rw [hhp]; exact vx_Zq.moved hW0.alike (hN.kept hS.2.1)
  have h : ∀ w ∈ Bundle.ownAtoms own ic cls names, w.before args s' = true := vx_own hat' (vx_isRefq hU'.1) (vx_isRefq hN'.1) hU'.2.word hN'.2.word
  have hown' : s'.vm.findClass own = some m.cls := by rw [hvm]; exact hown
  have hins : (Cond.instantiable cls 6).before args s' = true := h _ (by simp [Bundle.ownAtoms])
  obtain ⟨vm₁, cX, kX, hfX, hkX, -, -, X₁, st1⟩ := Y.newCold hexec (own := own) (C := cls) (index := ik) (n := 6) hown' hk' hins hini'
    (g := F0 m pc ls rest) rfl (by rw [hb]; exact d0) (Nat.le_refl _) (Nat.le_refl _)
  generalize hT1 : (T.setVm vm₁).pushCell { cls := cX, slots := kX.instanceTypes.map defaultValue, vm := .none } = T1 at X₁ st1
  have hcat : (Value.ref T.heap.size).category = 1 := rfl
  have hcellA : T1.heap[T.heap.size]? = some (freshCell cX kX) := by rw [← hT1]; exact State.heap_pushCell_size _ _
  have d3' : decode c.code (pc + 3) = .ok (.dup, 1) := by rw [hb]; exact d3
  have d4' : decode c.code (pc + 4) = .ok (.ldc is, 2) := by rw [hb]; exact d4
  have hstr' : vk_R own is text sa s' := vk_R.warm hW0 hstr
  obtain ⟨U, hsteps, hrun, hend, hW, hsame, ce, hce, hO⟩ := X₁.ctorThrowS hexec htr (own := own) (cls := cls) (names := names) (ic := ic) hown' hcls hnames h (fun x hx => nomatch hx) hfX hkX hcellA (by rw [hhp, hT]; exact Nat.le_refl _) (msg := .ref sa) rfl
    (g := { method := m, pc := pc + 6, locals := ls, stack := .ref sa :: .ref T.heap.size :: .ref T.heap.size :: rest, locked := none }) rfl hsize rfl rfl (rest := rest) rfl
    (by rw [hb]; exact d6) (by rw [hb]; exact d9) hout hRframes (by simp only [List.map_cons, List.sum_cons, hcat]; omega) hlocks
  obtain ⟨f1, f2⟩ := vx_frame hsame
  rw [hhp] at f1 f2
  have hWs : s.WarmedH U.vm := State.WarmedH.trans hW0 hW
  have hcl : s.vm.findClass cls = some ce.cls := by
    have h9 := hO.cls
    rw [hvm] at h9
    exact h9
  have hall : s.sameButNew ({ U with vm := s.vm } : State) locs mc ms := by
    subst hA
    obtain ⟨e1, e2⟩ := hsame
    rw [State.setFrames_setFrames] at e1
    have h2 : (T.setVm s.vm).sameButNew ({ U with vm := s.vm } : State) [] (0 + 1) (0 + 6) := ⟨e1, e2⟩
    have h3 := X.same.trans h2
    rw [List.append_nil] at h3
    exact h3.mono hc hs
  refine ⟨U, ?_, .threw T.heap.size, hrun, hend, Or.inr ⟨T.heap.size, rfl, cls, ce, locs, hx U hWs.alike f1 (fun q hq => f2 q hq (fun z hz => nomatch hz)), hce, hO.vm, hcl, hWs, hall, hf⟩⟩
  refine st1 _ ?_
  show Steps p.tables e below (T1.setTop { method := m, pc := pc + 3, locals := ls, stack := .ref T.heap.size :: rest, locked := none }) _
  jvm_step X₁.here [X₁.here.top, hexec, d3', Value.category]
  exact X₁.ldcString hexec (own := own) (text := text) (index := is) (a := sa) hown' hstr'.1 hstr'.2
    (g := { method := m, pc := pc + 4, locals := ls, stack := .ref T.heap.size :: .ref T.heap.size :: rest, locked := none }) rfl d4' _ hsteps
/-- 'throw new E("text")', the text by a wide index -/
theorem vx_throwSW {cc : ByteArray} {pc : Nat} (hexec : p.tables.exec = Jvm.exec) (hb : c.code = cc) (hl : l.stackTraces = false) {own cls text : String} {names : List String} {ik is ic mc ms sa : Nat} {A : Nat → Prop}
    (hown : s.vm.findClass own = some m.cls) (hcls : Bundle.fit cls = true) (hnames : ∀ n ∈ names, Bundle.fit n = true)
    (hk : (Cond.classLink own ik cls).before args s = true) (hini : (Cond.initialized cls).before args s = true) (hstr : vk_R own is text sa s) (hat : ∀ w ∈ vx_atS own ic cls names, w.before args s = true)
    (hgood : ∀ w ∈ Cond.classLink own ik cls :: Cond.initialized cls :: vx_atS own ic cls names, vx_ot w = true)
    (hU : vx_Zq Bundle.tN "UNASSIGNED_STACK" Bundle.steD A s s.heap) (hN : vx_Zq Bundle.tN "SUPPRESSED_SENTINEL" Bundle.listD A s s.heap) (hS : va_S A s.heap H locs) (hsize : ls.size = c.maxLocals)
    (d0 : decode cc pc = .ok (.new ik, 3)) (d3 : decode cc (pc + 3) = .ok (.dup, 1)) (d4 : decode cc (pc + 4) = .ok (.ldc_w is, 3)) (d7 : decode cc (pc + 7) = .ok (.invokespecial ic, 3)) (d10 : decode cc (pc + 10) = .ok (.athrow, 1))
    (hout : ∀ x ∈ c.exceptionTable.toList, covers x (pc + 10) = false)
    (hRframes : names.length + 3 < R.frames) (hRlocals : (rest.map fun v => v.category).sum + (13 * (names.length + 1) + 43) ≤ R.locals) (hRcells : cells + 1 ≤ R.cells) (hRslots : slots + 6 ≤ R.slots) (hlocks : meth.locks = false)
    (hx : ∀ t : State, s.vm.Alike t.vm → H.size ≤ t.heap.size → (∀ q : Nat, q < H.size → t.heap[q]? = H[q]?) → XC cls s t)
    (hf : ∀ z ∈ locs, free z.base) (hc : cells + 1 ≤ mc) (hs : slots + 6 ≤ ms) :
    W p l e R s m args below meth c H locs cells slots (vx_MQ below Qc XC args s mc ms free) (F0 m pc ls rest) := by
  intro T hT X
  have htr : e.platform.stackTraces = false := (show e.platform.stackTraces = l.stackTraces by rw [X.admits.platform]).trans hl
  have Y := vx_rebase X (R' := { frames := R.frames, locals := R.locals, cells := 1, slots := 6 }) (Nat.le_refl _) (Nat.le_refl _) hRcells hRslots
  obtain ⟨s', hA⟩ : ∃ z, z = (T.setVm s.vm).setFrames (.invoking m args :: below) := ⟨_, rfl⟩
  rw [← hA] at Y
  have hvm : s'.vm = s.vm := by rw [hA]; rfl
  have hhp : s'.heap = H := by rw [hA]; exact hT
  have hW0 : s.WarmedH s'.vm := by rw [hvm]; exact State.WarmedH.refl s
  have hat' : ∀ w ∈ vx_atS own ic cls names, w.before args s' = true := fun w hw => vx_ot_at hW0 hvm.symm (hgood w (List.mem_cons_of_mem _ (List.mem_cons_of_mem _ hw))) (hat w hw)
  have hk' : (Cond.classLink own ik cls).before args s' = true := vx_ot_at hW0 hvm.symm (hgood _ List.mem_cons_self) hk
  have hini' : (Cond.initialized cls).before args s' = true := vx_ot_at hW0 hvm.symm (hgood _ (List.mem_cons_of_mem _ List.mem_cons_self)) hini
  have hU' : vx_Zq Bundle.tN "UNASSIGNED_STACK" Bundle.steD A s' s'.heap := by rw [hhp]; exact vx_Zq.moved hW0.alike (hU.kept hS.2.1)
  have hN' : vx_Zq Bundle.tN "SUPPRESSED_SENTINEL" Bundle.listD A s' s'.heap := by rw [hhp]; exact vx_Zq.moved hW0.alike (hN.kept hS.2.1)
  have h : ∀ w ∈ Bundle.ownAtoms own ic cls names, w.before args s' = true := vx_own hat' (vx_isRefq hU'.1) (vx_isRefq hN'.1) hU'.2.word hN'.2.word
  have hown' : s'.vm.findClass own = some m.cls := by rw [hvm]; exact hown
  have hins : (Cond.instantiable cls 6).before args s' = true := h _ (by simp [Bundle.ownAtoms])
  obtain ⟨vm₁, cX, kX, hfX, hkX, -, -, X₁, st1⟩ := Y.newCold hexec (own := own) (C := cls) (index := ik) (n := 6) hown' hk' hins hini'
    (g := F0 m pc ls rest) rfl (by rw [hb]; exact d0) (Nat.le_refl _) (Nat.le_refl _)
  generalize hT1 : (T.setVm vm₁).pushCell { cls := cX, slots := kX.instanceTypes.map defaultValue, vm := .none } = T1 at X₁ st1
  have hcat : (Value.ref T.heap.size).category = 1 := rfl
  have hcellA : T1.heap[T.heap.size]? = some (freshCell cX kX) := by rw [← hT1]; exact State.heap_pushCell_size _ _
  have d3' : decode c.code (pc + 3) = .ok (.dup, 1) := by rw [hb]; exact d3
  have d4' : decode c.code (pc + 4) = .ok (.ldc_w is, 3) := by rw [hb]; exact d4
  have hstr' : vk_R own is text sa s' := vk_R.warm hW0 hstr
  obtain ⟨U, hsteps, hrun, hend, hW, hsame, ce, hce, hO⟩ := X₁.ctorThrowS hexec htr (own := own) (cls := cls) (names := names) (ic := ic) hown' hcls hnames h (fun x hx => nomatch hx) hfX hkX hcellA (by rw [hhp, hT]; exact Nat.le_refl _) (msg := .ref sa) rfl
    (g := { method := m, pc := pc + 7, locals := ls, stack := .ref sa :: .ref T.heap.size :: .ref T.heap.size :: rest, locked := none }) rfl hsize rfl rfl (rest := rest) rfl
    (by rw [hb]; exact d7) (by rw [hb]; exact d10) hout hRframes (by simp only [List.map_cons, List.sum_cons, hcat]; omega) hlocks
  obtain ⟨f1, f2⟩ := vx_frame hsame
  rw [hhp] at f1 f2
  have hWs : s.WarmedH U.vm := State.WarmedH.trans hW0 hW
  have hcl : s.vm.findClass cls = some ce.cls := by
    have h9 := hO.cls
    rw [hvm] at h9
    exact h9
  have hall : s.sameButNew ({ U with vm := s.vm } : State) locs mc ms := by
    subst hA
    obtain ⟨e1, e2⟩ := hsame
    rw [State.setFrames_setFrames] at e1
    have h2 : (T.setVm s.vm).sameButNew ({ U with vm := s.vm } : State) [] (0 + 1) (0 + 6) := ⟨e1, e2⟩
    have h3 := X.same.trans h2
    rw [List.append_nil] at h3
    exact h3.mono hc hs
  refine ⟨U, ?_, .threw T.heap.size, hrun, hend, Or.inr ⟨T.heap.size, rfl, cls, ce, locs, hx U hWs.alike f1 (fun q hq => f2 q hq (fun z hz => nomatch hz)), hce, hO.vm, hcl, hWs, hall, hf⟩⟩
  refine st1 _ ?_
  show Steps p.tables e below (T1.setTop { method := m, pc := pc + 3, locals := ls, stack := .ref T.heap.size :: rest, locked := none }) _
  jvm_step X₁.here [X₁.here.top, hexec, d3', Value.category]
  exact X₁.ldcStringW hexec (own := own) (text := text) (index := is) (a := sa) hown' hstr'.1 hstr'.2
    (g := { method := m, pc := pc + 4, locals := ls, stack := .ref T.heap.size :: .ref T.heap.size :: rest, locked := none }) rfl d4' _ hsteps
end Ends
section Bodies
variable {l : Launch}
theorem vx_ofW {y : MethodName} {ws ws' : List Cond} {rm : Room} {Pc : Array Value → State → Prop} {Qc : Array Value → State → Outcome → State → Prop} {XC : String → State → State → Prop} {mc ms : Nat} {free : Addr → Prop} {cc : ByteArray} {maxL : Nat} {ret : Option FieldType}
    (hy : plainName y.cls = true) (hw : ws = Cond.code y cc maxL ret :: ws')
    (body : ∀ p e s m args below meth c s₁, BodyLoose p l y (headSpec ws rm) cc maxL ret e s m args below meth c s₁ → c.maxLocals = maxL → (∀ x ∈ c.exceptionTable.toList, False) → Pc args s →
      W p l e (headSpec ws rm).room s m args below meth c s.heap [] 0 0 (vx_MQ below Qc XC args s mc ms free) (entryFrame m args maxL)) : vx_Met l y ws rm Pc Qc XC mc ms free := by
  refine MetFree.of_bodyS (code := cc) (maxLocals := maxL) (ret := ret) hy ?_ ?_
  · intro args s m h hn
    obtain ⟨meth, c, h1, h2, h3, h4, h5, h6, -, -⟩ := Cond.code_spec hn (atoms_spec (ws := ws) h _ (by rw [hw]; exact List.mem_cons_self))
    exact ⟨meth, c, h1, h2, h3, h4, h5, h6⟩
  · intro p e s m args below meth c s₁ B hml hP _
    have hh0 : s₁.heap = s.heap := by rw [B.state]; rfl
    have ht : ∀ x ∈ c.exceptionTable.toList, False := by
      obtain ⟨meth9, c9, h1, h2, -, -, -, -, h7, -⟩ := Cond.code_spec B.named (atoms_spec (ws := ws) B.pre _ (by rw [hw]; exact List.mem_cons_self))
      cases Option.some.inj (h1.symm.trans B.method)
      cases Option.some.inj (h2.symm.trans (Stand.of_body B).code)
      intro x hx
      rw [Array.isEmpty_iff.mp h7] at hx
      cases hx
    obtain ⟨t, a1, o, b1, b2, b3⟩ := body p e s m args below meth c s₁ B hml ht hP s₁ hh0 (Stand.of_body B)
    exact ⟨t, o, a1, b1, b2, b3⟩
/-- the table of a body with handlers -/
theorem vx_table {p : Program} {x y : MethodName} {S : Spec} {cc bytes : ByteArray} {maxL maxL' : Nat} {ret ret' : Option FieldType} {e : Env} {s s₁ : State} {m : MethodId} {args : Array Value} {below : List Frame} {meth : Method} {c : Code} {hh : List (Nat × Nat × Nat × Nat)}
    (B : BodyLoose p l y S cc maxL ret e s m args below meth c s₁) (h : (Cond.codeWith y bytes maxL' ret' hh).before args s = true) : c.exceptionTable.toList = tableOf hh := by
  obtain ⟨m9, meth9, c9, hn9, h1, h2, -, -, h6, -⟩ := Cond.codeWith_spec h
  cases Option.some.inj (hn9.symm.trans B.named)
  cases Option.some.inj (h1.symm.trans B.method)
  cases Option.some.inj (h2.symm.trans (Stand.of_body B).code)
  rw [← h6, table_eq]
end Bodies
end VXA
/-! ===== END ===== -/
/-! ===== BEGIN a static call of a method with an exception table ===== -/
section VXS
variable {p : Program} {l : Launch} {e : Env} {R : Room} {s : State} {m : MethodId} {args : Array Value} {below : List Frame} {meth : Method} {c : Code} {T : State} {H : Heap} {locs : List Loc} {cells slots : Nat}
abbrev vx_CSW (R : Room) (s : State) (args : Array Value) (own : String) (index : Nat) (y : MethodName) (bytes : ByteArray) (maxL : Nat) (ret : Option FieldType) (hh : List (Nat × Nat × Nat × Nat)) (ws : List Cond) (rm : Room) (mc ms n : Nat) : Prop :=
  (rm.cells = mc ∧ rm.slots = ms ∧ rm.frames + 1 ≤ R.frames ∧ 8 + (maxL + 11) + rm.locals ≤ R.locals ∧ (∀ w ∈ ws, ∀ (a' : Array Value) (U : State), s.WarmedH U.vm → w.before a' U = true) ∧ Cond.codeWith y bytes maxL ret hh ∈ ws) ∧
  (Cond.codeWith y bytes maxL ret hh).before args s = true ∧ (Cond.initialized y.cls).before args s = true ∧ (y.cls ≠ "java/lang/invoke/MethodHandle" ∧ y.cls ≠ "java/lang/invoke/VarHandle") ∧
  (∀ sig, parseMethodDescriptor y.desc = some sig → n = sig.parameters.length) ∧ (Cond.methodLink own index y).before args s = true ∧ (Cond.static y).before args s = true
theorem vx_cwSW {own : String} {index maxL mc ms : Nat} {y : MethodName} {bytes : ByteArray} {ret : Option FieldType} {hh : List (Nat × Nat × Nat × Nat)} {Ts ws ws' : List Cond} {rm : Room} (n : Nat) (ht : ∀ w ∈ Ts, w.before args s = true) (hT : GoodIn Ts (va_wsS own index y ws)) (hw : ws = Cond.codeWith y bytes maxL ret hh :: ws') (hrc : rm.cells = mc) (hrs : rm.slots = ms)
    (hd : y.cls ≠ "java/lang/invoke/MethodHandle" ∧ y.cls ≠ "java/lang/invoke/VarHandle" ∧ (parseMethodDescriptor y.desc).map (fun d => d.parameters.length) = some n) (hR : rm.frames + 1 ≤ R.frames ∧ 8 + (maxL + 11) + rm.locals ≤ R.locals) :
    vx_CSW R s args own index y bytes maxL ret hh ws rm mc ms n := by
  have ok : ∀ w ∈ va_wsS own index y ws, w.before args s = true := fun w h => ht w (hT w h).1
  have hG : GoodIn Ts ws := fun w h => hT w (by unfold va_wsS; exact List.mem_append_right _ h)
  have hc : Cond.codeWith y bytes maxL ret hh ∈ ws := by rw [hw]; exact List.mem_cons_self
  refine ⟨⟨hrc, hrs, hR.1, hR.2, pay_in ht hG, hc⟩, ht _ (hG _ hc).1, ok _ (by simp [va_wsS]), ⟨hd.1, hd.2.1⟩, fun sig h => ?_, ok _ (by simp [va_wsS]), ok _ (by simp [va_wsS])⟩
  have h2 := hd.2.2
  rw [h] at h2
  exact (Option.some.inj h2).symm
theorem vx_callSW (X : Stand p l e R s m args below meth c T locs cells slots) (hexec : p.tables.exec = Jvm.exec) {own : String} {index : Nat} {y : MethodName} {bytes : ByteArray} {maxL : Nat} {ret : Option FieldType} {hh : List (Nat × Nat × Nat × Nat)}
    (hown : s.vm.findClass own = some m.cls) (hlink : (Cond.methodLink own index y).before args s = true) (hstat : (Cond.static y).before args s = true) (hinit : (Cond.initialized y.cls).before args s = true)
    (hcode : (Cond.codeWith y bytes maxL ret hh).before args s = true) (hy : y.cls ≠ "java/lang/invoke/MethodHandle" ∧ y.cls ≠ "java/lang/invoke/VarHandle")
    {W9 : Nat} {Pre : Pt → Array Value → Prop} {Post : Pt → Array Value → Option Value → Pt → Prop} (hK : Back l R p e below s args y 3 W9 Pre Post)
    {g : JFrame} (hg : g.method = m) (hsize : g.locals.size = c.maxLocals) {argsL rest : List Value} (hlen : ∀ sig, parseMethodDescriptor y.desc = some sig → argsL.length = sig.parameters.length)
    (hstack : g.stack = argsL.reverse ++ rest) (hW : 2 * g.monitorRoom + (rest.map fun v => v.category).sum ≤ W9) (hdg : decode c.code g.pc = .ok (.invokestatic index, 3))
    (hpre : ∀ vm₁, s.WarmedH vm₁ → Pre ⟨T.setVm vm₁, locs, cells, slots⟩ argsL.toArray) :
    ∃ (v : Option Value) (vm₁ : Vm) (B : Pt), s.WarmedH vm₁ ∧ Stand p l e R s m args below meth c B.U B.locs B.cells B.slots ∧ Post ⟨T.setVm vm₁, locs, cells, slots⟩ argsL.toArray v B ∧
      ∀ target, Steps p.tables e below (B.U.setTop { g with pc := g.pc + 3, stack := v.toList ++ rest }) target → Steps p.tables e below (T.setTop g) target := by
  obtain ⟨mk, methM, cM, hnamed, hmethM, -, -, -, -, -, -, hsigM⟩ := Cond.codeWith_spec hcode
  have hstatic : methM.isStatic = true := Cond.static_spec hnamed hmethM hstat
  obtain ⟨kP, hkP, -⟩ := className_of_methodNamed hnamed
  have hinitP : kP.init = .initialized := Cond.initialized_spec (findClass_of_methodNamed hnamed) hkP hinit
  obtain ⟨vm₁, X₁, hstep₁⟩ := X.invokestatic hexec hown hlink hnamed hmethM hstatic hkP hinitP hy (g := g) hg (argsL := argsL) (rest := rest) (hlen _ hsigM) hstack hdg
  obtain ⟨v, B, X', hpost, hsteps⟩ := hK m meth c ⟨T.setVm vm₁, locs, cells, slots⟩ { g with stack := rest } (.invokestatic index) mk argsL.toArray X₁ hg hsize hdg hW (X₁.named hnamed) (hpre vm₁ X₁.warmed)
  exact ⟨v, vm₁, B, X₁.warmed, X', hpost, fun target h => hstep₁ _ fun acts => by rw [doInvoke_state]; exact hsteps.trans h⟩
theorem vx_runSW {y : MethodName} {bytes cc : ByteArray} {maxL nL mc ms n index : Nat} {ret : Option FieldType} {hh : List (Nat × Nat × Nat × Nat)} {ws : List Cond} {rm : Room} {Pc : Array Value → State → Prop} {Qc : Array Value → State → Outcome → State → Prop} {free : Addr → Prop} {Ts : List Cond} {own : String} {As rest : List Value} {g : JFrame}
    (S : CallFix p m c cc nL s args Ts own) (hM : Met l y ws rm Pc Qc mc ms free) (cw : vx_CSW R s args own index y bytes maxL ret hh ws rm mc ms n) (hp : PreS s H Pc As)
    (hg : g.method = m) (hn : As.length = n) (hsize : g.locals.size = nL) (hstack : g.stack = As.reverse ++ rest) (hW : 2 * g.monitorRoom + (rest.map fun v => v.category).sum ≤ 8) (hdg : decode cc g.pc = .ok (.invokestatic index, 3)) (hf : cells + mc ≤ R.cells ∧ slots + ms ≤ R.slots) :
    va_Run p l e R s m args below meth c H locs cells slots mc ms g rest (Qc As.toArray) (free) := by
  obtain ⟨⟨hrc, hrs, hfr, hlo, hws, hcw⟩, hcode, hini, hy, hlen, hl, hstt⟩ := cw
  have hK : Back l R p e below s args y 3 8 (PreOf R mc ms Pc) (PostOf Qc mc ms free) := va_backW (hh := hh) (bytes := bytes) (maxL := maxL) (ret := ret) hM hp.1 hrc hrs hfr hlo hws hcw (fun a' U hW => word_at hW (Or.inl (by first | rfl | simp [Cond.onTables, Cond.keeps, Cond.steady])) hini)
  obtain ⟨hx, hb, hml, ho, -⟩ := S
  intro T hT X
  obtain ⟨v, vm₁, ⟨U', l2, c2, s2⟩, hW₁, X', ⟨g', mk, t, L, e1, e2, hq, h1, hL, h2, h3⟩, st⟩ := vx_callSW X hx (hh := hh) (bytes := bytes) (maxL := maxL) (ret := ret) ho hl hstt hini hcode hy hK hg (hsize.trans hml.symm) (argsL := As) (rest := rest) (fun sig h => hn.trans (hlen sig h)) hstack hW (by rw [hb]; exact hdg)
    (fun vm₁ hW₁ => ⟨hf.1, hf.2, hp.2 (T.setVm vm₁) hT hW₁⟩)
  dsimp only [Pt.U, Pt.locs, Pt.cells, Pt.slots] at X' e1 e2 h1 h2 h3 st
  subst h1; subst h2; subst h3
  exact ⟨v, (T.setVm vm₁).calling g' mk As.toArray, t, U', L, hT, X', hL, e1, e2, hq, st⟩
/-- not caught here, past rows that name other classes: it goes on to the caller -/
theorem vx_outP {p : Program} {l : Launch} {e : Env} {R : Room} {s : State} {m : MethodId} {args : Array Value} {below : List Frame} {meth : Method} {c : Code} {H : Heap} {locs : List Loc} {cells slots : Nat} {free : Addr → Prop} {ls : Array Slot} {rest : List Value} {Qc : Array Value → State → Outcome → State → Prop} {XC : String → State → State → Prop}
    {pc : Nat} {own E : String} {ce : Cell} {q : Addr} {mc ms : Nat} (hown : s.vm.findClass own = some m.cls) (hlocks : meth.locks = false)
    (hpass : ∀ z ∈ c.exceptionTable.toList, covers z pc = false ∨ (z.catchType ≠ 0 ∧ ∃ nm : String, (Cond.classLink own z.catchType nm).before args s = true ∧ va_Nc E nm s)) (hcell : H[q]? = some ce) (hv : ce.vm = .none) (hcl : s.vm.findClass E = some ce.cls)
    (hx : ∀ t : State, t.heap = H → s.vm.Alike t.vm → XC E s t) (hf : ∀ z ∈ locs, free z.base) (hc : cells ≤ mc) (hs : slots ≤ ms) :
    vx_W p l e R s m args below meth c H locs cells slots (vx_MQ below Qc XC args s mc ms free) (F0 m pc ls rest) q := by
  intro T hT X
  have hpl : e.platform.magicAccessors = ({} : Platform).magicAccessors := by rw [X.admits.platform]
  obtain ⟨vm', hW', X', st⟩ := X.outThrough hlocks q (g := F0 m pc ls rest) rfl rfl rfl (cell := ce) (by rw [hT]; exact hcell) (by rw [hv]; rfl)
    (by obtain ⟨k9, h9, -⟩ := Vm.findClass_spec hcl; exact ⟨k9, h9⟩) (fun z hz => by
      rcases hpass z hz with h | ⟨hz0, nm, hl1, hn1⟩
      · exact Or.inl h
      · obtain ⟨c6, hc6, hcl6⟩ := Cond.classLink_spec hown hl1 e.platform hpl
        obtain ⟨a8, b8, h1, h2, h3⟩ := hn1
        cases Option.some.inj (h1.symm.trans hcl)
        cases Option.some.inj (h2.symm.trans hc6)
        exact Or.inr ⟨hz0, _, hcl6, h3⟩)
  obtain ⟨g₀, hfr⟩ := X'.frames_eq
  have hcell9 : ((T.setVm vm').setFrames (.throwing q :: below)).heap[q]? = some ce := by
    show T.heap[q]? = some ce
    rw [hT]; exact hcell
  have hend : Ended ((T.setVm vm').setFrames (.throwing q :: below)) below (.threw q) := State.frames_setFrames _ (State.cur_lt_of_frames hfr)
  refine ⟨(T.setVm vm').setFrames (.throwing q :: below), ?_, .threw q, X'.here.running, hend, Or.inr ⟨q, rfl, E, ce, locs, hx _ hT (X'.ends _).1.alike, hcell9, hv, hcl, (X'.ends _).1, (X'.ends _).2.mono hc hs, hf⟩⟩
  rw [X.pushThrowing_eq]
  exact st
/-- a thing of a world lies in the heap -/
theorem vx_lt {D : va_G} {cl : List vw_C} {ws : va_W} {H1 : Heap} (h : va_P D cl ws H1) {k : Nat} {q : Nat × va_E} (hk : ws[k]? = some q) : q.1 < H1.size := (h k q hk).lt
end VXS
/-! ===== END ===== -/
/-! ===== BEGIN methods with a table of their own: called by a name, returning or throwing ===== -/
section VXH
/-! vx_backW, vx_callVX, vx_callSX, vx_callVW, vx_runVW, vx_runVX, vx_runSX, vx_ofWH follow the same proofs as their sisters above (Free/Laws.lean, Shelf42/LK1.lean); vx_outP calls Shelf42/NT130.lean (outThrough). -/
section
variable {l : Launch} {R : Room} {p : Program} {e : Env} {below : List Frame} {s : State} {sargs : Array Value} {y : MethodName} {len W9 : Nat}
theorem vx_backW {ws : List Cond} {rm : Room} {Pc : Array Value → State → Prop} {Qc : Array Value → State → Outcome → State → Prop} {XC : String → State → State → Prop} {mc ms : Nat} {free : Addr → Prop} {bytes : ByteArray} {maxL : Nat} {ret : Option FieldType} {hh : List (Nat × Nat × Nat × Nat)}
    (hM : vx_Met l y ws rm Pc Qc XC mc ms free) (hblind : FrameBlind Pc) (hrc : rm.cells = mc) (hrs : rm.slots = ms)
    (hframes : rm.frames + 1 ≤ R.frames) (hlocals : W9 + (maxL + 11) + rm.locals ≤ R.locals)
    (hws : ∀ w ∈ ws, ∀ a' U, s.WarmedH U.vm → w.before a' U = true) (hcode : Cond.codeWith y bytes maxL ret hh ∈ ws) (hinit : ∀ a' U, s.WarmedH U.vm → (Cond.initialized y.cls).before a' U = true) :
    vx_Back l R p e below s sargs y len W9 (PreOf R mc ms Pc) (PostOf Qc mc ms free) (vx_Post XC mc ms free) := by
  intro m meth c A g ig mk a X hg hsize hdg hW hn hp
  have h1 : (headSpec ws rm).pre.before a A.U = true := atoms_intro fun w hw => hws w hw _ _ X.warmed
  have h2 : (Cond.codeWith y bytes maxL ret hh).before a A.U = true := hws _ hcode _ _ X.warmed
  have h3 : (Cond.initialized y.cls).before a A.U = true := hinit _ _ X.warmed
  have h4 : A.cells + (headSpec ws rm).room.cells ≤ R.cells := by rw [show (headSpec ws rm).room.cells = mc from hrc]; exact hp.1
  have h5 : A.slots + (headSpec ws rm).room.slots ≤ R.slots := by rw [show (headSpec ws rm).room.slots = ms from hrs]; exact hp.2.1
  have hPc : Pc a (A.U.calling g mk a) := hblind _ _ _ _ hp.2.2
  obtain ⟨U, Ls, c0, s0⟩ := A
  dsimp only [Pt.U, Pt.locs, Pt.cells, Pt.slots] at h1 h2 h3 h4 h5 X hn hPc ⊢
  obtain ⟨m9, methY, cY, hn9, hmY, hcY, -, hlY, -⟩ := Cond.codeWith_spec h2
  cases Option.some.inj (hn9.symm.trans hn)
  obtain ⟨kY, hkY, -⟩ := className_of_methodNamed hn
  have hinitY : kY.init = .initialized := Cond.initialized_spec (findClass_of_methodNamed hn) hkY h3
  have h : At U g.method c below := by rw [hg]; exact X.here
  have hlocals9 : W9 + (maxL + 11) + (headSpec ws rm).room.locals ≤ R.locals := hlocals
  have happ : (headSpec ws rm).appliesLoose y e.platform (U.calling g mk a) = true :=
    Spec.appliesLoose_calling (g := g) h hdg hn hkY hinitY
      (X.room_calling (g := g) (R' := (headSpec ws rm).room) hsize hmY hcY hframes (by rw [hlY]; omega) h4 h5) h1
  obtain ⟨mid, hmid⟩ := h.above
  have hfr : (U.setTop g).frames = (.java g :: mid) ++ below := by rw [State.frames_setTop' g h.top, hmid]; rfl
  obtain ⟨o, s₂, hsteps, -, hend, hq⟩ := Steps.callFree hM p X.admits X.cas X.clock (acts := []) hfr happ hPc trivial
  have hq' : vx_Q Qc XC mc ms free a (U.calling g mk a) o s₂ := hq
  rw [State.frames_setTop' g h.top] at hend
  obtain ⟨g₀, hg0⟩ := Option.isSome_iff_exists.mp h.top
  obtain ⟨r, hr⟩ := State.topJava?_eq_some.mp hg0
  have hr' : (({ U with heap := s₂.heap, slotsUsed := s₂.slotsUsed } : State).setVm s₂.vm).frames = .java g₀ :: r := hr
  rcases hq' with ⟨hqc, L, hfe, hL⟩ | ⟨q, rfl, E, ce, L, hx, hce, hcv, hcl, hW₂, hsm, hL⟩
  · obtain ⟨⟨v, rfl⟩, hW₂, e2, q2, q3, q4, q5, q6⟩ := id hfe
    have e3 : s₂ = ({ (U.calling g mk a).setFrames s₂.frames with heap := s₂.heap, slotsUsed := s₂.slotsUsed } : State).setVm s₂.vm := by
      have : s₂ = ({ s₂ with vm := (U.calling g mk a).vm } : State).setVm s₂.vm := rfl
      rw [e2] at this
      exact this
    obtain ⟨c₂, i₂, len₂, hc₂, hd₂, hf₂⟩ := hend
    have hW' : U.WarmedH s₂.vm := hW₂
    have hcc : c₂ = c := by
      have h1 : s₂.code? g.method = U.code? g.method := by
        rw [State.code?_eq, State.code?_eq, hW'.alike.method?]
      exact Option.some.inj (hc₂.symm.trans (h1.trans h.code))
    subst hcc
    have hlen : len₂ = len := by rw [hdg] at hd₂; cases hd₂; rfl
    subst hlen
    have hs₂ : s₂ = (({ U with heap := s₂.heap, slotsUsed := s₂.slotsUsed } : State).setVm s₂.vm).setTop { g with pc := g.pc + len₂, stack := v.toList ++ g.stack } := by
      refine e3.trans ?_
      rw [hf₂, State.calling_eq h.top, State.setFrames_setFrames, State.setTop_of_frames _ hr', hr]
      rfl
    have hsame : U.sameButNew ({ U with heap := s₂.heap, slotsUsed := s₂.slotsUsed } : State) L mc ms := by
      refine ⟨?_, q2, q3, q4, q5, q6⟩
      obtain ⟨t, ht, -⟩ := State.frames_cons hr
      show ({ U with heap := s₂.heap, slotsUsed := s₂.slotsUsed } : State) = { U.setFrames U.frames with heap := s₂.heap, slotsUsed := s₂.slotsUsed }
      rw [State.setFrames_self ht]
    subst hg
    refine Or.inl ⟨v, ⟨(({ U with heap := s₂.heap, slotsUsed := s₂.slotsUsed } : State).setVm s₂.vm), Ls ++ L, c0 + mc, s0 + ms⟩,
      ⟨X.admits, X.cas, X.clock, X.frames, X.room, X.hears, X.method, X.code, (X.here.setHeapUsed s₂.heap s₂.slotsUsed).setVm hW'.alike, X.tail, State.WarmedH.trans X.warmed hW', X.limits, X.bytes, X.same.trans (hsame.setVm s.vm)⟩,
      ⟨g, mk, s₂, L, rfl, rfl, hqc, rfl, hL, rfl, rfl⟩, ?_⟩
    show Steps p.tables e below _ ((({ U with heap := s₂.heap, slotsUsed := s₂.slotsUsed } : State).setVm s₂.vm).setTop { g with pc := g.pc + len₂, stack := v.toList ++ g.stack })
    rw [← hs₂]
    exact hsteps
  · obtain ⟨e2, q2, q3, q4, q5, q6⟩ := id hsm
    have e3 : s₂ = ({ (U.calling g mk a).setFrames s₂.frames with heap := s₂.heap, slotsUsed := s₂.slotsUsed } : State).setVm s₂.vm := by
      have : s₂ = ({ s₂ with vm := (U.calling g mk a).vm } : State).setVm s₂.vm := rfl
      rw [e2] at this
      exact this
    have hf₂ : s₂.frames = .throwing q :: .java g :: U.frames.tail := hend
    have hW' : U.WarmedH s₂.vm := hW₂
    have hs₂ : s₂ = ((({ U with heap := s₂.heap, slotsUsed := s₂.slotsUsed } : State).setVm s₂.vm).setTop g).pushFrame (.throwing q) := by
      refine e3.trans ?_
      rw [hf₂, State.calling_eq h.top, State.setFrames_setFrames, State.pushFrame, State.frames_setTop _ hr', State.setTop_of_frames _ hr', State.setFrames_setFrames, hr]
      rfl
    have hsame : U.sameButNew ({ U with heap := s₂.heap, slotsUsed := s₂.slotsUsed } : State) L mc ms := by
      refine ⟨?_, q2, q3, q4, q5, q6⟩
      obtain ⟨t, ht, -⟩ := State.frames_cons hr
      show ({ U with heap := s₂.heap, slotsUsed := s₂.slotsUsed } : State) = { U.setFrames U.frames with heap := s₂.heap, slotsUsed := s₂.slotsUsed }
      rw [State.setFrames_self ht]
    subst hg
    refine Or.inr ⟨q, ⟨(({ U with heap := s₂.heap, slotsUsed := s₂.slotsUsed } : State).setVm s₂.vm), Ls ++ L, c0 + mc, s0 + ms⟩,
      ⟨X.admits, X.cas, X.clock, X.frames, X.room, X.hears, X.method, X.code, (X.here.setHeapUsed s₂.heap s₂.slotsUsed).setVm hW'.alike, X.tail, State.WarmedH.trans X.warmed hW', X.limits, X.bytes, X.same.trans (hsame.setVm s.vm)⟩,
      ⟨g, mk, s₂, L, E, ce, rfl, rfl, hx, hce, hcv, hcl, rfl, hL, rfl, rfl⟩, ?_⟩
    show Steps p.tables e below _ (((({ U with heap := s₂.heap, slotsUsed := s₂.slotsUsed } : State).setVm s₂.vm).setTop g).pushFrame (.throwing q))
    rw [← hs₂]
    exact hsteps
end
variable {p : Program} {l : Launch} {e : Env} {R : Room} {s : State} {m : MethodId} {args : Array Value} {below : List Frame} {meth : Method} {c : Code} {T : State} {H : Heap} {locs : List Loc} {cells slots : Nat}
theorem vx_callVX (X : Stand p l e R s m args below meth c T locs cells slots) (hexec : p.tables.exec = Jvm.exec) {own C : String} {index : Nat} {y : MethodName} {bytes : ByteArray} {maxL : Nat} {ret : Option FieldType} {hh : List (Nat × Nat × Nat × Nat)}
    (hown : s.vm.findClass own = some m.cls) (hlink : (Cond.methodLink own index y).before args s = true) (hinst : (Cond.instanceMethod y).before args s = true) (hsel : (Cond.selects C y y).before args s = true)
    (hcode : (Cond.codeWith y bytes maxL ret hh).before args s = true) (hy : y.cls ≠ "java/lang/invoke/MethodHandle" ∧ y.cls ≠ "java/lang/invoke/VarHandle")
    {W9 : Nat} {Pre : Pt → Array Value → Prop} {Post : Pt → Array Value → Option Value → Pt → Prop} {PostX : Pt → Array Value → Addr → Pt → Prop} (hK : vx_Back l R p e below s args y 3 W9 Pre Post PostX)
    {b : Addr} {cellB : Cell} (hcell : T.heap[b]? = some cellB) (hobj : cellB.vm.isStatics = false) (hcls : s.vm.findClass C = some cellB.cls)
    {g : JFrame} (hg : g.method = m) (hsize : g.locals.size = c.maxLocals) {argsL rest : List Value} (hlen : ∀ sig, parseMethodDescriptor y.desc = some sig → argsL.length = sig.parameters.length)
    (hstack : g.stack = argsL.reverse ++ .ref b :: rest) (hW : 2 * g.monitorRoom + (rest.map fun v => v.category).sum ≤ W9) (hdg : decode c.code g.pc = .ok (.invokevirtual index, 3))
    (hpre : ∀ vm₁, s.WarmedH vm₁ → Pre ⟨T.setVm vm₁, locs, cells, slots⟩ (Value.ref b :: argsL).toArray) :
    (∃ (v : Option Value) (vm₁ : Vm) (B : Pt), s.WarmedH vm₁ ∧ Stand p l e R s m args below meth c B.U B.locs B.cells B.slots ∧ Post ⟨T.setVm vm₁, locs, cells, slots⟩ (Value.ref b :: argsL).toArray v B ∧
      ∀ target, Steps p.tables e below (B.U.setTop { g with pc := g.pc + 3, stack := v.toList ++ rest }) target → Steps p.tables e below (T.setTop g) target) ∨
    (∃ (q : Addr) (vm₁ : Vm) (B : Pt), s.WarmedH vm₁ ∧ Stand p l e R s m args below meth c B.U B.locs B.cells B.slots ∧ PostX ⟨T.setVm vm₁, locs, cells, slots⟩ (Value.ref b :: argsL).toArray q B ∧
      Steps p.tables e below (T.setTop g) ((B.U.setTop { g with stack := rest }).pushFrame (.throwing q))) := by
  obtain ⟨mk, methM, hnamed, hmethM, hstM, habM⟩ := Cond.instanceMethod_spec hinst
  obtain ⟨m8, methM', cM, hn8, hmethM', -, -, -, -, -, -, hsigM⟩ := Cond.codeWith_spec hcode
  cases Option.some.inj (hn8.symm.trans hnamed)
  cases hmethM.symm.trans hmethM'
  obtain ⟨c2, r2, m2, q1, q2, q3, q4, kP, hkP, hkPi⟩ := Cond.selects_spec hsel
  cases hcls.symm.trans q1
  cases (State.methodFound?_of_named hnamed hy).symm.trans q2
  cases hnamed.symm.trans q3
  have hselP : selectMethod e.platform s.vm cellB.cls mk = .method mk := by rw [Launch.admits_selectMethod X.admits]; exact q4
  obtain ⟨vm₁, X₁, hstep₁⟩ := X.invokevirtual hexec hown hlink hnamed hmethM hstM hkP hkPi hy (a := b) (cell := cellB) hcell
    (fun z h => by rw [h] at hobj; cases hobj) hselP hmethM habM hkP hkPi (g := g) hg (argsL := argsL) (rest := rest) (hlen _ hsigM) hstack hdg
  rcases hK m meth c ⟨T.setVm vm₁, locs, cells, slots⟩ { g with stack := rest } (.invokevirtual index) mk (Value.ref b :: argsL).toArray X₁ hg hsize hdg hW (X₁.named hnamed) (hpre vm₁ X₁.warmed) with ⟨v, B, X', hpost, hsteps⟩ | ⟨q, B, X', hpost, hsteps⟩
  · exact Or.inl ⟨v, vm₁, B, X₁.warmed, X', hpost, fun target h => hstep₁ _ fun acts => by rw [doInvoke_state]; exact hsteps.trans h⟩
  · exact Or.inr ⟨q, vm₁, B, X₁.warmed, X', hpost, hstep₁ _ fun acts => by rw [doInvoke_state]; exact hsteps⟩
theorem vx_callSX (X : Stand p l e R s m args below meth c T locs cells slots) (hexec : p.tables.exec = Jvm.exec) {own : String} {index : Nat} {y : MethodName} {bytes : ByteArray} {maxL : Nat} {ret : Option FieldType} {hh : List (Nat × Nat × Nat × Nat)}
    (hown : s.vm.findClass own = some m.cls) (hlink : (Cond.methodLink own index y).before args s = true) (hstat : (Cond.static y).before args s = true) (hinit : (Cond.initialized y.cls).before args s = true)
    (hcode : (Cond.codeWith y bytes maxL ret hh).before args s = true) (hy : y.cls ≠ "java/lang/invoke/MethodHandle" ∧ y.cls ≠ "java/lang/invoke/VarHandle")
    {W9 : Nat} {Pre : Pt → Array Value → Prop} {Post : Pt → Array Value → Option Value → Pt → Prop} {PostX : Pt → Array Value → Addr → Pt → Prop} (hK : vx_Back l R p e below s args y 3 W9 Pre Post PostX)
    {g : JFrame} (hg : g.method = m) (hsize : g.locals.size = c.maxLocals) {argsL rest : List Value} (hlen : ∀ sig, parseMethodDescriptor y.desc = some sig → argsL.length = sig.parameters.length)
    (hstack : g.stack = argsL.reverse ++ rest) (hW : 2 * g.monitorRoom + (rest.map fun v => v.category).sum ≤ W9) (hdg : decode c.code g.pc = .ok (.invokestatic index, 3))
    (hpre : ∀ vm₁, s.WarmedH vm₁ → Pre ⟨T.setVm vm₁, locs, cells, slots⟩ argsL.toArray) :
    (∃ (v : Option Value) (vm₁ : Vm) (B : Pt), s.WarmedH vm₁ ∧ Stand p l e R s m args below meth c B.U B.locs B.cells B.slots ∧ Post ⟨T.setVm vm₁, locs, cells, slots⟩ argsL.toArray v B ∧
      ∀ target, Steps p.tables e below (B.U.setTop { g with pc := g.pc + 3, stack := v.toList ++ rest }) target → Steps p.tables e below (T.setTop g) target) ∨
    (∃ (q : Addr) (vm₁ : Vm) (B : Pt), s.WarmedH vm₁ ∧ Stand p l e R s m args below meth c B.U B.locs B.cells B.slots ∧ PostX ⟨T.setVm vm₁, locs, cells, slots⟩ argsL.toArray q B ∧
      Steps p.tables e below (T.setTop g) ((B.U.setTop { g with stack := rest }).pushFrame (.throwing q))) := by
  obtain ⟨mk, methM, cM, hnamed, hmethM, -, -, -, -, -, -, hsigM⟩ := Cond.codeWith_spec hcode
  have hstatic : methM.isStatic = true := Cond.static_spec hnamed hmethM hstat
  obtain ⟨kP, hkP, -⟩ := className_of_methodNamed hnamed
  have hinitP : kP.init = .initialized := Cond.initialized_spec (findClass_of_methodNamed hnamed) hkP hinit
  obtain ⟨vm₁, X₁, hstep₁⟩ := X.invokestatic hexec hown hlink hnamed hmethM hstatic hkP hinitP hy (g := g) hg (argsL := argsL) (rest := rest) (hlen _ hsigM) hstack hdg
  rcases hK m meth c ⟨T.setVm vm₁, locs, cells, slots⟩ { g with stack := rest } (.invokestatic index) mk argsL.toArray X₁ hg hsize hdg hW (X₁.named hnamed) (hpre vm₁ X₁.warmed) with ⟨v, B, X', hpost, hsteps⟩ | ⟨q, B, X', hpost, hsteps⟩
  · exact Or.inl ⟨v, vm₁, B, X₁.warmed, X', hpost, fun target h => hstep₁ _ fun acts => by rw [doInvoke_state]; exact hsteps.trans h⟩
  · exact Or.inr ⟨q, vm₁, B, X₁.warmed, X', hpost, hstep₁ _ fun acts => by rw [doInvoke_state]; exact hsteps⟩
theorem vx_callVW (X : Stand p l e R s m args below meth c T locs cells slots) (hexec : p.tables.exec = Jvm.exec) {own C : String} {index : Nat} {y : MethodName} {bytes : ByteArray} {maxL : Nat} {ret : Option FieldType} {hh : List (Nat × Nat × Nat × Nat)}
    (hown : s.vm.findClass own = some m.cls) (hlink : (Cond.methodLink own index y).before args s = true) (hinst : (Cond.instanceMethod y).before args s = true) (hsel : (Cond.selects C y y).before args s = true)
    (hcode : (Cond.codeWith y bytes maxL ret hh).before args s = true) (hy : y.cls ≠ "java/lang/invoke/MethodHandle" ∧ y.cls ≠ "java/lang/invoke/VarHandle")
    {W9 : Nat} {Pre : Pt → Array Value → Prop} {Post : Pt → Array Value → Option Value → Pt → Prop} (hK : Back l R p e below s args y 3 W9 Pre Post)
    {b : Addr} {cellB : Cell} (hcell : T.heap[b]? = some cellB) (hobj : cellB.vm.isStatics = false) (hcls : s.vm.findClass C = some cellB.cls)
    {g : JFrame} (hg : g.method = m) (hsize : g.locals.size = c.maxLocals) {argsL rest : List Value} (hlen : ∀ sig, parseMethodDescriptor y.desc = some sig → argsL.length = sig.parameters.length)
    (hstack : g.stack = argsL.reverse ++ .ref b :: rest) (hW : 2 * g.monitorRoom + (rest.map fun v => v.category).sum ≤ W9) (hdg : decode c.code g.pc = .ok (.invokevirtual index, 3))
    (hpre : ∀ vm₁, s.WarmedH vm₁ → Pre ⟨T.setVm vm₁, locs, cells, slots⟩ (Value.ref b :: argsL).toArray) :
    ∃ (v : Option Value) (vm₁ : Vm) (B : Pt), s.WarmedH vm₁ ∧ Stand p l e R s m args below meth c B.U B.locs B.cells B.slots ∧ Post ⟨T.setVm vm₁, locs, cells, slots⟩ (Value.ref b :: argsL).toArray v B ∧
      ∀ target, Steps p.tables e below (B.U.setTop { g with pc := g.pc + 3, stack := v.toList ++ rest }) target → Steps p.tables e below (T.setTop g) target := by
  obtain ⟨mk, methM, hnamed, hmethM, hstM, habM⟩ := Cond.instanceMethod_spec hinst
  obtain ⟨m8, methM', cM, hn8, hmethM', -, -, -, -, -, -, hsigM⟩ := Cond.codeWith_spec hcode
  cases Option.some.inj (hn8.symm.trans hnamed)
  cases hmethM.symm.trans hmethM'
  obtain ⟨c2, r2, m2, q1, q2, q3, q4, kP, hkP, hkPi⟩ := Cond.selects_spec hsel
  cases hcls.symm.trans q1
  cases (State.methodFound?_of_named hnamed hy).symm.trans q2
  cases hnamed.symm.trans q3
  have hselP : selectMethod e.platform s.vm cellB.cls mk = .method mk := by rw [Launch.admits_selectMethod X.admits]; exact q4
  obtain ⟨vm₁, X₁, hstep₁⟩ := X.invokevirtual hexec hown hlink hnamed hmethM hstM hkP hkPi hy (a := b) (cell := cellB) hcell
    (fun z h => by rw [h] at hobj; cases hobj) hselP hmethM habM hkP hkPi (g := g) hg (argsL := argsL) (rest := rest) (hlen _ hsigM) hstack hdg
  obtain ⟨v, B, X', hpost, hsteps⟩ := hK m meth c ⟨T.setVm vm₁, locs, cells, slots⟩ { g with stack := rest } (.invokevirtual index) mk (Value.ref b :: argsL).toArray X₁ hg hsize hdg hW (X₁.named hnamed) (hpre vm₁ X₁.warmed)
  exact ⟨v, vm₁, B, X₁.warmed, X', hpost, fun target h => hstep₁ _ fun acts => by rw [doInvoke_state]; exact hsteps.trans h⟩
abbrev vx_CVW (R : Room) (s : State) (args : Array Value) (own C : String) (index : Nat) (y : MethodName) (bytes : ByteArray) (maxL : Nat) (ret : Option FieldType) (hh : List (Nat × Nat × Nat × Nat)) (ws : List Cond) (rm : Room) (mc ms n : Nat) : Prop :=
  (rm.cells = mc ∧ rm.slots = ms ∧ rm.frames + 1 ≤ R.frames ∧ 8 + (maxL + 11) + rm.locals ≤ R.locals ∧ (∀ w ∈ ws, ∀ (a' : Array Value) (U : State), s.WarmedH U.vm → w.before a' U = true) ∧ Cond.codeWith y bytes maxL ret hh ∈ ws) ∧
  (Cond.codeWith y bytes maxL ret hh).before args s = true ∧ (Cond.initialized y.cls).before args s = true ∧ (y.cls ≠ "java/lang/invoke/MethodHandle" ∧ y.cls ≠ "java/lang/invoke/VarHandle") ∧
  (∀ sig, parseMethodDescriptor y.desc = some sig → n = sig.parameters.length) ∧ (Cond.methodLink own index y).before args s = true ∧ (Cond.instanceMethod y).before args s = true ∧ (Cond.selects C y y).before args s = true
theorem vx_cwVW {own C : String} {index maxL mc ms : Nat} {y : MethodName} {bytes : ByteArray} {ret : Option FieldType} {hh : List (Nat × Nat × Nat × Nat)} {Ts ws ws' : List Cond} {rm : Room} (n : Nat) (ht : ∀ w ∈ Ts, w.before args s = true) (hT : GoodIn Ts (wsV own index C y ws)) (hw : ws = Cond.codeWith y bytes maxL ret hh :: ws') (hrc : rm.cells = mc) (hrs : rm.slots = ms)
    (hd : y.cls = C ∧ y.cls ≠ "java/lang/invoke/MethodHandle" ∧ y.cls ≠ "java/lang/invoke/VarHandle" ∧ (parseMethodDescriptor y.desc).map (fun d => d.parameters.length) = some n) (hR : rm.frames + 1 ≤ R.frames ∧ 8 + (maxL + 11) + rm.locals ≤ R.locals) :
    vx_CVW R s args own C index y bytes maxL ret hh ws rm mc ms n := by
  obtain ⟨hC, hd⟩ := hd
  subst hC
  have ok : ∀ w ∈ wsV own index y.cls y ws, w.before args s = true := fun w h => ht w (hT w h).1
  have hG : GoodIn Ts ws := fun w h => hT w (by unfold wsV; exact List.mem_append_right _ h)
  have hc : Cond.codeWith y bytes maxL ret hh ∈ ws := by rw [hw]; exact List.mem_cons_self
  refine ⟨⟨hrc, hrs, hR.1, hR.2, pay_in ht hG, hc⟩, ht _ (hG _ hc).1, ok _ (by simp [wsV]), ⟨hd.1, hd.2.1⟩, fun sig h => ?_, ok _ (by simp [wsV]), ok _ (by simp [wsV]), ok _ (by simp [wsV])⟩
  have h2 := hd.2.2
  rw [h] at h2
  exact (Option.some.inj h2).symm
theorem vx_runVW {y : MethodName} {bytes cc : ByteArray} {maxL nL mc ms n index : Nat} {ret : Option FieldType} {hh : List (Nat × Nat × Nat × Nat)} {ws : List Cond} {rm : Room} {Pc : Array Value → State → Prop} {Qc : Array Value → State → Outcome → State → Prop} {free : Addr → Prop} {Ts : List Cond} {own C : String} {b : Addr} {As rest : List Value} {g : JFrame}
    (S : CallFix p m c cc nL s args Ts own) (hM : Met l y ws rm Pc Qc mc ms free) (cw : vx_CVW R s args own C index y bytes maxL ret hh ws rm mc ms n) (hp : PreV s H C b Pc As)
    (hg : g.method = m) (hn : As.length = n) (hsize : g.locals.size = nL) (hstack : g.stack = As.reverse ++ .ref b :: rest) (hW : 2 * g.monitorRoom + (rest.map fun v => v.category).sum ≤ 8) (hdg : decode cc g.pc = .ok (.invokevirtual index, 3)) (hf : cells + mc ≤ R.cells ∧ slots + ms ≤ R.slots) :
    va_Run p l e R s m args below meth c H locs cells slots mc ms g rest (Qc (Value.ref b :: As).toArray) free := by
  obtain ⟨⟨hrc, hrs, hfr, hlo, hws, hcw⟩, hcode, hini, hy, hlen, hl, hin, hse⟩ := cw
  have hK : Back l R p e below s args y 3 8 (PreOf R mc ms Pc) (PostOf Qc mc ms free) := va_backW (hh := hh) (bytes := bytes) (maxL := maxL) (ret := ret) hM hp.1 hrc hrs hfr hlo hws hcw (fun a' U hW => word_at hW (Or.inl (by first | rfl | simp [Cond.onTables, Cond.keeps, Cond.steady])) hini)
  obtain ⟨hx, hb, hml, ho, -⟩ := S
  obtain ⟨-, ⟨cellB, hcB, hoB, hclB⟩, hPc⟩ := hp
  intro T hT X
  obtain ⟨v, vm₁, ⟨U', l2, c2, s2⟩, hW₁, X', ⟨g', mk, t, L, e1, e2, hq, h1, hL, h2, h3⟩, st⟩ := vx_callVW X hx (C := C) (hh := hh) (bytes := bytes) (maxL := maxL) (ret := ret) ho hl hin hse hcode hy hK (by rw [hT]; exact hcB) hoB hclB hg (hsize.trans hml.symm) (argsL := As) (rest := rest) (fun sig h => hn.trans (hlen sig h)) hstack hW (by rw [hb]; exact hdg)
    (fun vm₁ hW₁ => ⟨hf.1, hf.2, hPc (T.setVm vm₁) hT hW₁⟩)
  dsimp only [Pt.U, Pt.locs, Pt.cells, Pt.slots] at X' e1 e2 h1 h2 h3 st
  subst h1; subst h2; subst h3
  exact ⟨v, (T.setVm vm₁).calling g' mk (Value.ref b :: As).toArray, t, U', L, hT, X', hL, e1, e2, hq, st⟩
section
variable {y : MethodName} {bytes cc : ByteArray} {maxL nL mc ms n index : Nat} {ret : Option FieldType} {ws : List Cond} {rm : Room} {Pc : Array Value → State → Prop} {Qc : Array Value → State → Outcome → State → Prop} {XC : String → State → State → Prop} {free : Addr → Prop} {Ts : List Cond} {own C : String} {b : Addr} {As rest : List Value} {g : JFrame}
theorem vx_runVX {hh : List (Nat × Nat × Nat × Nat)} (S : CallFix p m c cc nL s args Ts own) (hM : vx_Met l y ws rm Pc Qc XC mc ms free) (cw : vx_CVW R s args own C index y bytes maxL ret hh ws rm mc ms n) (hp : PreV s H C b Pc As)
    (hg : g.method = m) (hn : As.length = n) (hsize : g.locals.size = nL) (hstack : g.stack = As.reverse ++ .ref b :: rest) (hW : 2 * g.monitorRoom + (rest.map fun v => v.category).sum ≤ 8) (hdg : decode cc g.pc = .ok (.invokevirtual index, 3)) (hf : cells + mc ≤ R.cells ∧ slots + ms ≤ R.slots) :
    vx_Run p l e R s m args below meth c H locs cells slots mc ms g rest (Qc (Value.ref b :: As).toArray) XC free := by
  obtain ⟨⟨hrc, hrs, hfr, hlo, hws, hcw⟩, hcode, hini, hy, hlen, hl, hin, hse⟩ := cw
  have hK : vx_Back l R p e below s args y 3 8 (PreOf R mc ms Pc) (PostOf Qc mc ms free) (vx_Post XC mc ms free) := vx_backW (hh := hh) (bytes := bytes) (maxL := maxL) (ret := ret) hM hp.1 hrc hrs hfr hlo hws hcw (fun a' U hW => word_at hW (Or.inl (by first | rfl | simp [Cond.onTables, Cond.keeps, Cond.steady])) hini)
  obtain ⟨hx, hb, hml, ho, -⟩ := S
  obtain ⟨-, ⟨cellB, hcB, hoB, hclB⟩, hPc⟩ := hp
  intro T hT X
  rcases vx_callVX X hx (C := C) (hh := hh) (bytes := bytes) (maxL := maxL) (ret := ret) ho hl hin hse hcode hy hK (by rw [hT]; exact hcB) hoB hclB hg (hsize.trans hml.symm) (argsL := As) (rest := rest) (fun sig h => hn.trans (hlen sig h)) hstack hW (by rw [hb]; exact hdg)
    (fun vm₁ hW₁ => ⟨hf.1, hf.2, hPc (T.setVm vm₁) hT hW₁⟩) with ⟨v, vm₁, ⟨U', l2, c2, s2⟩, hW₁, X', ⟨g', mk, t, L, e1, e2, hq, h1, hL, h2, h3⟩, st⟩ | ⟨q, vm₁, ⟨U', l2, c2, s2⟩, hW₁, X', ⟨g', mk, t, L, E, ce, e1, e2, hq, hce, hcv, hcl, h1, hL, h2, h3⟩, st⟩
  · dsimp only [Pt.U, Pt.locs, Pt.cells, Pt.slots] at X' e1 e2 h1 h2 h3 st
    subst h1; subst h2; subst h3
    exact Or.inl ⟨v, (T.setVm vm₁).calling g' mk (Value.ref b :: As).toArray, t, U', L, hT, X', hL, e1, e2, hq, st⟩
  · dsimp only [Pt.U, Pt.locs, Pt.cells, Pt.slots] at X' e1 e2 h1 h2 h3 st hcl
    subst h1; subst h2; subst h3
    exact Or.inr ⟨q, (T.setVm vm₁).calling g' mk (Value.ref b :: As).toArray, t, U', L, E, ce, hT, X', hL, e1, e2, hq, hce, hcv, vx_cls hW₁ hcl, st⟩
theorem vx_runSX {hh : List (Nat × Nat × Nat × Nat)} (S : CallFix p m c cc nL s args Ts own) (hM : vx_Met l y ws rm Pc Qc XC mc ms free) (cw : vx_CSW R s args own index y bytes maxL ret hh ws rm mc ms n) (hp : PreS s H Pc As)
    (hg : g.method = m) (hn : As.length = n) (hsize : g.locals.size = nL) (hstack : g.stack = As.reverse ++ rest) (hW : 2 * g.monitorRoom + (rest.map fun v => v.category).sum ≤ 8) (hdg : decode cc g.pc = .ok (.invokestatic index, 3)) (hf : cells + mc ≤ R.cells ∧ slots + ms ≤ R.slots) :
    vx_Run p l e R s m args below meth c H locs cells slots mc ms g rest (Qc As.toArray) XC free := by
  obtain ⟨⟨hrc, hrs, hfr, hlo, hws, hcw⟩, hcode, hini, hy, hlen, hl, hstt⟩ := cw
  have hK : vx_Back l R p e below s args y 3 8 (PreOf R mc ms Pc) (PostOf Qc mc ms free) (vx_Post XC mc ms free) := vx_backW (hh := hh) (bytes := bytes) (maxL := maxL) (ret := ret) hM hp.1 hrc hrs hfr hlo hws hcw (fun a' U hW => word_at hW (Or.inl (by first | rfl | simp [Cond.onTables, Cond.keeps, Cond.steady])) hini)
  obtain ⟨hx, hb, hml, ho, -⟩ := S
  intro T hT X
  rcases vx_callSX X hx (hh := hh) (bytes := bytes) (maxL := maxL) (ret := ret) ho hl hstt hini hcode hy hK hg (hsize.trans hml.symm) (argsL := As) (rest := rest) (fun sig h => hn.trans (hlen sig h)) hstack hW (by rw [hb]; exact hdg)
    (fun vm₁ hW₁ => ⟨hf.1, hf.2, hp.2 (T.setVm vm₁) hT hW₁⟩) with ⟨v, vm₁, ⟨U', l2, c2, s2⟩, hW₁, X', ⟨g', mk, t, L, e1, e2, hq, h1, hL, h2, h3⟩, st⟩ | ⟨q, vm₁, ⟨U', l2, c2, s2⟩, hW₁, X', ⟨g', mk, t, L, E, ce, e1, e2, hq, hce, hcv, hcl, h1, hL, h2, h3⟩, st⟩
  · dsimp only [Pt.U, Pt.locs, Pt.cells, Pt.slots] at X' e1 e2 h1 h2 h3 st
    subst h1; subst h2; subst h3
    exact Or.inl ⟨v, (T.setVm vm₁).calling g' mk As.toArray, t, U', L, hT, X', hL, e1, e2, hq, st⟩
  · dsimp only [Pt.U, Pt.locs, Pt.cells, Pt.slots] at X' e1 e2 h1 h2 h3 st hcl
    subst h1; subst h2; subst h3
    exact Or.inr ⟨q, (T.setVm vm₁).calling g' mk As.toArray, t, U', L, E, ce, hT, X', hL, e1, e2, hq, hce, hcv, vx_cls hW₁ hcl, st⟩
end
end VXH
theorem vx_ofWH {l : Launch} {y : MethodName} {ws ws' : List Cond} {rm : Room} {Pc : Array Value → State → Prop} {Qc : Array Value → State → Outcome → State → Prop} {XC : String → State → State → Prop} {mc ms : Nat} {free : Addr → Prop} {cc : ByteArray} {maxL : Nat} {ret : Option FieldType} {hh : List (Nat × Nat × Nat × Nat)}
    (hy : plainName y.cls = true) (hw : ws = Cond.codeWith y cc maxL ret hh :: ws')
    (body : ∀ p e s m args below meth c s₁, BodyLoose p l y (headSpec ws rm) cc maxL ret e s m args below meth c s₁ → c.maxLocals = maxL → Pc args s →
      W p l e (headSpec ws rm).room s m args below meth c s.heap [] 0 0 (vx_MQ below Qc XC args s mc ms free) (entryFrame m args maxL)) : vx_Met l y ws rm Pc Qc XC mc ms free := by
  refine MetFree.of_bodyS (code := cc) (maxLocals := maxL) (ret := ret) hy ?_ ?_
  · intro args s m h hn
    obtain ⟨m9, meth, c, hn9, h1, h2, h3, h4, -, h5, h6, -⟩ := Cond.codeWith_spec (atoms_spec (ws := ws) h _ (by rw [hw]; exact List.mem_cons_self))
    cases hn.symm.trans hn9
    exact ⟨meth, c, h1, h2, h3, h4, h5, h6⟩
  · intro p e s m args below meth c s₁ B hml hP _
    have hh0 : s₁.heap = s.heap := by rw [B.state]; rfl
    obtain ⟨t, a1, o, b1, b2, b3⟩ := body p e s m args below meth c s₁ B hml hP s₁ hh0 (Stand.of_body B)
    exact ⟨t, o, a1, b1, b2, b3⟩
/-! ===== END ===== -/
end
section
def RX0 : String := "LintPress$BestSet"
def TX0 : u_T := fun k => match k with
  | 0 => ("LintPress$BestSet", "sums", "[I", true)
  | _ => ("LintPress$BestSet", "chosen", "[Z", true)
def tyX0 : Nat → FieldType := fun k => match k with
  | 0 => .array .int
  | _ => .array .boolean
abbrev wsX00 : List Cond := u_ws RX0 TX0 2
theorem nmX0 : ∀ a, a < 2 → ∀ b, b < 2 → a ≠ b → (TX0 a).2.1 ≠ (TX0 b).2.1 := by decide +kernel
theorem tyX0_ok : ∀ k, k < 2 → parseFieldDescriptor (TX0 k).2.2.1 = some (tyX0 k) := by decide +kernel
abbrev cX0_init : ByteArray := prog_2_method_1_code
def yX0_init : MethodName := ⟨RX0, "<init>", "()V"⟩
abbrev cX0_sum : ByteArray := prog_2_method_2_code
def yX0_sum : MethodName := ⟨RX0, "sum", "()I"⟩
abbrev cX0_holds : ByteArray := prog_2_method_3_code
def yX0_holds : MethodName := ⟨RX0, "holds", "(I)Z"⟩
abbrev cX0_choose : ByteArray := prog_2_method_4_code
def yX0_choose : MethodName := ⟨RX0, "choose", "(LLintPress$Findings;)V"⟩
abbrev cX0_hasClash : ByteArray := prog_2_method_5_code
def yX0_hasClash : MethodName := ⟨RX0, "hasClash", "(LLintPress$Findings;)Z"⟩
abbrev cX0_sumUp : ByteArray := prog_2_method_6_code
def yX0_sumUp : MethodName := ⟨RX0, "sumUp", "(LLintPress$Findings;)V"⟩
abbrev cX0_sumWith : ByteArray := prog_2_method_7_code
def yX0_sumWith : MethodName := ⟨RX0, "sumWith", "(LLintPress$Findings;I)I"⟩
abbrev cX0_isWorthTaking : ByteArray := prog_2_method_8_code
def yX0_isWorthTaking : MethodName := ⟨RX0, "isWorthTaking", "(LLintPress$Findings;I)Z"⟩
def RX1 : String := "LintPress$Deed"
def TX1 : u_T := fun k => match k with
  | 0 => ("LintPress$Deed", "ahead", "LLintPress$Text;", true)
  | _ => ("LintPress$Deed", "fixes", "[I", true)
def tyX1 : Nat → FieldType := fun k => match k with
  | 0 => .object "LintPress$Text"
  | _ => .array .int
abbrev wsX10 : List Cond := u_ws RX1 TX1 2
theorem nmX1 : ∀ a, a < 2 → ∀ b, b < 2 → a ≠ b → (TX1 a).2.1 ≠ (TX1 b).2.1 := by decide +kernel
theorem tyX1_ok : ∀ k, k < 2 → parseFieldDescriptor (TX1 k).2.2.1 = some (tyX1 k) := by decide +kernel
abbrev cX1_init : ByteArray := prog_3_method_1_code
def yX1_init : MethodName := ⟨RX1, "<init>", "()V"⟩
abbrev cX1_start : ByteArray := prog_3_method_2_code
def yX1_start : MethodName := ⟨RX1, "start", "(LLintPress$Text;)V"⟩
abbrev cX1_noteFix : ByteArray := prog_3_method_3_code
def yX1_noteFix : MethodName := ⟨RX1, "noteFix", "(I)V"⟩
abbrev cX1_takeBack : ByteArray := prog_3_method_4_code
def yX1_takeBack : MethodName := ⟨RX1, "takeBack", "(LLintPress$Text;LLintPress$Rules;)V"⟩
def RX2 : String := "LintPress$Deeds"
def TX2 : u_T := fun k => match k with
  | 0 => ("LintPress$Deeds", "ring", "[LLintPress$Deed;", true)
  | 1 => ("LintPress$Deeds", "newest", "I", false)
  | _ => ("LintPress$Deeds", "count", "I", false)
def tyX2 : Nat → FieldType := fun k => match k with
  | 0 => .array (.object "LintPress$Deed")
  | 1 => .int
  | _ => .int
abbrev wsX20 : List Cond := u_ws RX2 TX2 3
theorem nmX2 : ∀ a, a < 3 → ∀ b, b < 3 → a ≠ b → (TX2 a).2.1 ≠ (TX2 b).2.1 := by decide +kernel
theorem tyX2_ok : ∀ k, k < 3 → parseFieldDescriptor (TX2 k).2.2.1 = some (tyX2 k) := by decide +kernel
abbrev cX2_init : ByteArray := prog_4_method_1_code
def yX2_init : MethodName := ⟨RX2, "<init>", "()V"⟩
abbrev cX2_count : ByteArray := prog_4_method_2_code
def yX2_count : MethodName := ⟨RX2, "count", "()I"⟩
abbrev cX2_forget : ByteArray := prog_4_method_3_code
def yX2_forget : MethodName := ⟨RX2, "forget", "()V"⟩
abbrev cX2_keep : ByteArray := prog_4_method_4_code
def yX2_keep : MethodName := ⟨RX2, "keep", "(LLintPress$Text;)V"⟩
abbrev cX2_noteFix : ByteArray := prog_4_method_5_code
def yX2_noteFix : MethodName := ⟨RX2, "noteFix", "(I)V"⟩
abbrev cX2_takeBack : ByteArray := prog_4_method_6_code
def yX2_takeBack : MethodName := ⟨RX2, "takeBack", "(LLintPress$Text;LLintPress$Rules;)V"⟩
abbrev cX2_newestDeed : ByteArray := prog_4_method_7_code
def yX2_newestDeed : MethodName := ⟨RX2, "newestDeed", "()LLintPress$Deed;"⟩
def RX3 : String := "LintPress$Findings"
def TX3 : u_T := fun k => match k with
  | 0 => ("LintPress$Findings", "ruleNumbers", "[I", true)
  | 1 => ("LintPress$Findings", "firsts", "[I", true)
  | 2 => ("LintPress$Findings", "lasts", "[I", true)
  | 3 => ("LintPress$Findings", "gains", "[I", true)
  | _ => ("LintPress$Findings", "count", "I", false)
def tyX3 : Nat → FieldType := fun k => match k with
  | 0 => .array .int
  | 1 => .array .int
  | 2 => .array .int
  | 3 => .array .int
  | _ => .int
abbrev wsX30 : List Cond := u_ws RX3 TX3 5
theorem nmX3 : ∀ a, a < 5 → ∀ b, b < 5 → a ≠ b → (TX3 a).2.1 ≠ (TX3 b).2.1 := by decide +kernel
theorem tyX3_ok : ∀ k, k < 5 → parseFieldDescriptor (TX3 k).2.2.1 = some (tyX3 k) := by decide +kernel
abbrev cX3_init : ByteArray := prog_5_method_1_code
def yX3_init : MethodName := ⟨RX3, "<init>", "()V"⟩
abbrev cX3_count : ByteArray := prog_5_method_2_code
def yX3_count : MethodName := ⟨RX3, "count", "()I"⟩
abbrev cX3_rule : ByteArray := prog_5_method_3_code
def yX3_rule : MethodName := ⟨RX3, "rule", "(I)I"⟩
abbrev cX3_first : ByteArray := prog_5_method_4_code
def yX3_first : MethodName := ⟨RX3, "first", "(I)I"⟩
abbrev cX3_last : ByteArray := prog_5_method_5_code
def yX3_last : MethodName := ⟨RX3, "last", "(I)I"⟩
abbrev cX3_gain : ByteArray := prog_5_method_6_code
def yX3_gain : MethodName := ⟨RX3, "gain", "(I)I"⟩
abbrev cX3_fixable : ByteArray := prog_5_method_7_code
def yX3_fixable : MethodName := ⟨RX3, "fixable", "()I"⟩
abbrev cX3_search : ByteArray := prog_5_method_8_code
def yX3_search : MethodName := ⟨RX3, "search", "(LLintPress$Text;LLintPress$Rules;)V"⟩
abbrev cX3_ruleOfPair : ByteArray := prog_5_method_9_code
def yX3_ruleOfPair : MethodName := ⟨RX3, "ruleOfPair", "(LLintPress$Text;I)I"⟩
abbrev cX3_isNameInBlock : ByteArray := prog_5_method_10_code
def yX3_isNameInBlock : MethodName := ⟨RX3, "isNameInBlock", "(LLintPress$Text;I)Z"⟩
abbrev cX3_note : ByteArray := prog_5_method_11_code
def yX3_note : MethodName := ⟨RX3, "note", "(LLintPress$Text;LLintPress$Rules;III)V"⟩
def RX4 : String := "LintPress$Layout"
def TX4 : u_T := fun k => match k with
  | 0 => ("LintPress$Layout", "sums", "[I", true)
  | 1 => ("LintPress$Layout", "nexts", "[I", true)
  | 2 => ("LintPress$Layout", "starts", "[I", true)
  | _ => ("LintPress$Layout", "lineCount", "I", false)
def tyX4 : Nat → FieldType := fun k => match k with
  | 0 => .array .int
  | 1 => .array .int
  | 2 => .array .int
  | _ => .int
abbrev wsX40 : List Cond := u_ws RX4 TX4 4
theorem nmX4 : ∀ a, a < 4 → ∀ b, b < 4 → a ≠ b → (TX4 a).2.1 ≠ (TX4 b).2.1 := by decide +kernel
theorem tyX4_ok : ∀ k, k < 4 → parseFieldDescriptor (TX4 k).2.2.1 = some (tyX4 k) := by decide +kernel
abbrev cX4_init : ByteArray := prog_6_method_1_code
def yX4_init : MethodName := ⟨RX4, "<init>", "()V"⟩
abbrev cX4_lines : ByteArray := prog_6_method_2_code
def yX4_lines : MethodName := ⟨RX4, "lines", "()I"⟩
abbrev cX4_least : ByteArray := prog_6_method_3_code
def yX4_least : MethodName := ⟨RX4, "least", "()I"⟩
abbrev cX4_divide : ByteArray := prog_6_method_4_code
def yX4_divide : MethodName := ⟨RX4, "divide", "(LLintPress$Text;I)V"⟩
abbrev cX4_lineHolding : ByteArray := prog_6_method_5_code
def yX4_lineHolding : MethodName := ⟨RX4, "lineHolding", "(I)I"⟩
abbrev cX4_widthOfLine : ByteArray := prog_6_method_6_code
def yX4_widthOfLine : MethodName := ⟨RX4, "widthOfLine", "(LLintPress$Text;I)I"⟩
abbrev cX4_sumOfCosts : ByteArray := prog_6_method_7_code
def yX4_sumOfCosts : MethodName := ⟨RX4, "sumOfCosts", "(LLintPress$Text;I)I"⟩
abbrev cX4_isSameAs : ByteArray := prog_6_method_8_code
def yX4_isSameAs : MethodName := ⟨RX4, "isSameAs", "(LLintPress$Layout;I)Z"⟩
abbrev cX4_chooseLineFrom : ByteArray := prog_6_method_9_code
def yX4_chooseLineFrom : MethodName := ⟨RX4, "chooseLineFrom", "(LLintPress$Text;II)V"⟩
def RX5 : String := "LintPress$Rules"
def TX5 : u_T := fun k => match k with
  | 0 => ("LintPress$Rules", "weights", "[I", true)
  | 1 => ("LintPress$Rules", "undos", "[I", true)
  | _ => ("LintPress$Rules", "fixed", "I", false)
def tyX5 : Nat → FieldType := fun k => match k with
  | 0 => .array .int
  | 1 => .array .int
  | _ => .int
abbrev wsX50 : List Cond := u_ws RX5 TX5 3
theorem nmX5 : ∀ a, a < 3 → ∀ b, b < 3 → a ≠ b → (TX5 a).2.1 ≠ (TX5 b).2.1 := by decide +kernel
theorem tyX5_ok : ∀ k, k < 3 → parseFieldDescriptor (TX5 k).2.2.1 = some (tyX5 k) := by decide +kernel
abbrev cX5_init : ByteArray := prog_7_method_1_code
def yX5_init : MethodName := ⟨RX5, "<init>", "()V"⟩
abbrev cX5_weightFor : ByteArray := prog_7_method_2_code
def yX5_weightFor : MethodName := ⟨RX5, "weightFor", "(I)I"⟩
abbrev cX5_undoneFor : ByteArray := prog_7_method_3_code
def yX5_undoneFor : MethodName := ⟨RX5, "undoneFor", "(I)I"⟩
abbrev cX5_allFixed : ByteArray := prog_7_method_4_code
def yX5_allFixed : MethodName := ⟨RX5, "allFixed", "()I"⟩
abbrev cX5_allUndone : ByteArray := prog_7_method_5_code
def yX5_allUndone : MethodName := ⟨RX5, "allUndone", "()I"⟩
abbrev cX5_rankFor : ByteArray := prog_7_method_6_code
def yX5_rankFor : MethodName := ⟨RX5, "rankFor", "(I)I"⟩
abbrev cX5_reward : ByteArray := prog_7_method_7_code
def yX5_reward : MethodName := ⟨RX5, "reward", "(I)V"⟩
abbrev cX5_punish : ByteArray := prog_7_method_8_code
def yX5_punish : MethodName := ⟨RX5, "punish", "(I)V"⟩
def RX6 : String := "LintPress$Text"
def TX6 : u_T := fun k => match k with
  | 0 => ("LintPress$Text", "kinds", "[C", true)
  | 1 => ("LintPress$Text", "names", "[I", true)
  | 2 => ("LintPress$Text", "lengths", "[I", true)
  | 3 => ("LintPress$Text", "pins", "[Z", true)
  | _ => ("LintPress$Text", "size", "I", false)
def tyX6 : Nat → FieldType := fun k => match k with
  | 0 => .array .char
  | 1 => .array .int
  | 2 => .array .int
  | 3 => .array .boolean
  | _ => .int
abbrev wsX60 : List Cond := u_ws RX6 TX6 5
theorem nmX6 : ∀ a, a < 5 → ∀ b, b < 5 → a ≠ b → (TX6 a).2.1 ≠ (TX6 b).2.1 := by decide +kernel
theorem tyX6_ok : ∀ k, k < 5 → parseFieldDescriptor (TX6 k).2.2.1 = some (tyX6 k) := by decide +kernel
abbrev cX6_init : ByteArray := prog_8_method_1_code
def yX6_init : MethodName := ⟨RX6, "<init>", "()V"⟩
abbrev cX6_size : ByteArray := prog_8_method_2_code
def yX6_size : MethodName := ⟨RX6, "size", "()I"⟩
abbrev cX6_kindAt : ByteArray := prog_8_method_3_code
def yX6_kindAt : MethodName := ⟨RX6, "kindAt", "(I)C"⟩
abbrev cX6_nameAt : ByteArray := prog_8_method_4_code
def yX6_nameAt : MethodName := ⟨RX6, "nameAt", "(I)I"⟩
abbrev cX6_lengthAt : ByteArray := prog_8_method_5_code
def yX6_lengthAt : MethodName := ⟨RX6, "lengthAt", "(I)I"⟩
abbrev cX6_pinnedAt : ByteArray := prog_8_method_6_code
def yX6_pinnedAt : MethodName := ⟨RX6, "pinnedAt", "(I)Z"⟩
abbrev cX6_setPinned : ByteArray := prog_8_method_7_code
def yX6_setPinned : MethodName := ⟨RX6, "setPinned", "(IZ)V"⟩
abbrev cX6_widthAt : ByteArray := prog_8_method_8_code
def yX6_widthAt : MethodName := ⟨RX6, "widthAt", "(I)I"⟩
abbrev cX6_openAhead : ByteArray := prog_8_method_9_code
def yX6_openAhead : MethodName := ⟨RX6, "openAhead", "(I)I"⟩
abbrev cX6_depthAt : ByteArray := prog_8_method_10_code
def yX6_depthAt : MethodName := ⟨RX6, "depthAt", "(I)I"⟩
abbrev cX6_isNamed : ByteArray := prog_8_method_11_code
def yX6_isNamed : MethodName := ⟨RX6, "isNamed", "(II)Z"⟩
abbrev cX6_timesOf : ByteArray := prog_8_method_12_code
def yX6_timesOf : MethodName := ⟨RX6, "timesOf", "(I)I"⟩
abbrev cX6_hasPinned : ByteArray := prog_8_method_13_code
def yX6_hasPinned : MethodName := ⟨RX6, "hasPinned", "(I)Z"⟩
abbrev cX6_allMovable : ByteArray := prog_8_method_14_code
def yX6_allMovable : MethodName := ⟨RX6, "allMovable", "(II)Z"⟩
abbrev cX6_canBreakBehind : ByteArray := prog_8_method_15_code
def yX6_canBreakBehind : MethodName := ⟨RX6, "canBreakBehind", "(I)Z"⟩
abbrev cX6_add : ByteArray := prog_8_method_16_code
def yX6_add : MethodName := ⟨RX6, "add", "(CII)V"⟩
abbrev cX6_replaceName : ByteArray := prog_8_method_17_code
def yX6_replaceName : MethodName := ⟨RX6, "replaceName", "(II)V"⟩
abbrev cX6_takeAway : ByteArray := prog_8_method_18_code
def yX6_takeAway : MethodName := ⟨RX6, "takeAway", "(I)V"⟩
abbrev cX6_carry : ByteArray := prog_8_method_19_code
def yX6_carry : MethodName := ⟨RX6, "carry", "(II)V"⟩
abbrev cX6_joinWithNext : ByteArray := prog_8_method_20_code
def yX6_joinWithNext : MethodName := ⟨RX6, "joinWithNext", "(I)V"⟩
abbrev cX6_copyFrom : ByteArray := prog_8_method_21_code
def yX6_copyFrom : MethodName := ⟨RX6, "copyFrom", "(LLintPress$Text;)V"⟩
abbrev cX6_copyEntry : ByteArray := prog_8_method_22_code
def yX6_copyEntry : MethodName := ⟨RX6, "copyEntry", "(LLintPress$Text;II)V"⟩
abbrev cX6_put : ByteArray := prog_8_method_23_code
def yX6_put : MethodName := ⟨RX6, "put", "(ICIIZ)V"⟩
def RX7 : String := "LintPress"
def TX7 : u_T := fun k => match k with
  | 0 => ("LintPress", "text", "LLintPress$Text;", true)
  | 1 => ("LintPress", "rules", "LLintPress$Rules;", true)
  | 2 => ("LintPress", "deeds", "LLintPress$Deeds;", true)
  | 3 => ("LintPress", "found", "LLintPress$Findings;", true)
  | 4 => ("LintPress", "bestSet", "LLintPress$BestSet;", true)
  | 5 => ("LintPress", "shown", "LLintPress$Layout;", true)
  | 6 => ("LintPress", "tried", "LLintPress$Layout;", true)
  | 7 => ("LintPress", "lineLimit", "I", false)
  | _ => ("LintPress", "laidOut", "Z", false)
def tyX7 : Nat → FieldType := fun k => match k with
  | 0 => .object "LintPress$Text"
  | 1 => .object "LintPress$Rules"
  | 2 => .object "LintPress$Deeds"
  | 3 => .object "LintPress$Findings"
  | 4 => .object "LintPress$BestSet"
  | 5 => .object "LintPress$Layout"
  | 6 => .object "LintPress$Layout"
  | 7 => .int
  | _ => .boolean
abbrev wsX70 : List Cond := u_ws RX7 TX7 9
theorem nmX7 : ∀ a, a < 9 → ∀ b, b < 9 → a ≠ b → (TX7 a).2.1 ≠ (TX7 b).2.1 := by decide +kernel
theorem tyX7_ok : ∀ k, k < 9 → parseFieldDescriptor (TX7 k).2.2.1 = some (tyX7 k) := by decide +kernel
abbrev cX7_init : ByteArray := prog_1_method_1_code
def yX7_init : MethodName := ⟨RX7, "<init>", "()V"⟩
abbrev cX7_addName : ByteArray := prog_1_method_2_code
def yX7_addName : MethodName := ⟨RX7, "addName", "(II)I"⟩
abbrev cX7_addComment : ByteArray := prog_1_method_3_code
def yX7_addComment : MethodName := ⟨RX7, "addComment", "(I)I"⟩
abbrev cX7_begin : ByteArray := prog_1_method_4_code
def yX7_begin : MethodName := ⟨RX7, "begin", "()I"⟩
abbrev cX7_end : ByteArray := prog_1_method_5_code
def yX7_end : MethodName := ⟨RX7, "end", "()I"⟩
abbrev cX7_entries : ByteArray := prog_1_method_6_code
def yX7_entries : MethodName := ⟨RX7, "entries", "()I"⟩
abbrev cX7_kindOf : ByteArray := prog_1_method_7_code
def yX7_kindOf : MethodName := ⟨RX7, "kindOf", "(I)C"⟩
abbrev cX7_nameOf : ByteArray := prog_1_method_8_code
def yX7_nameOf : MethodName := ⟨RX7, "nameOf", "(I)I"⟩
abbrev cX7_widthOf : ByteArray := prog_1_method_9_code
def yX7_widthOf : MethodName := ⟨RX7, "widthOf", "(I)I"⟩
abbrev cX7_depthOf : ByteArray := prog_1_method_10_code
def yX7_depthOf : MethodName := ⟨RX7, "depthOf", "(I)I"⟩
abbrev cX7_occurrences : ByteArray := prog_1_method_11_code
def yX7_occurrences : MethodName := ⟨RX7, "occurrences", "(I)I"⟩
abbrev cX7_commonest : ByteArray := prog_1_method_12_code
def yX7_commonest : MethodName := ⟨RX7, "commonest", "()I"⟩
abbrev cX7_pin : ByteArray := prog_1_method_13_code
def yX7_pin : MethodName := ⟨RX7, "pin", "(IIZ)I"⟩
abbrev cX7_isPinned : ByteArray := prog_1_method_14_code
def yX7_isPinned : MethodName := ⟨RX7, "isPinned", "(I)Z"⟩
abbrev cX7_findings : ByteArray := prog_1_method_15_code
def yX7_findings : MethodName := ⟨RX7, "findings", "()I"⟩
abbrev cX7_ruleOf : ByteArray := prog_1_method_16_code
def yX7_ruleOf : MethodName := ⟨RX7, "ruleOf", "(I)I"⟩
abbrev cX7_firstOf : ByteArray := prog_1_method_17_code
def yX7_firstOf : MethodName := ⟨RX7, "firstOf", "(I)I"⟩
abbrev cX7_lastOf : ByteArray := prog_1_method_18_code
def yX7_lastOf : MethodName := ⟨RX7, "lastOf", "(I)I"⟩
abbrev cX7_canFix : ByteArray := prog_1_method_19_code
def yX7_canFix : MethodName := ⟨RX7, "canFix", "(I)Z"⟩
abbrev cX7_best : ByteArray := prog_1_method_20_code
def yX7_best : MethodName := ⟨RX7, "best", "()I"⟩
abbrev cX7_bestByTrying : ByteArray := prog_1_method_21_code
def yX7_bestByTrying : MethodName := ⟨RX7, "bestByTrying", "()I"⟩
abbrev cX7_isInBest : ByteArray := prog_1_method_22_code
def yX7_isInBest : MethodName := ⟨RX7, "isInBest", "(I)Z"⟩
abbrev cX7_fix : ByteArray := prog_1_method_23_code
def yX7_fix : MethodName := ⟨RX7, "fix", "(I)I"⟩
abbrev cX7_fixBest : ByteArray := prog_1_method_24_code
def yX7_fixBest : MethodName := ⟨RX7, "fixBest", "()I"⟩
abbrev cX7_rename : ByteArray := prog_1_method_25_code
def yX7_rename : MethodName := ⟨RX7, "rename", "(II)I"⟩
abbrev cX7_move : ByteArray := prog_1_method_26_code
def yX7_move : MethodName := ⟨RX7, "move", "(II)I"⟩
abbrev cX7_undo : ByteArray := prog_1_method_27_code
def yX7_undo : MethodName := ⟨RX7, "undo", "()I"⟩
abbrev cX7_weight : ByteArray := prog_1_method_28_code
def yX7_weight : MethodName := ⟨RX7, "weight", "(I)I"⟩
abbrev cX7_ruleAt : ByteArray := prog_1_method_29_code
def yX7_ruleAt : MethodName := ⟨RX7, "ruleAt", "(I)I"⟩
abbrev cX7_undone : ByteArray := prog_1_method_30_code
def yX7_undone : MethodName := ⟨RX7, "undone", "(I)J"⟩
abbrev cX7_undoneShare : ByteArray := prog_1_method_31_code
def yX7_undoneShare : MethodName := ⟨RX7, "undoneShare", "()F"⟩
abbrev cX7_setWidth : ByteArray := prog_1_method_32_code
def yX7_setWidth : MethodName := ⟨RX7, "setWidth", "(I)I"⟩
abbrev cX7_layOut : ByteArray := prog_1_method_33_code
def yX7_layOut : MethodName := ⟨RX7, "layOut", "()I"⟩
abbrev cX7_isLaidOut : ByteArray := prog_1_method_34_code
def yX7_isLaidOut : MethodName := ⟨RX7, "isLaidOut", "()Z"⟩
abbrev cX7_cost : ByteArray := prog_1_method_35_code
def yX7_cost : MethodName := ⟨RX7, "cost", "()I"⟩
abbrev cX7_costByTrying : ByteArray := prog_1_method_36_code
def yX7_costByTrying : MethodName := ⟨RX7, "costByTrying", "()I"⟩
abbrev cX7_lineOf : ByteArray := prog_1_method_37_code
def yX7_lineOf : MethodName := ⟨RX7, "lineOf", "(I)I"⟩
abbrev cX7_lineWidth : ByteArray := prog_1_method_38_code
def yX7_lineWidth : MethodName := ⟨RX7, "lineWidth", "(I)I"⟩
abbrev cX7_meanWidth : ByteArray := prog_1_method_39_code
def yX7_meanWidth : MethodName := ⟨RX7, "meanWidth", "()D"⟩
abbrev cX7_isTidy : ByteArray := prog_1_method_40_code
def yX7_isTidy : MethodName := ⟨RX7, "isTidy", "()Z"⟩
abbrev cX7_needName : ByteArray := prog_1_method_41_code
def yX7_needName : MethodName := ⟨RX7, "needName", "(I)V"⟩
abbrev cX7_needLength : ByteArray := prog_1_method_42_code
def yX7_needLength : MethodName := ⟨RX7, "needLength", "(I)V"⟩
abbrev cX7_needRule : ByteArray := prog_1_method_43_code
def yX7_needRule : MethodName := ⟨RX7, "needRule", "(I)V"⟩
abbrev cX7_needEntry : ByteArray := prog_1_method_44_code
def yX7_needEntry : MethodName := ⟨RX7, "needEntry", "(I)V"⟩
abbrev cX7_needFinding : ByteArray := prog_1_method_45_code
def yX7_needFinding : MethodName := ⟨RX7, "needFinding", "(I)V"⟩
abbrev cX7_needLayout : ByteArray := prog_1_method_46_code
def yX7_needLayout : MethodName := ⟨RX7, "needLayout", "()V"⟩
abbrev cX7_append : ByteArray := prog_1_method_47_code
def yX7_append : MethodName := ⟨RX7, "append", "(CII)I"⟩
abbrev cX7_startDeed : ByteArray := prog_1_method_48_code
def yX7_startDeed : MethodName := ⟨RX7, "startDeed", "()V"⟩
abbrev cX7_chooseBest : ByteArray := prog_1_method_49_code
def yX7_chooseBest : MethodName := ⟨RX7, "chooseBest", "()V"⟩
abbrev cX7_applyFix : ByteArray := prog_1_method_50_code
def yX7_applyFix : MethodName := ⟨RX7, "applyFix", "(I)V"⟩
abbrev cX7_shownIsLikeTried : ByteArray := prog_1_method_51_code
def yX7_shownIsLikeTried : MethodName := ⟨RX7, "shownIsLikeTried", "()Z"⟩
abbrev cX7_costOfLine : ByteArray := prog_1_method_52_code
def yX7_costOfLine : MethodName := ⟨RX7, "costOfLine", "(IIZ)I"⟩
abbrev cX7_leastByTrying : ByteArray := prog_1_method_53_code
def yX7_leastByTrying : MethodName := ⟨RX7, "leastByTrying", "(LLintPress$Text;II)I"⟩
abbrev cX7_mostByTrying : ByteArray := prog_1_method_54_code
def yX7_mostByTrying : MethodName := ⟨RX7, "mostByTrying", "(LLintPress$Findings;II)I"⟩
abbrev cX7_read : ByteArray := prog_1_method_55_code
def yX7_read : MethodName := ⟨RX7, "read", "([II)I"⟩
abbrev cX7_write : ByteArray := prog_1_method_56_code
def yX7_write : MethodName := ⟨RX7, "write", "([III)V"⟩
abbrev cX7_readFlag : ByteArray := prog_1_method_57_code
def yX7_readFlag : MethodName := ⟨RX7, "readFlag", "([ZI)Z"⟩
abbrev cX7_writeFlag : ByteArray := prog_1_method_58_code
def yX7_writeFlag : MethodName := ⟨RX7, "writeFlag", "([ZIZ)V"⟩
def RX8 : String := "LintPressModel"
def TX8 : u_T := fun k => match k with
  | 0 => ("LintPressModel", "thrown", "I", false)
  | 1 => ("LintPressModel", "many", "I", false)
  | 2 => ("LintPressModel", "kind", "[C", true)
  | 3 => ("LintPressModel", "name", "[I", true)
  | 4 => ("LintPressModel", "length", "[I", true)
  | 5 => ("LintPressModel", "isPinned", "[Z", true)
  | 6 => ("LintPressModel", "width", "I", false)
  | 7 => ("LintPressModel", "weight", "[I", true)
  | 8 => ("LintPressModel", "undone", "[J", true)
  | 9 => ("LintPressModel", "fixes", "J", false)
  | 10 => ("LintPressModel", "isLaidOut", "Z", false)
  | 11 => ("LintPressModel", "line", "[I", true)
  | 12 => ("LintPressModel", "deeds", "I", false)
  | 13 => ("LintPressModel", "keptMany", "[I", true)
  | 14 => ("LintPressModel", "keptKind", "[C", true)
  | 15 => ("LintPressModel", "keptName", "[I", true)
  | 16 => ("LintPressModel", "keptLength", "[I", true)
  | 17 => ("LintPressModel", "keptPin", "[Z", true)
  | 18 => ("LintPressModel", "keptFixes", "[I", true)
  | 19 => ("LintPressModel", "found", "I", false)
  | 20 => ("LintPressModel", "rule", "[I", true)
  | 21 => ("LintPressModel", "first", "[I", true)
  | 22 => ("LintPressModel", "last", "[I", true)
  | 23 => ("LintPressModel", "isBest", "[Z", true)
  | 24 => ("LintPressModel", "sum", "[I", true)
  | _ => ("LintPressModel", "least", "[I", true)
def tyX8 : Nat → FieldType := fun k => match k with
  | 0 => .int
  | 1 => .int
  | 2 => .array .char
  | 3 => .array .int
  | 4 => .array .int
  | 5 => .array .boolean
  | 6 => .int
  | 7 => .array .int
  | 8 => .array .long
  | 9 => .long
  | 10 => .boolean
  | 11 => .array .int
  | 12 => .int
  | 13 => .array .int
  | 14 => .array .char
  | 15 => .array .int
  | 16 => .array .int
  | 17 => .array .boolean
  | 18 => .array .int
  | 19 => .int
  | 20 => .array .int
  | 21 => .array .int
  | 22 => .array .int
  | 23 => .array .boolean
  | 24 => .array .int
  | _ => .array .int
abbrev wsX80 : List Cond := u_ws RX8 TX8 26
theorem nmX8 : ∀ a, a < 26 → ∀ b, b < 26 → a ≠ b → (TX8 a).2.1 ≠ (TX8 b).2.1 := by decide +kernel
theorem tyX8_ok : ∀ k, k < 26 → parseFieldDescriptor (TX8 k).2.2.1 = some (tyX8 k) := by decide +kernel
abbrev cX8_init : ByteArray := prog_10_method_1_code
def yX8_init : MethodName := ⟨RX8, "<init>", "()V"⟩
abbrev cX8_thrown : ByteArray := prog_10_method_2_code
def yX8_thrown : MethodName := ⟨RX8, "thrown", "()I"⟩
abbrev cX8_in : ByteArray := prog_10_method_3_code
def yX8_in : MethodName := ⟨RX8, "in", "(III)Z"⟩
abbrev cX8_fails : ByteArray := prog_10_method_4_code
def yX8_fails : MethodName := ⟨RX8, "fails", "(ZI)Z"⟩
abbrev cX8_noEntry : ByteArray := prog_10_method_5_code
def yX8_noEntry : MethodName := ⟨RX8, "noEntry", "(I)Z"⟩
abbrev cX8_isName : ByteArray := prog_10_method_6_code
def yX8_isName : MethodName := ⟨RX8, "isName", "(I)Z"⟩
abbrev cX8_add : ByteArray := prog_10_method_7_code
def yX8_add : MethodName := ⟨RX8, "add", "(CII)I"⟩
abbrev cX8_depth : ByteArray := prog_10_method_8_code
def yX8_depth : MethodName := ⟨RX8, "depth", "(I)I"⟩
abbrev cX8_open : ByteArray := prog_10_method_9_code
def yX8_open : MethodName := ⟨RX8, "open", "()I"⟩
abbrev cX8_addName : ByteArray := prog_10_method_10_code
def yX8_addName : MethodName := ⟨RX8, "addName", "(II)I"⟩
abbrev cX8_addComment : ByteArray := prog_10_method_11_code
def yX8_addComment : MethodName := ⟨RX8, "addComment", "(I)I"⟩
abbrev cX8_begin : ByteArray := prog_10_method_12_code
def yX8_begin : MethodName := ⟨RX8, "begin", "()I"⟩
abbrev cX8_end : ByteArray := prog_10_method_13_code
def yX8_end : MethodName := ⟨RX8, "end", "()I"⟩
abbrev cX8_entries : ByteArray := prog_10_method_14_code
def yX8_entries : MethodName := ⟨RX8, "entries", "()I"⟩
abbrev cX8_kindOf : ByteArray := prog_10_method_15_code
def yX8_kindOf : MethodName := ⟨RX8, "kindOf", "(I)C"⟩
abbrev cX8_nameOf : ByteArray := prog_10_method_16_code
def yX8_nameOf : MethodName := ⟨RX8, "nameOf", "(I)I"⟩
abbrev cX8_wide : ByteArray := prog_10_method_17_code
def yX8_wide : MethodName := ⟨RX8, "wide", "(I)I"⟩
abbrev cX8_widthOf : ByteArray := prog_10_method_18_code
def yX8_widthOf : MethodName := ⟨RX8, "widthOf", "(I)I"⟩
abbrev cX8_depthOf : ByteArray := prog_10_method_19_code
def yX8_depthOf : MethodName := ⟨RX8, "depthOf", "(I)I"⟩
abbrev cX8_occurs : ByteArray := prog_10_method_20_code
def yX8_occurs : MethodName := ⟨RX8, "occurs", "(I)I"⟩
abbrev cX8_occurrences : ByteArray := prog_10_method_21_code
def yX8_occurrences : MethodName := ⟨RX8, "occurrences", "(I)I"⟩
abbrev cX8_commonest : ByteArray := prog_10_method_22_code
def yX8_commonest : MethodName := ⟨RX8, "commonest", "()I"⟩
abbrev cX8_pin : ByteArray := prog_10_method_23_code
def yX8_pin : MethodName := ⟨RX8, "pin", "(IIZ)I"⟩
abbrev cX8_isPinned : ByteArray := prog_10_method_24_code
def yX8_isPinned : MethodName := ⟨RX8, "isPinned", "(I)Z"⟩
abbrev cX8_are : ByteArray := prog_10_method_25_code
def yX8_are : MethodName := ⟨RX8, "are", "(ICC)Z"⟩
abbrev cX8_find : ByteArray := prog_10_method_26_code
def yX8_find : MethodName := ⟨RX8, "find", "(III)V"⟩
abbrev cX8_fixable : ByteArray := prog_10_method_27_code
def yX8_fixable : MethodName := ⟨RX8, "fixable", "(I)Z"⟩
abbrev cX8_look : ByteArray := prog_10_method_28_code
def yX8_look : MethodName := ⟨RX8, "look", "()V"⟩
abbrev cX8_findings : ByteArray := prog_10_method_29_code
def yX8_findings : MethodName := ⟨RX8, "findings", "()I"⟩
abbrev cX8_noFinding : ByteArray := prog_10_method_30_code
def yX8_noFinding : MethodName := ⟨RX8, "noFinding", "(I)Z"⟩
abbrev cX8_ruleOf : ByteArray := prog_10_method_31_code
def yX8_ruleOf : MethodName := ⟨RX8, "ruleOf", "(I)I"⟩
abbrev cX8_firstOf : ByteArray := prog_10_method_32_code
def yX8_firstOf : MethodName := ⟨RX8, "firstOf", "(I)I"⟩
abbrev cX8_lastOf : ByteArray := prog_10_method_33_code
def yX8_lastOf : MethodName := ⟨RX8, "lastOf", "(I)I"⟩
abbrev cX8_canFix : ByteArray := prog_10_method_34_code
def yX8_canFix : MethodName := ⟨RX8, "canFix", "(I)Z"⟩
abbrev cX8_fixables : ByteArray := prog_10_method_35_code
def yX8_fixables : MethodName := ⟨RX8, "fixables", "()I"⟩
abbrev cX8_best : ByteArray := prog_10_method_36_code
def yX8_best : MethodName := ⟨RX8, "best", "()I"⟩
abbrev cX8_bestByTrying : ByteArray := prog_10_method_37_code
def yX8_bestByTrying : MethodName := ⟨RX8, "bestByTrying", "()I"⟩
abbrev cX8_isInBest : ByteArray := prog_10_method_38_code
def yX8_isInBest : MethodName := ⟨RX8, "isInBest", "(I)Z"⟩
abbrev cX8_keep : ByteArray := prog_10_method_39_code
def yX8_keep : MethodName := ⟨RX8, "keep", "()V"⟩
abbrev cX8_put : ByteArray := prog_10_method_40_code
def yX8_put : MethodName := ⟨RX8, "put", "(II)V"⟩
abbrev cX8_remove : ByteArray := prog_10_method_41_code
def yX8_remove : MethodName := ⟨RX8, "remove", "(I)V"⟩
abbrev cX8_change : ByteArray := prog_10_method_42_code
def yX8_change : MethodName := ⟨RX8, "change", "(II)V"⟩
abbrev cX8_fixes : ByteArray := prog_10_method_43_code
def yX8_fixes : MethodName := ⟨RX8, "fixes", "(I)V"⟩
abbrev cX8_fix : ByteArray := prog_10_method_44_code
def yX8_fix : MethodName := ⟨RX8, "fix", "(I)I"⟩
abbrev cX8_fixBest : ByteArray := prog_10_method_45_code
def yX8_fixBest : MethodName := ⟨RX8, "fixBest", "()I"⟩
abbrev cX8_rename : ByteArray := prog_10_method_46_code
def yX8_rename : MethodName := ⟨RX8, "rename", "(II)I"⟩
abbrev cX8_move : ByteArray := prog_10_method_47_code
def yX8_move : MethodName := ⟨RX8, "move", "(II)I"⟩
abbrev cX8_undo : ByteArray := prog_10_method_48_code
def yX8_undo : MethodName := ⟨RX8, "undo", "()I"⟩
abbrev cX8_isRule : ByteArray := prog_10_method_49_code
def yX8_isRule : MethodName := ⟨RX8, "isRule", "(I)Z"⟩
abbrev cX8_weight : ByteArray := prog_10_method_50_code
def yX8_weight : MethodName := ⟨RX8, "weight", "(I)I"⟩
abbrev cX8_ruleAt : ByteArray := prog_10_method_51_code
def yX8_ruleAt : MethodName := ⟨RX8, "ruleAt", "(I)I"⟩
abbrev cX8_undone : ByteArray := prog_10_method_52_code
def yX8_undone : MethodName := ⟨RX8, "undone", "(I)J"⟩
abbrev cX8_undoneShare : ByteArray := prog_10_method_53_code
def yX8_undoneShare : MethodName := ⟨RX8, "undoneShare", "()F"⟩
abbrev cX8_setWidth : ByteArray := prog_10_method_54_code
def yX8_setWidth : MethodName := ⟨RX8, "setWidth", "(I)I"⟩
abbrev cX8_span : ByteArray := prog_10_method_55_code
def yX8_span : MethodName := ⟨RX8, "span", "(II)I"⟩
abbrev cX8_costs : ByteArray := prog_10_method_56_code
def yX8_costs : MethodName := ⟨RX8, "costs", "(II)I"⟩
abbrev cX8_measure : ByteArray := prog_10_method_57_code
def yX8_measure : MethodName := ⟨RX8, "measure", "()V"⟩
abbrev cX8_layOut : ByteArray := prog_10_method_58_code
def yX8_layOut : MethodName := ⟨RX8, "layOut", "()I"⟩
abbrev cX8_isLaidOut : ByteArray := prog_10_method_59_code
def yX8_isLaidOut : MethodName := ⟨RX8, "isLaidOut", "()Z"⟩
abbrev cX8_cost : ByteArray := prog_10_method_60_code
def yX8_cost : MethodName := ⟨RX8, "cost", "()I"⟩
abbrev cX8_costByTrying : ByteArray := prog_10_method_61_code
def yX8_costByTrying : MethodName := ⟨RX8, "costByTrying", "()I"⟩
abbrev cX8_lineOf : ByteArray := prog_10_method_62_code
def yX8_lineOf : MethodName := ⟨RX8, "lineOf", "(I)I"⟩
abbrev cX8_lineWidth : ByteArray := prog_10_method_63_code
def yX8_lineWidth : MethodName := ⟨RX8, "lineWidth", "(I)I"⟩
abbrev cX8_meanWidth : ByteArray := prog_10_method_64_code
def yX8_meanWidth : MethodName := ⟨RX8, "meanWidth", "()D"⟩
abbrev cX8_isTidy : ByteArray := prog_10_method_65_code
def yX8_isTidy : MethodName := ⟨RX8, "isTidy", "()Z"⟩
def RL : String := "LintPressLaw"
abbrev cL_addName : ByteArray := method_3_code
def yL_addName : MethodName := ⟨RL, "addName", "(LLintPress;II[J)I"⟩
abbrev cL_addComment : ByteArray := method_4_code
def yL_addComment : MethodName := ⟨RL, "addComment", "(LLintPress;I[J)I"⟩
abbrev cL_begin : ByteArray := method_5_code
def yL_begin : MethodName := ⟨RL, "begin", "(LLintPress;[J)I"⟩
abbrev cL_end : ByteArray := method_6_code
def yL_end : MethodName := ⟨RL, "end", "(LLintPress;[J)I"⟩
abbrev cL_kindOf : ByteArray := method_7_code
def yL_kindOf : MethodName := ⟨RL, "kindOf", "(LLintPress;I[J)I"⟩
abbrev cL_nameOf : ByteArray := method_8_code
def yL_nameOf : MethodName := ⟨RL, "nameOf", "(LLintPress;I[J)I"⟩
abbrev cL_widthOf : ByteArray := method_9_code
def yL_widthOf : MethodName := ⟨RL, "widthOf", "(LLintPress;I[J)I"⟩
abbrev cL_depthOf : ByteArray := method_10_code
def yL_depthOf : MethodName := ⟨RL, "depthOf", "(LLintPress;I[J)I"⟩
abbrev cL_occurrences : ByteArray := method_11_code
def yL_occurrences : MethodName := ⟨RL, "occurrences", "(LLintPress;I[J)I"⟩
abbrev cL_commonest : ByteArray := method_12_code
def yL_commonest : MethodName := ⟨RL, "commonest", "(LLintPress;[J)I"⟩
abbrev cL_pin : ByteArray := method_13_code
def yL_pin : MethodName := ⟨RL, "pin", "(LLintPress;IIZ[J)I"⟩
abbrev cL_isPinned : ByteArray := method_14_code
def yL_isPinned : MethodName := ⟨RL, "isPinned", "(LLintPress;I[J)I"⟩
abbrev cL_ruleOf : ByteArray := method_15_code
def yL_ruleOf : MethodName := ⟨RL, "ruleOf", "(LLintPress;I[J)I"⟩
abbrev cL_firstOf : ByteArray := method_16_code
def yL_firstOf : MethodName := ⟨RL, "firstOf", "(LLintPress;I[J)I"⟩
abbrev cL_lastOf : ByteArray := method_17_code
def yL_lastOf : MethodName := ⟨RL, "lastOf", "(LLintPress;I[J)I"⟩
abbrev cL_canFix : ByteArray := method_18_code
def yL_canFix : MethodName := ⟨RL, "canFix", "(LLintPress;I[J)I"⟩
abbrev cL_bestByTrying : ByteArray := method_19_code
def yL_bestByTrying : MethodName := ⟨RL, "bestByTrying", "(LLintPress;[J)I"⟩
abbrev cL_isInBest : ByteArray := method_20_code
def yL_isInBest : MethodName := ⟨RL, "isInBest", "(LLintPress;I[J)I"⟩
abbrev cL_fix : ByteArray := method_21_code
def yL_fix : MethodName := ⟨RL, "fix", "(LLintPress;I[J)I"⟩
abbrev cL_fixBest : ByteArray := method_22_code
def yL_fixBest : MethodName := ⟨RL, "fixBest", "(LLintPress;[J)I"⟩
abbrev cL_rename : ByteArray := method_23_code
def yL_rename : MethodName := ⟨RL, "rename", "(LLintPress;II[J)I"⟩
abbrev cL_move : ByteArray := method_24_code
def yL_move : MethodName := ⟨RL, "move", "(LLintPress;II[J)I"⟩
abbrev cL_undo : ByteArray := method_25_code
def yL_undo : MethodName := ⟨RL, "undo", "(LLintPress;[J)I"⟩
abbrev cL_weight : ByteArray := method_26_code
def yL_weight : MethodName := ⟨RL, "weight", "(LLintPress;I[J)I"⟩
abbrev cL_ruleAt : ByteArray := method_27_code
def yL_ruleAt : MethodName := ⟨RL, "ruleAt", "(LLintPress;I[J)I"⟩
abbrev cL_undone : ByteArray := method_28_code
def yL_undone : MethodName := ⟨RL, "undone", "(LLintPress;I[J)I"⟩
abbrev cL_undoneShare : ByteArray := method_29_code
def yL_undoneShare : MethodName := ⟨RL, "undoneShare", "(LLintPress;[D)I"⟩
abbrev cL_setWidth : ByteArray := method_30_code
def yL_setWidth : MethodName := ⟨RL, "setWidth", "(LLintPress;I[J)I"⟩
abbrev cL_costByTrying : ByteArray := method_31_code
def yL_costByTrying : MethodName := ⟨RL, "costByTrying", "(LLintPress;[J)I"⟩
abbrev cL_lineOf : ByteArray := method_32_code
def yL_lineOf : MethodName := ⟨RL, "lineOf", "(LLintPress;I[J)I"⟩
abbrev cL_lineWidth : ByteArray := method_33_code
def yL_lineWidth : MethodName := ⟨RL, "lineWidth", "(LLintPress;I[J)I"⟩
abbrev cL_meanWidth : ByteArray := method_34_code
def yL_meanWidth : MethodName := ⟨RL, "meanWidth", "(LLintPress;[D)I"⟩
abbrev cL_law : ByteArray := code
def yL_law : MethodName := ⟨RL, "law", "([I)Z"⟩
end
section
def iX0_init : List (Nat × Instr × Nat) := [(0, .aload_n 0, 1), (1, .invokespecial 3, 3), (4, .aload_n 0, 1), (5, .bipush 31, 2), (7, .newarray .int, 2), (9, .putfield 9, 3), (12, .aload_n 0, 1), (13, .bipush 30, 2), (15, .newarray .boolean, 2), (17, .putfield 15, 3), (20, .return_, 1)]
set_option maxRecDepth 100000 in
theorem kX0_init : ∀ q ∈ iX0_init, decode cX0_init q.1 = .ok q.2 := by decide +kernel
def iX0_sum : List (Nat × Instr × Nat) := [(0, .aload_n 0, 1), (1, .getfield 9, 3), (4, .iconst 0, 1), (5, .invokestatic 19, 3), (8, .ireturn, 1)]
set_option maxRecDepth 100000 in
theorem kX0_sum : ∀ q ∈ iX0_sum, decode cX0_sum q.1 = .ok q.2 := by decide +kernel
def iX0_holds : List (Nat × Instr × Nat) := [(0, .aload_n 0, 1), (1, .getfield 15, 3), (4, .iload_n 1, 1), (5, .invokestatic 23, 3), (8, .ireturn, 1)]
set_option maxRecDepth 100000 in
theorem kX0_holds : ∀ q ∈ iX0_holds, decode cX0_holds q.1 = .ok q.2 := by decide +kernel
def iX0_choose : List (Nat × Instr × Nat) := [(0, .aload_n 0, 1), (1, .aload_n 1, 1), (2, .invokevirtual 27, 3), (5, .iconst 0, 1), (6, .istore_n 2, 1), (7, .iconst 0, 1), (8, .istore_n 3, 1), (9, .iload_n 3, 1), (10, .bipush 30, 2), (12, .if_icmp .ge 65, 3), (15, .iload_n 3, 1), (16, .aload_n 1, 1), (17, .invokevirtual 31, 3), (20, .if_icmp .ge 25, 3), (23, .aload_n 1, 1), (24, .iload_n 3, 1), (25, .invokevirtual 37, 3), (28, .iload_n 2, 1), (29, .if_icmp .lt 16, 3), (32, .aload_n 0, 1), (33, .aload_n 1, 1), (34, .iload_n 3, 1), (35, .invokevirtual 41, 3), (38, .ifCond .eq 7, 3), (41, .iconst 1, 1), (42, .goto 4, 3), (45, .iconst 0, 1), (46, .istore 4, 2), (48, .aload_n 0, 1), (49, .getfield 15, 3), (52, .iload_n 3, 1), (53, .iload 4, 2), (55, .invokestatic 45, 3), (58, .iload 4, 2), (60, .ifCond .eq 11, 3), (63, .aload_n 1, 1), (64, .iload_n 3, 1), (65, .invokevirtual 49, 3), (68, .iconst 1, 1), (69, .iadd, 1), (70, .istore_n 2, 1), (71, .iinc 3 1, 3), (74, .goto (-65), 3), (77, .return_, 1)]
set_option maxRecDepth 100000 in
theorem kX0_choose : ∀ q ∈ iX0_choose, decode cX0_choose q.1 = .ok q.2 := by decide +kernel
def iX0_hasClash : List (Nat × Instr × Nat) := [(0, .iconst 0, 1), (1, .istore_n 2, 1), (2, .iload_n 2, 1), (3, .aload_n 1, 1), (4, .invokevirtual 31, 3), (7, .if_icmp .ge 83, 3), (10, .iload_n 2, 1), (11, .iconst 1, 1), (12, .iadd, 1), (13, .istore_n 3, 1), (14, .iload_n 3, 1), (15, .aload_n 1, 1), (16, .invokevirtual 31, 3), (19, .if_icmp .ge 65, 3), (22, .aload_n 1, 1), (23, .iload_n 2, 1), (24, .invokevirtual 37, 3), (27, .aload_n 1, 1), (28, .iload_n 3, 1), (29, .invokevirtual 49, 3), (32, .if_icmp .gt 20, 3), (35, .aload_n 1, 1), (36, .iload_n 3, 1), (37, .invokevirtual 37, 3), (40, .aload_n 1, 1), (41, .iload_n 2, 1), (42, .invokevirtual 49, 3), (45, .if_icmp .gt 7, 3), (48, .iconst 1, 1), (49, .goto 4, 3), (52, .iconst 0, 1), (53, .istore 4, 2), (55, .iload 4, 2), (57, .ifCond .eq 21, 3), (60, .aload_n 0, 1), (61, .iload_n 2, 1), (62, .invokevirtual 52, 3), (65, .ifCond .eq 13, 3), (68, .aload_n 0, 1), (69, .iload_n 3, 1), (70, .invokevirtual 52, 3), (73, .ifCond .eq 5, 3), (76, .iconst 1, 1), (77, .ireturn, 1), (78, .iinc 3 1, 3), (81, .goto (-67), 3), (84, .iinc 2 1, 3), (87, .goto (-85), 3), (90, .iconst 0, 1), (91, .ireturn, 1)]
set_option maxRecDepth 100000 in
theorem kX0_hasClash : ∀ q ∈ iX0_hasClash, decode cX0_hasClash q.1 = .ok q.2 := by decide +kernel
def iX0_sumUp : List (Nat × Instr × Nat) := [(0, .aload_n 0, 1), (1, .getfield 9, 3), (4, .aload_n 1, 1), (5, .invokevirtual 31, 3), (8, .iconst 0, 1), (9, .invokestatic 56, 3), (12, .aload_n 1, 1), (13, .invokevirtual 31, 3), (16, .iconst 1, 1), (17, .isub, 1), (18, .istore_n 2, 1), (19, .iload_n 2, 1), (20, .ifCond .lt 36, 3), (23, .aload_n 0, 1), (24, .getfield 9, 3), (27, .iload_n 2, 1), (28, .aload_n 0, 1), (29, .getfield 9, 3), (32, .iload_n 2, 1), (33, .iconst 1, 1), (34, .iadd, 1), (35, .invokestatic 19, 3), (38, .aload_n 0, 1), (39, .aload_n 1, 1), (40, .iload_n 2, 1), (41, .invokevirtual 60, 3), (44, .invokestatic 64, 3), (47, .invokestatic 56, 3), (50, .iinc 2 (-1), 3), (53, .goto (-34), 3), (56, .return_, 1)]
set_option maxRecDepth 100000 in
theorem kX0_sumUp : ∀ q ∈ iX0_sumUp, decode cX0_sumUp q.1 = .ok q.2 := by decide +kernel
def iX0_sumWith : List (Nat × Instr × Nat) := [(0, .iload_n 2, 1), (1, .iconst 1, 1), (2, .iadd, 1), (3, .istore_n 3, 1), (4, .iload_n 3, 1), (5, .aload_n 1, 1), (6, .invokevirtual 31, 3), (9, .if_icmp .ge 22, 3), (12, .aload_n 1, 1), (13, .iload_n 3, 1), (14, .invokevirtual 37, 3), (17, .aload_n 1, 1), (18, .iload_n 2, 1), (19, .invokevirtual 49, 3), (22, .if_icmp .gt 9, 3), (25, .iinc 3 1, 3), (28, .goto (-24), 3), (31, .aload_n 1, 1), (32, .iload_n 2, 1), (33, .invokevirtual 70, 3), (36, .aload_n 0, 1), (37, .getfield 9, 3), (40, .iload_n 3, 1), (41, .invokestatic 19, 3), (44, .iadd, 1), (45, .ireturn, 1)]
set_option maxRecDepth 100000 in
theorem kX0_sumWith : ∀ q ∈ iX0_sumWith, decode cX0_sumWith q.1 = .ok q.2 := by decide +kernel
def iX0_isWorthTaking : List (Nat × Instr × Nat) := [(0, .aload_n 1, 1), (1, .iload_n 2, 1), (2, .invokevirtual 70, 3), (5, .ifCond .le 24, 3), (8, .aload_n 0, 1), (9, .aload_n 1, 1), (10, .iload_n 2, 1), (11, .invokevirtual 60, 3), (14, .aload_n 0, 1), (15, .getfield 9, 3), (18, .iload_n 2, 1), (19, .invokestatic 19, 3), (22, .if_icmp .ne 7, 3), (25, .iconst 1, 1), (26, .goto 4, 3), (29, .iconst 0, 1), (30, .ireturn, 1)]
set_option maxRecDepth 100000 in
theorem kX0_isWorthTaking : ∀ q ∈ iX0_isWorthTaking, decode cX0_isWorthTaking q.1 = .ok q.2 := by decide +kernel
def iX1_init : List (Nat × Instr × Nat) := [(0, .aload_n 0, 1), (1, .invokespecial 3, 3), (4, .aload_n 0, 1), (5, .new 9, 3), (8, .dup, 1), (9, .invokespecial 11, 3), (12, .putfield 12, 3), (15, .aload_n 0, 1), (16, .iconst 5, 1), (17, .newarray .int, 2), (19, .putfield 18, 3), (22, .return_, 1)]
set_option maxRecDepth 100000 in
theorem kX1_init : ∀ q ∈ iX1_init, decode cX1_init q.1 = .ok q.2 := by decide +kernel
def iX1_start : List (Nat × Instr × Nat) := [(0, .aload_n 0, 1), (1, .getfield 12, 3), (4, .aload_n 1, 1), (5, .invokevirtual 22, 3), (8, .iconst 0, 1), (9, .istore_n 2, 1), (10, .iload_n 2, 1), (11, .iconst 5, 1), (12, .if_icmp .ge 18, 3), (15, .aload_n 0, 1), (16, .getfield 18, 3), (19, .iload_n 2, 1), (20, .iconst 0, 1), (21, .invokestatic 26, 3), (24, .iinc 2 1, 3), (27, .goto (-17), 3), (30, .return_, 1)]
set_option maxRecDepth 100000 in
theorem kX1_start : ∀ q ∈ iX1_start, decode cX1_start q.1 = .ok q.2 := by decide +kernel
def iX1_noteFix : List (Nat × Instr × Nat) := [(0, .aload_n 0, 1), (1, .getfield 18, 3), (4, .iload_n 1, 1), (5, .aload_n 0, 1), (6, .getfield 18, 3), (9, .iload_n 1, 1), (10, .invokestatic 30, 3), (13, .iconst 1, 1), (14, .iadd, 1), (15, .invokestatic 26, 3), (18, .return_, 1)]
set_option maxRecDepth 100000 in
theorem kX1_noteFix : ∀ q ∈ iX1_noteFix, decode cX1_noteFix q.1 = .ok q.2 := by decide +kernel
def iX1_takeBack : List (Nat × Instr × Nat) := [(0, .aload_n 1, 1), (1, .aload_n 0, 1), (2, .getfield 12, 3), (5, .invokevirtual 22, 3), (8, .iconst 0, 1), (9, .istore_n 3, 1), (10, .iload_n 3, 1), (11, .iconst 5, 1), (12, .if_icmp .ge 35, 3), (15, .aload_n 0, 1), (16, .getfield 18, 3), (19, .iload_n 3, 1), (20, .invokestatic 30, 3), (23, .istore 4, 2), (25, .iload 4, 2), (27, .ifCond .le 14, 3), (30, .aload_n 2, 1), (31, .iload_n 3, 1), (32, .invokevirtual 34, 3), (35, .iinc 4 (-1), 3), (38, .goto (-13), 3), (41, .iinc 3 1, 3), (44, .goto (-34), 3), (47, .return_, 1)]
set_option maxRecDepth 100000 in
theorem kX1_takeBack : ∀ q ∈ iX1_takeBack, decode cX1_takeBack q.1 = .ok q.2 := by decide +kernel
def iX2_init : List (Nat × Instr × Nat) := [(0, .aload_n 0, 1), (1, .invokespecial 3, 3), (4, .aload_n 0, 1), (5, .bipush 10, 2), (7, .anewarray 9, 3), (10, .putfield 11, 3), (13, .aload_n 0, 1), (14, .iconst 0, 1), (15, .putfield 17, 3), (18, .aload_n 0, 1), (19, .iconst 0, 1), (20, .putfield 21, 3), (23, .iconst 0, 1), (24, .istore_n 1, 1), (25, .iload_n 1, 1), (26, .aload_n 0, 1), (27, .getfield 11, 3), (30, .arraylength, 1), (31, .if_icmp .ge 22, 3), (34, .aload_n 0, 1), (35, .getfield 11, 3), (38, .iload_n 1, 1), (39, .new 9, 3), (42, .dup, 1), (43, .invokespecial 24, 3), (46, .aastore, 1), (47, .iinc 1 1, 3), (50, .goto (-25), 3), (53, .return_, 1)]
set_option maxRecDepth 100000 in
theorem kX2_init : ∀ q ∈ iX2_init, decode cX2_init q.1 = .ok q.2 := by decide +kernel
def iX2_count : List (Nat × Instr × Nat) := [(0, .aload_n 0, 1), (1, .getfield 21, 3), (4, .ireturn, 1)]
set_option maxRecDepth 100000 in
theorem kX2_count : ∀ q ∈ iX2_count, decode cX2_count q.1 = .ok q.2 := by decide +kernel
def iX2_forget : List (Nat × Instr × Nat) := [(0, .aload_n 0, 1), (1, .iconst 0, 1), (2, .putfield 21, 3), (5, .return_, 1)]
set_option maxRecDepth 100000 in
theorem kX2_forget : ∀ q ∈ iX2_forget, decode cX2_forget q.1 = .ok q.2 := by decide +kernel
def iX2_keep : List (Nat × Instr × Nat) := [(0, .aload_n 0, 1), (1, .aload_n 0, 1), (2, .getfield 17, 3), (5, .iconst 1, 1), (6, .iadd, 1), (7, .bipush 10, 2), (9, .if_icmp .ge 12, 3), (12, .aload_n 0, 1), (13, .getfield 17, 3), (16, .iconst 1, 1), (17, .iadd, 1), (18, .goto 4, 3), (21, .iconst 0, 1), (22, .putfield 17, 3), (25, .aload_n 0, 1), (26, .aload_n 0, 1), (27, .getfield 21, 3), (30, .iconst 1, 1), (31, .iadd, 1), (32, .bipush 10, 2), (34, .invokestatic 25, 3), (37, .putfield 21, 3), (40, .aload_n 0, 1), (41, .invokevirtual 31, 3), (44, .astore_n 2, 1), (45, .aload_n 2, 1), (46, .ifnull 8, 3), (49, .aload_n 2, 1), (50, .aload_n 1, 1), (51, .invokevirtual 35, 3), (54, .return_, 1)]
set_option maxRecDepth 100000 in
theorem kX2_keep : ∀ q ∈ iX2_keep, decode cX2_keep q.1 = .ok q.2 := by decide +kernel
def iX2_noteFix : List (Nat × Instr × Nat) := [(0, .aload_n 0, 1), (1, .invokevirtual 31, 3), (4, .astore_n 2, 1), (5, .aload_n 2, 1), (6, .ifnull 8, 3), (9, .aload_n 2, 1), (10, .iload_n 1, 1), (11, .invokevirtual 39, 3), (14, .return_, 1)]
set_option maxRecDepth 100000 in
theorem kX2_noteFix : ∀ q ∈ iX2_noteFix, decode cX2_noteFix q.1 = .ok q.2 := by decide +kernel
def iX2_takeBack : List (Nat × Instr × Nat) := [(0, .aload_n 0, 1), (1, .invokevirtual 31, 3), (4, .astore_n 3, 1), (5, .aload_n 3, 1), (6, .ifnull 48, 3), (9, .aload_n 0, 1), (10, .getfield 21, 3), (13, .ifCond .le 41, 3), (16, .aload_n 3, 1), (17, .aload_n 1, 1), (18, .aload_n 2, 1), (19, .invokevirtual 43, 3), (22, .aload_n 0, 1), (23, .aload_n 0, 1), (24, .getfield 17, 3), (27, .ifCond .le 12, 3), (30, .aload_n 0, 1), (31, .getfield 17, 3), (34, .iconst 1, 1), (35, .isub, 1), (36, .goto 5, 3), (39, .bipush 9, 2), (41, .putfield 17, 3), (44, .aload_n 0, 1), (45, .dup, 1), (46, .getfield 21, 3), (49, .iconst 1, 1), (50, .isub, 1), (51, .putfield 21, 3), (54, .return_, 1)]
set_option maxRecDepth 100000 in
theorem kX2_takeBack : ∀ q ∈ iX2_takeBack, decode cX2_takeBack q.1 = .ok q.2 := by decide +kernel
def iX2_newestDeed : List (Nat × Instr × Nat) := [(0, .aload_n 0, 1), (1, .getfield 17, 3), (4, .ifCond .lt 27, 3), (7, .aload_n 0, 1), (8, .getfield 17, 3), (11, .aload_n 0, 1), (12, .getfield 11, 3), (15, .arraylength, 1), (16, .if_icmp .ge 15, 3), (19, .aload_n 0, 1), (20, .getfield 11, 3), (23, .aload_n 0, 1), (24, .getfield 17, 3), (27, .aaload, 1), (28, .goto 4, 3), (31, .aconst_null, 1), (32, .areturn, 1)]
set_option maxRecDepth 100000 in
theorem kX2_newestDeed : ∀ q ∈ iX2_newestDeed, decode cX2_newestDeed q.1 = .ok q.2 := by decide +kernel
def iX3_init : List (Nat × Instr × Nat) := [(0, .aload_n 0, 1), (1, .invokespecial 3, 3), (4, .aload_n 0, 1), (5, .bipush 30, 2), (7, .newarray .int, 2), (9, .putfield 9, 3), (12, .aload_n 0, 1), (13, .bipush 30, 2), (15, .newarray .int, 2), (17, .putfield 15, 3), (20, .aload_n 0, 1), (21, .bipush 30, 2), (23, .newarray .int, 2), (25, .putfield 18, 3), (28, .aload_n 0, 1), (29, .bipush 30, 2), (31, .newarray .int, 2), (33, .putfield 21, 3), (36, .aload_n 0, 1), (37, .iconst 0, 1), (38, .putfield 24, 3), (41, .return_, 1)]
set_option maxRecDepth 100000 in
theorem kX3_init : ∀ q ∈ iX3_init, decode cX3_init q.1 = .ok q.2 := by decide +kernel
def iX3_count : List (Nat × Instr × Nat) := [(0, .aload_n 0, 1), (1, .getfield 24, 3), (4, .ireturn, 1)]
set_option maxRecDepth 100000 in
theorem kX3_count : ∀ q ∈ iX3_count, decode cX3_count q.1 = .ok q.2 := by decide +kernel
def iX3_rule : List (Nat × Instr × Nat) := [(0, .aload_n 0, 1), (1, .getfield 9, 3), (4, .iload_n 1, 1), (5, .invokestatic 28, 3), (8, .ireturn, 1)]
set_option maxRecDepth 100000 in
theorem kX3_rule : ∀ q ∈ iX3_rule, decode cX3_rule q.1 = .ok q.2 := by decide +kernel
def iX3_first : List (Nat × Instr × Nat) := [(0, .aload_n 0, 1), (1, .getfield 15, 3), (4, .iload_n 1, 1), (5, .invokestatic 28, 3), (8, .ireturn, 1)]
set_option maxRecDepth 100000 in
theorem kX3_first : ∀ q ∈ iX3_first, decode cX3_first q.1 = .ok q.2 := by decide +kernel
def iX3_last : List (Nat × Instr × Nat) := [(0, .aload_n 0, 1), (1, .getfield 18, 3), (4, .iload_n 1, 1), (5, .invokestatic 28, 3), (8, .ireturn, 1)]
set_option maxRecDepth 100000 in
theorem kX3_last : ∀ q ∈ iX3_last, decode cX3_last q.1 = .ok q.2 := by decide +kernel
def iX3_gain : List (Nat × Instr × Nat) := [(0, .aload_n 0, 1), (1, .getfield 21, 3), (4, .iload_n 1, 1), (5, .invokestatic 28, 3), (8, .ireturn, 1)]
set_option maxRecDepth 100000 in
theorem kX3_gain : ∀ q ∈ iX3_gain, decode cX3_gain q.1 = .ok q.2 := by decide +kernel
def iX3_fixable : List (Nat × Instr × Nat) := [(0, .iconst 0, 1), (1, .istore_n 1, 1), (2, .iconst 0, 1), (3, .istore_n 2, 1), (4, .iload_n 2, 1), (5, .aload_n 0, 1), (6, .getfield 24, 3), (9, .if_icmp .ge 20, 3), (12, .aload_n 0, 1), (13, .iload_n 2, 1), (14, .invokevirtual 32, 3), (17, .ifCond .le 6, 3), (20, .iinc 1 1, 3), (23, .iinc 2 1, 3), (26, .goto (-22), 3), (29, .iload_n 1, 1), (30, .ireturn, 1)]
set_option maxRecDepth 100000 in
theorem kX3_fixable : ∀ q ∈ iX3_fixable, decode cX3_fixable q.1 = .ok q.2 := by decide +kernel
def iX3_search : List (Nat × Instr × Nat) := [(0, .aload_n 0, 1), (1, .iconst 0, 1), (2, .putfield 24, 3), (5, .iconst 0, 1), (6, .istore_n 3, 1), (7, .iload_n 3, 1), (8, .aload_n 1, 1), (9, .invokevirtual 36, 3), (12, .if_icmp .ge 53, 3), (15, .aload_n 1, 1), (16, .iload_n 3, 1), (17, .invokestatic 42, 3), (20, .istore 4, 2), (22, .iload 4, 2), (24, .iconst (-1), 1), (25, .if_icmp .eq 15, 3), (28, .aload_n 0, 1), (29, .aload_n 1, 1), (30, .aload_n 2, 1), (31, .iload 4, 2), (33, .iload_n 3, 1), (34, .iload_n 3, 1), (35, .iconst 1, 1), (36, .iadd, 1), (37, .invokevirtual 46, 3), (40, .aload_n 1, 1), (41, .iload_n 3, 1), (42, .invokestatic 50, 3), (45, .ifCond .eq 14, 3), (48, .aload_n 0, 1), (49, .aload_n 1, 1), (50, .aload_n 2, 1), (51, .iconst 4, 1), (52, .iload_n 3, 1), (53, .iload_n 3, 1), (54, .iconst 2, 1), (55, .iadd, 1), (56, .invokevirtual 46, 3), (59, .iinc 3 1, 3), (62, .goto (-55), 3), (65, .return_, 1)]
set_option maxRecDepth 100000 in
theorem kX3_search : ∀ q ∈ iX3_search, decode cX3_search q.1 = .ok q.2 := by decide +kernel
def iX3_ruleOfPair : List (Nat × Instr × Nat) := [(0, .aload_n 0, 1), (1, .iload_n 1, 1), (2, .invokevirtual 54, 3), (5, .istore_n 2, 1), (6, .aload_n 0, 1), (7, .iload_n 1, 1), (8, .iconst 1, 1), (9, .iadd, 1), (10, .invokevirtual 54, 3), (13, .istore_n 3, 1), (14, .iload_n 2, 1), (15, .bipush 110, 2), (17, .if_icmp .ne 20, 3), (20, .aload_n 0, 1), (21, .iload_n 1, 1), (22, .iconst 1, 1), (23, .iadd, 1), (24, .aload_n 0, 1), (25, .iload_n 1, 1), (26, .invokevirtual 58, 3), (29, .invokevirtual 61, 3), (32, .ifCond .eq 5, 3), (35, .iconst 0, 1), (36, .ireturn, 1), (37, .iload_n 2, 1), (38, .bipush 123, 2), (40, .if_icmp .ne 11, 3), (43, .iload_n 3, 1), (44, .bipush 125, 2), (46, .if_icmp .ne 5, 3), (49, .iconst 1, 1), (50, .ireturn, 1), (51, .iload_n 2, 1), (52, .bipush 99, 2), (54, .if_icmp .ne 11, 3), (57, .iload_n 3, 1), (58, .bipush 125, 2), (60, .if_icmp .ne 5, 3), (63, .iconst 2, 1), (64, .ireturn, 1), (65, .iload_n 2, 1), (66, .bipush 99, 2), (68, .if_icmp .ne 13, 3), (71, .iload_n 3, 1), (72, .bipush 99, 2), (74, .if_icmp .ne 7, 3), (77, .iconst 3, 1), (78, .goto 4, 3), (81, .iconst (-1), 1), (82, .ireturn, 1)]
set_option maxRecDepth 100000 in
theorem kX3_ruleOfPair : ∀ q ∈ iX3_ruleOfPair, decode cX3_ruleOfPair q.1 = .ok q.2 := by decide +kernel
def iX3_isNameInBlock : List (Nat × Instr × Nat) := [(0, .aload_n 0, 1), (1, .iload_n 1, 1), (2, .invokevirtual 54, 3), (5, .bipush 123, 2), (7, .if_icmp .ne 31, 3), (10, .aload_n 0, 1), (11, .iload_n 1, 1), (12, .iconst 1, 1), (13, .iadd, 1), (14, .invokevirtual 54, 3), (17, .bipush 110, 2), (19, .if_icmp .ne 19, 3), (22, .aload_n 0, 1), (23, .iload_n 1, 1), (24, .iconst 2, 1), (25, .iadd, 1), (26, .invokevirtual 54, 3), (29, .bipush 125, 2), (31, .if_icmp .ne 7, 3), (34, .iconst 1, 1), (35, .goto 4, 3), (38, .iconst 0, 1), (39, .ireturn, 1)]
set_option maxRecDepth 100000 in
theorem kX3_isNameInBlock : ∀ q ∈ iX3_isNameInBlock, decode cX3_isNameInBlock q.1 = .ok q.2 := by decide +kernel
def iX3_note : List (Nat × Instr × Nat) := [(0, .iconst 1, 1), (1, .istore 6, 2), (3, .iload 4, 2), (5, .istore 7, 2), (7, .iload 7, 2), (9, .iload 5, 2), (11, .if_icmp .gt 39, 3), (14, .iload 7, 2), (16, .aload_n 1, 1), (17, .invokevirtual 36, 3), (20, .if_icmp .ge 30, 3), (23, .iload 6, 2), (25, .ifCond .eq 16, 3), (28, .aload_n 1, 1), (29, .iload 7, 2), (31, .invokevirtual 65, 3), (34, .ifCond .ne 7, 3), (37, .iconst 1, 1), (38, .goto 4, 3), (41, .iconst 0, 1), (42, .istore 6, 2), (44, .iinc 7 1, 3), (47, .goto (-40), 3), (50, .aload_n 0, 1), (51, .getfield 9, 3), (54, .aload_n 0, 1), (55, .getfield 24, 3), (58, .iload_n 3, 1), (59, .invokestatic 69, 3), (62, .aload_n 0, 1), (63, .getfield 15, 3), (66, .aload_n 0, 1), (67, .getfield 24, 3), (70, .iload 4, 2), (72, .invokestatic 69, 3), (75, .aload_n 0, 1), (76, .getfield 18, 3), (79, .aload_n 0, 1), (80, .getfield 24, 3), (83, .iload 5, 2), (85, .invokestatic 69, 3), (88, .aload_n 0, 1), (89, .getfield 21, 3), (92, .aload_n 0, 1), (93, .getfield 24, 3), (96, .iload 6, 2), (98, .ifCond .eq 11, 3), (101, .aload_n 2, 1), (102, .iload_n 3, 1), (103, .invokevirtual 73, 3), (106, .goto 4, 3), (109, .iconst 0, 1), (110, .invokestatic 69, 3), (113, .aload_n 0, 1), (114, .aload_n 0, 1), (115, .getfield 24, 3), (118, .iconst 1, 1), (119, .iadd, 1), (120, .bipush 30, 2), (122, .invokestatic 78, 3), (125, .putfield 24, 3), (128, .return_, 1)]
set_option maxRecDepth 100000 in
theorem kX3_note : ∀ q ∈ iX3_note, decode cX3_note q.1 = .ok q.2 := by decide +kernel
def iX4_init : List (Nat × Instr × Nat) := [(0, .aload_n 0, 1), (1, .invokespecial 3, 3), (4, .aload_n 0, 1), (5, .bipush 31, 2), (7, .newarray .int, 2), (9, .putfield 9, 3), (12, .aload_n 0, 1), (13, .bipush 31, 2), (15, .newarray .int, 2), (17, .putfield 15, 3), (20, .aload_n 0, 1), (21, .bipush 31, 2), (23, .newarray .int, 2), (25, .putfield 18, 3), (28, .aload_n 0, 1), (29, .iconst 0, 1), (30, .putfield 21, 3), (33, .return_, 1)]
set_option maxRecDepth 100000 in
theorem kX4_init : ∀ q ∈ iX4_init, decode cX4_init q.1 = .ok q.2 := by decide +kernel
def iX4_lines : List (Nat × Instr × Nat) := [(0, .aload_n 0, 1), (1, .getfield 21, 3), (4, .ireturn, 1)]
set_option maxRecDepth 100000 in
theorem kX4_lines : ∀ q ∈ iX4_lines, decode cX4_lines q.1 = .ok q.2 := by decide +kernel
def iX4_least : List (Nat × Instr × Nat) := [(0, .aload_n 0, 1), (1, .getfield 9, 3), (4, .iconst 0, 1), (5, .invokestatic 25, 3), (8, .ireturn, 1)]
set_option maxRecDepth 100000 in
theorem kX4_least : ∀ q ∈ iX4_least, decode cX4_least q.1 = .ok q.2 := by decide +kernel
def iX4_divide : List (Nat × Instr × Nat) := [(0, .aload_n 0, 1), (1, .getfield 9, 3), (4, .aload_n 1, 1), (5, .invokevirtual 29, 3), (8, .iconst 0, 1), (9, .invokestatic 35, 3), (12, .aload_n 1, 1), (13, .invokevirtual 29, 3), (16, .iconst 1, 1), (17, .isub, 1), (18, .istore_n 3, 1), (19, .iload_n 3, 1), (20, .ifCond .lt 16, 3), (23, .aload_n 0, 1), (24, .aload_n 1, 1), (25, .iload_n 2, 1), (26, .iload_n 3, 1), (27, .invokevirtual 39, 3), (30, .iinc 3 (-1), 3), (33, .goto (-14), 3), (36, .aload_n 0, 1), (37, .iconst 0, 1), (38, .putfield 21, 3), (41, .iconst 0, 1), (42, .istore_n 3, 1), (43, .iconst 0, 1), (44, .istore 4, 2), (46, .iload 4, 2), (48, .bipush 30, 2), (50, .if_icmp .ge 48, 3), (53, .iload_n 3, 1), (54, .aload_n 1, 1), (55, .invokevirtual 29, 3), (58, .if_icmp .ge 40, 3), (61, .aload_n 0, 1), (62, .getfield 18, 3), (65, .aload_n 0, 1), (66, .getfield 21, 3), (69, .iload_n 3, 1), (70, .invokestatic 35, 3), (73, .aload_n 0, 1), (74, .dup, 1), (75, .getfield 21, 3), (78, .iconst 1, 1), (79, .iadd, 1), (80, .putfield 21, 3), (83, .aload_n 0, 1), (84, .getfield 15, 3), (87, .iload_n 3, 1), (88, .invokestatic 25, 3), (91, .istore_n 3, 1), (92, .iinc 4 1, 3), (95, .goto (-49), 3), (98, .aload_n 0, 1), (99, .getfield 18, 3), (102, .aload_n 0, 1), (103, .getfield 21, 3), (106, .aload_n 1, 1), (107, .invokevirtual 29, 3), (110, .invokestatic 35, 3), (113, .return_, 1)]
set_option maxRecDepth 100000 in
theorem kX4_divide : ∀ q ∈ iX4_divide, decode cX4_divide q.1 = .ok q.2 := by decide +kernel
def iX4_lineHolding : List (Nat × Instr × Nat) := [(0, .iconst 0, 1), (1, .istore_n 2, 1), (2, .iload_n 2, 1), (3, .iconst 1, 1), (4, .iadd, 1), (5, .aload_n 0, 1), (6, .getfield 21, 3), (9, .if_icmp .ge 23, 3), (12, .aload_n 0, 1), (13, .getfield 18, 3), (16, .iload_n 2, 1), (17, .iconst 1, 1), (18, .iadd, 1), (19, .invokestatic 25, 3), (22, .iload_n 1, 1), (23, .if_icmp .gt 9, 3), (26, .iinc 2 1, 3), (29, .goto (-27), 3), (32, .iload_n 2, 1), (33, .ireturn, 1)]
set_option maxRecDepth 100000 in
theorem kX4_lineHolding : ∀ q ∈ iX4_lineHolding, decode cX4_lineHolding q.1 = .ok q.2 := by decide +kernel
def iX4_widthOfLine : List (Nat × Instr × Nat) := [(0, .iconst (-1), 1), (1, .istore_n 3, 1), (2, .aload_n 0, 1), (3, .getfield 18, 3), (6, .iload_n 2, 1), (7, .invokestatic 25, 3), (10, .istore 4, 2), (12, .iload 4, 2), (14, .aload_n 0, 1), (15, .getfield 18, 3), (18, .iload_n 2, 1), (19, .iconst 1, 1), (20, .iadd, 1), (21, .invokestatic 25, 3), (24, .if_icmp .ge 20, 3), (27, .iload_n 3, 1), (28, .iconst 1, 1), (29, .aload_n 1, 1), (30, .iload 4, 2), (32, .invokevirtual 43, 3), (35, .iadd, 1), (36, .iadd, 1), (37, .istore_n 3, 1), (38, .iinc 4 1, 3), (41, .goto (-29), 3), (44, .iload_n 3, 1), (45, .ireturn, 1)]
set_option maxRecDepth 100000 in
theorem kX4_widthOfLine : ∀ q ∈ iX4_widthOfLine, decode cX4_widthOfLine q.1 = .ok q.2 := by decide +kernel
def iX4_sumOfCosts : List (Nat × Instr × Nat) := [(0, .iconst 0, 1), (1, .istore_n 3, 1), (2, .iconst 0, 1), (3, .istore 4, 2), (5, .iload 4, 2), (7, .aload_n 0, 1), (8, .getfield 21, 3), (11, .if_icmp .ge 39, 3), (14, .iload_n 3, 1), (15, .aload_n 0, 1), (16, .aload_n 1, 1), (17, .iload 4, 2), (19, .invokevirtual 47, 3), (22, .iload_n 2, 1), (23, .iload 4, 2), (25, .aload_n 0, 1), (26, .getfield 21, 3), (29, .iconst 1, 1), (30, .isub, 1), (31, .if_icmp .ne 7, 3), (34, .iconst 1, 1), (35, .goto 4, 3), (38, .iconst 0, 1), (39, .invokestatic 51, 3), (42, .iadd, 1), (43, .istore_n 3, 1), (44, .iinc 4 1, 3), (47, .goto (-42), 3), (50, .iload_n 3, 1), (51, .ireturn, 1)]
set_option maxRecDepth 100000 in
theorem kX4_sumOfCosts : ∀ q ∈ iX4_sumOfCosts, decode cX4_sumOfCosts q.1 = .ok q.2 := by decide +kernel
def iX4_isSameAs : List (Nat × Instr × Nat) := [(0, .aload_n 0, 1), (1, .getfield 21, 3), (4, .aload_n 1, 1), (5, .getfield 21, 3), (8, .if_icmp .eq 5, 3), (11, .iconst 0, 1), (12, .ireturn, 1), (13, .iconst 0, 1), (14, .istore_n 3, 1), (15, .iload_n 3, 1), (16, .iload_n 2, 1), (17, .if_icmp .ge 24, 3), (20, .aload_n 0, 1), (21, .iload_n 3, 1), (22, .invokevirtual 55, 3), (25, .aload_n 1, 1), (26, .iload_n 3, 1), (27, .invokevirtual 55, 3), (30, .if_icmp .eq 5, 3), (33, .iconst 0, 1), (34, .ireturn, 1), (35, .iinc 3 1, 3), (38, .goto (-23), 3), (41, .iconst 1, 1), (42, .ireturn, 1)]
set_option maxRecDepth 100000 in
theorem kX4_isSameAs : ∀ q ∈ iX4_isSameAs, decode cX4_isSameAs q.1 = .ok q.2 := by decide +kernel
def iX4_chooseLineFrom : List (Nat × Instr × Nat) := [(0, .ldc 58, 2), (2, .istore 4, 2), (4, .aload_n 1, 1), (5, .invokevirtual 29, 3), (8, .istore 5, 2), (10, .iconst (-1), 1), (11, .istore 6, 2), (13, .iload_n 3, 1), (14, .istore 7, 2), (16, .iload 7, 2), (18, .aload_n 1, 1), (19, .invokevirtual 29, 3), (22, .if_icmp .ge 88, 3), (25, .iload 6, 2), (27, .iconst 1, 1), (28, .aload_n 1, 1), (29, .iload 7, 2), (31, .invokevirtual 43, 3), (34, .iadd, 1), (35, .iadd, 1), (36, .istore 6, 2), (38, .iload 7, 2), (40, .aload_n 1, 1), (41, .invokevirtual 29, 3), (44, .iconst 1, 1), (45, .isub, 1), (46, .if_icmp .ne 7, 3), (49, .iconst 1, 1), (50, .goto 4, 3), (53, .iconst 0, 1), (54, .istore 8, 2), (56, .iload 6, 2), (58, .iload_n 2, 1), (59, .iload 8, 2), (61, .invokestatic 51, 3), (64, .aload_n 0, 1), (65, .getfield 9, 3), (68, .iload 7, 2), (70, .iconst 1, 1), (71, .iadd, 1), (72, .invokestatic 25, 3), (75, .iadd, 1), (76, .istore 9, 2), (78, .aload_n 1, 1), (79, .iload 7, 2), (81, .invokevirtual 59, 3), (84, .ifCond .eq 20, 3), (87, .iload 9, 2), (89, .iload 4, 2), (91, .if_icmp .gt 13, 3), (94, .iload 9, 2), (96, .istore 4, 2), (98, .iload 7, 2), (100, .iconst 1, 1), (101, .iadd, 1), (102, .istore 5, 2), (104, .iinc 7 1, 3), (107, .goto (-91), 3), (110, .aload_n 0, 1), (111, .getfield 9, 3), (114, .iload_n 3, 1), (115, .iload 4, 2), (117, .invokestatic 35, 3), (120, .aload_n 0, 1), (121, .getfield 15, 3), (124, .iload_n 3, 1), (125, .iload 5, 2), (127, .invokestatic 35, 3), (130, .return_, 1)]
set_option maxRecDepth 100000 in
theorem kX4_chooseLineFrom : ∀ q ∈ iX4_chooseLineFrom, decode cX4_chooseLineFrom q.1 = .ok q.2 := by decide +kernel
def iX5_init : List (Nat × Instr × Nat) := [(0, .aload_n 0, 1), (1, .invokespecial 3, 3), (4, .aload_n 0, 1), (5, .iconst 5, 1), (6, .newarray .int, 2), (8, .putfield 9, 3), (11, .aload_n 0, 1), (12, .iconst 5, 1), (13, .newarray .int, 2), (15, .putfield 15, 3), (18, .aload_n 0, 1), (19, .iconst 0, 1), (20, .putfield 18, 3), (23, .iconst 0, 1), (24, .istore_n 1, 1), (25, .iload_n 1, 1), (26, .iconst 5, 1), (27, .if_icmp .ge 24, 3), (30, .aload_n 0, 1), (31, .getfield 9, 3), (34, .iload_n 1, 1), (35, .getstatic 22, 3), (38, .iload_n 1, 1), (39, .invokestatic 25, 3), (42, .invokestatic 29, 3), (45, .iinc 1 1, 3), (48, .goto (-23), 3), (51, .return_, 1)]
set_option maxRecDepth 100000 in
theorem kX5_init : ∀ q ∈ iX5_init, decode cX5_init q.1 = .ok q.2 := by decide +kernel
def iX5_weightFor : List (Nat × Instr × Nat) := [(0, .aload_n 0, 1), (1, .getfield 9, 3), (4, .iload_n 1, 1), (5, .invokestatic 25, 3), (8, .ireturn, 1)]
set_option maxRecDepth 100000 in
theorem kX5_weightFor : ∀ q ∈ iX5_weightFor, decode cX5_weightFor q.1 = .ok q.2 := by decide +kernel
def iX5_undoneFor : List (Nat × Instr × Nat) := [(0, .aload_n 0, 1), (1, .getfield 15, 3), (4, .iload_n 1, 1), (5, .invokestatic 25, 3), (8, .ireturn, 1)]
set_option maxRecDepth 100000 in
theorem kX5_undoneFor : ∀ q ∈ iX5_undoneFor, decode cX5_undoneFor q.1 = .ok q.2 := by decide +kernel
def iX5_allFixed : List (Nat × Instr × Nat) := [(0, .aload_n 0, 1), (1, .getfield 18, 3), (4, .ireturn, 1)]
set_option maxRecDepth 100000 in
theorem kX5_allFixed : ∀ q ∈ iX5_allFixed, decode cX5_allFixed q.1 = .ok q.2 := by decide +kernel
def iX5_allUndone : List (Nat × Instr × Nat) := [(0, .iconst 0, 1), (1, .istore_n 1, 1), (2, .iconst 0, 1), (3, .istore_n 2, 1), (4, .iload_n 2, 1), (5, .iconst 5, 1), (6, .if_icmp .ge 17, 3), (9, .iload_n 1, 1), (10, .aload_n 0, 1), (11, .iload_n 2, 1), (12, .invokevirtual 33, 3), (15, .iadd, 1), (16, .istore_n 1, 1), (17, .iinc 2 1, 3), (20, .goto (-16), 3), (23, .iload_n 1, 1), (24, .ireturn, 1)]
set_option maxRecDepth 100000 in
theorem kX5_allUndone : ∀ q ∈ iX5_allUndone, decode cX5_allUndone q.1 = .ok q.2 := by decide +kernel
def iX5_rankFor : List (Nat × Instr × Nat) := [(0, .iconst 0, 1), (1, .istore_n 2, 1), (2, .iconst 0, 1), (3, .istore_n 3, 1), (4, .iload_n 3, 1), (5, .iconst 5, 1), (6, .if_icmp .ge 40, 3), (9, .aload_n 0, 1), (10, .iload_n 3, 1), (11, .invokevirtual 37, 3), (14, .aload_n 0, 1), (15, .iload_n 1, 1), (16, .invokevirtual 37, 3), (19, .isub, 1), (20, .istore 4, 2), (22, .iload 4, 2), (24, .ifCond .gt 13, 3), (27, .iload 4, 2), (29, .ifCond .ne 11, 3), (32, .iload_n 3, 1), (33, .iload_n 1, 1), (34, .if_icmp .ge 6, 3), (37, .iinc 2 1, 3), (40, .iinc 3 1, 3), (43, .goto (-39), 3), (46, .iload_n 2, 1), (47, .ireturn, 1)]
set_option maxRecDepth 100000 in
theorem kX5_rankFor : ∀ q ∈ iX5_rankFor, decode cX5_rankFor q.1 = .ok q.2 := by decide +kernel
def iX5_reward : List (Nat × Instr × Nat) := [(0, .aload_n 0, 1), (1, .getfield 9, 3), (4, .iload_n 1, 1), (5, .aload_n 0, 1), (6, .iload_n 1, 1), (7, .invokevirtual 37, 3), (10, .iconst 1, 1), (11, .iadd, 1), (12, .bipush 99, 2), (14, .invokestatic 40, 3), (17, .invokestatic 29, 3), (20, .aload_n 0, 1), (21, .dup, 1), (22, .getfield 18, 3), (25, .iconst 1, 1), (26, .iadd, 1), (27, .putfield 18, 3), (30, .return_, 1)]
set_option maxRecDepth 100000 in
theorem kX5_reward : ∀ q ∈ iX5_reward, decode cX5_reward q.1 = .ok q.2 := by decide +kernel
def iX5_punish : List (Nat × Instr × Nat) := [(0, .aload_n 0, 1), (1, .iload_n 1, 1), (2, .invokevirtual 37, 3), (5, .iconst 3, 1), (6, .iadd, 1), (7, .iconst 4, 1), (8, .idiv, 1), (9, .istore_n 2, 1), (10, .aload_n 0, 1), (11, .getfield 9, 3), (14, .iload_n 1, 1), (15, .aload_n 0, 1), (16, .iload_n 1, 1), (17, .invokevirtual 37, 3), (20, .iload_n 2, 1), (21, .isub, 1), (22, .invokestatic 29, 3), (25, .aload_n 0, 1), (26, .getfield 15, 3), (29, .iload_n 1, 1), (30, .aload_n 0, 1), (31, .iload_n 1, 1), (32, .invokevirtual 33, 3), (35, .iconst 1, 1), (36, .iadd, 1), (37, .invokestatic 29, 3), (40, .return_, 1)]
set_option maxRecDepth 100000 in
theorem kX5_punish : ∀ q ∈ iX5_punish, decode cX5_punish q.1 = .ok q.2 := by decide +kernel
def iX6_init : List (Nat × Instr × Nat) := [(0, .aload_n 0, 1), (1, .invokespecial 3, 3), (4, .aload_n 0, 1), (5, .bipush 30, 2), (7, .newarray .char, 2), (9, .putfield 9, 3), (12, .aload_n 0, 1), (13, .bipush 30, 2), (15, .newarray .int, 2), (17, .putfield 15, 3), (20, .aload_n 0, 1), (21, .bipush 30, 2), (23, .newarray .int, 2), (25, .putfield 19, 3), (28, .aload_n 0, 1), (29, .bipush 30, 2), (31, .newarray .boolean, 2), (33, .putfield 22, 3), (36, .aload_n 0, 1), (37, .iconst 0, 1), (38, .putfield 26, 3), (41, .return_, 1)]
set_option maxRecDepth 100000 in
theorem kX6_init : ∀ q ∈ iX6_init, decode cX6_init q.1 = .ok q.2 := by decide +kernel
def iX6_size : List (Nat × Instr × Nat) := [(0, .aload_n 0, 1), (1, .getfield 26, 3), (4, .ireturn, 1)]
set_option maxRecDepth 100000 in
theorem kX6_size : ∀ q ∈ iX6_size, decode cX6_size q.1 = .ok q.2 := by decide +kernel
def iX6_kindAt : List (Nat × Instr × Nat) := [(0, .iload_n 1, 1), (1, .ifCond .lt 29, 3), (4, .iload_n 1, 1), (5, .aload_n 0, 1), (6, .getfield 26, 3), (9, .if_icmp .ge 21, 3), (12, .iload_n 1, 1), (13, .aload_n 0, 1), (14, .getfield 9, 3), (17, .arraylength, 1), (18, .if_icmp .ge 12, 3), (21, .aload_n 0, 1), (22, .getfield 9, 3), (25, .iload_n 1, 1), (26, .caload, 1), (27, .goto 5, 3), (30, .bipush 32, 2), (32, .ireturn, 1)]
set_option maxRecDepth 100000 in
theorem kX6_kindAt : ∀ q ∈ iX6_kindAt, decode cX6_kindAt q.1 = .ok q.2 := by decide +kernel
def iX6_nameAt : List (Nat × Instr × Nat) := [(0, .aload_n 0, 1), (1, .getfield 15, 3), (4, .iload_n 1, 1), (5, .invokestatic 30, 3), (8, .ireturn, 1)]
set_option maxRecDepth 100000 in
theorem kX6_nameAt : ∀ q ∈ iX6_nameAt, decode cX6_nameAt q.1 = .ok q.2 := by decide +kernel
def iX6_lengthAt : List (Nat × Instr × Nat) := [(0, .aload_n 0, 1), (1, .getfield 19, 3), (4, .iload_n 1, 1), (5, .invokestatic 30, 3), (8, .ireturn, 1)]
set_option maxRecDepth 100000 in
theorem kX6_lengthAt : ∀ q ∈ iX6_lengthAt, decode cX6_lengthAt q.1 = .ok q.2 := by decide +kernel
def iX6_pinnedAt : List (Nat × Instr × Nat) := [(0, .aload_n 0, 1), (1, .getfield 22, 3), (4, .iload_n 1, 1), (5, .invokestatic 34, 3), (8, .ireturn, 1)]
set_option maxRecDepth 100000 in
theorem kX6_pinnedAt : ∀ q ∈ iX6_pinnedAt, decode cX6_pinnedAt q.1 = .ok q.2 := by decide +kernel
def iX6_setPinned : List (Nat × Instr × Nat) := [(0, .aload_n 0, 1), (1, .getfield 22, 3), (4, .iload_n 1, 1), (5, .iload_n 2, 1), (6, .invokestatic 38, 3), (9, .return_, 1)]
set_option maxRecDepth 100000 in
theorem kX6_setPinned : ∀ q ∈ iX6_setPinned, decode cX6_setPinned q.1 = .ok q.2 := by decide +kernel
def iX6_widthAt : List (Nat × Instr × Nat) := [(0, .aload_n 0, 1), (1, .iload_n 1, 1), (2, .invokevirtual 42, 3), (5, .bipush 110, 2), (7, .if_icmp .ne 9, 3), (10, .aload_n 0, 1), (11, .iload_n 1, 1), (12, .invokevirtual 46, 3), (15, .ireturn, 1), (16, .aload_n 0, 1), (17, .iload_n 1, 1), (18, .invokevirtual 42, 3), (21, .bipush 99, 2), (23, .if_icmp .ne 13, 3), (26, .aload_n 0, 1), (27, .iload_n 1, 1), (28, .invokevirtual 46, 3), (31, .iconst 4, 1), (32, .iadd, 1), (33, .goto 4, 3), (36, .iconst 1, 1), (37, .ireturn, 1)]
set_option maxRecDepth 100000 in
theorem kX6_widthAt : ∀ q ∈ iX6_widthAt, decode cX6_widthAt q.1 = .ok q.2 := by decide +kernel
def iX6_openAhead : List (Nat × Instr × Nat) := [(0, .iconst 0, 1), (1, .istore_n 2, 1), (2, .iconst 0, 1), (3, .istore_n 3, 1), (4, .iload_n 3, 1), (5, .iload_n 1, 1), (6, .if_icmp .ge 46, 3), (9, .iload_n 3, 1), (10, .aload_n 0, 1), (11, .getfield 26, 3), (14, .if_icmp .ge 38, 3), (17, .aload_n 0, 1), (18, .iload_n 3, 1), (19, .invokevirtual 42, 3), (22, .bipush 123, 2), (24, .if_icmp .ne 9, 3), (27, .iinc 2 1, 3), (30, .goto 16, 3), (33, .aload_n 0, 1), (34, .iload_n 3, 1), (35, .invokevirtual 42, 3), (38, .bipush 125, 2), (40, .if_icmp .ne 6, 3), (43, .iinc 2 (-1), 3), (46, .iinc 3 1, 3), (49, .goto (-45), 3), (52, .iload_n 2, 1), (53, .ireturn, 1)]
set_option maxRecDepth 100000 in
theorem kX6_openAhead : ∀ q ∈ iX6_openAhead, decode cX6_openAhead q.1 = .ok q.2 := by decide +kernel
def iX6_depthAt : List (Nat × Instr × Nat) := [(0, .aload_n 0, 1), (1, .iload_n 1, 1), (2, .invokevirtual 42, 3), (5, .bipush 125, 2), (7, .if_icmp .ne 13, 3), (10, .aload_n 0, 1), (11, .iload_n 1, 1), (12, .invokevirtual 50, 3), (15, .iconst 1, 1), (16, .isub, 1), (17, .goto 8, 3), (20, .aload_n 0, 1), (21, .iload_n 1, 1), (22, .invokevirtual 50, 3), (25, .ireturn, 1)]
set_option maxRecDepth 100000 in
theorem kX6_depthAt : ∀ q ∈ iX6_depthAt, decode cX6_depthAt q.1 = .ok q.2 := by decide +kernel
def iX6_isNamed : List (Nat × Instr × Nat) := [(0, .aload_n 0, 1), (1, .iload_n 1, 1), (2, .invokevirtual 42, 3), (5, .bipush 110, 2), (7, .if_icmp .ne 16, 3), (10, .aload_n 0, 1), (11, .iload_n 1, 1), (12, .invokevirtual 53, 3), (15, .iload_n 2, 1), (16, .if_icmp .ne 7, 3), (19, .iconst 1, 1), (20, .goto 4, 3), (23, .iconst 0, 1), (24, .ireturn, 1)]
set_option maxRecDepth 100000 in
theorem kX6_isNamed : ∀ q ∈ iX6_isNamed, decode cX6_isNamed q.1 = .ok q.2 := by decide +kernel
def iX6_timesOf : List (Nat × Instr × Nat) := [(0, .iconst 0, 1), (1, .istore_n 2, 1), (2, .iconst 0, 1), (3, .istore_n 3, 1), (4, .iload_n 3, 1), (5, .aload_n 0, 1), (6, .getfield 26, 3), (9, .if_icmp .ge 21, 3), (12, .aload_n 0, 1), (13, .iload_n 3, 1), (14, .iload_n 1, 1), (15, .invokevirtual 56, 3), (18, .ifCond .eq 6, 3), (21, .iinc 2 1, 3), (24, .iinc 3 1, 3), (27, .goto (-23), 3), (30, .iload_n 2, 1), (31, .ireturn, 1)]
set_option maxRecDepth 100000 in
theorem kX6_timesOf : ∀ q ∈ iX6_timesOf, decode cX6_timesOf q.1 = .ok q.2 := by decide +kernel
def iX6_hasPinned : List (Nat × Instr × Nat) := [(0, .iconst 0, 1), (1, .istore_n 2, 1), (2, .iload_n 2, 1), (3, .aload_n 0, 1), (4, .getfield 26, 3), (7, .if_icmp .ge 28, 3), (10, .aload_n 0, 1), (11, .iload_n 2, 1), (12, .iload_n 1, 1), (13, .invokevirtual 56, 3), (16, .ifCond .eq 13, 3), (19, .aload_n 0, 1), (20, .iload_n 2, 1), (21, .invokevirtual 60, 3), (24, .ifCond .eq 5, 3), (27, .iconst 1, 1), (28, .ireturn, 1), (29, .iinc 2 1, 3), (32, .goto (-30), 3), (35, .iconst 0, 1), (36, .ireturn, 1)]
set_option maxRecDepth 100000 in
theorem kX6_hasPinned : ∀ q ∈ iX6_hasPinned, decode cX6_hasPinned q.1 = .ok q.2 := by decide +kernel
def iX6_allMovable : List (Nat × Instr × Nat) := [(0, .iload_n 1, 1), (1, .istore_n 3, 1), (2, .iload_n 3, 1), (3, .iload_n 2, 1), (4, .if_icmp .gt 59, 3), (7, .iload_n 3, 1), (8, .aload_n 0, 1), (9, .getfield 26, 3), (12, .if_icmp .ge 51, 3), (15, .aload_n 0, 1), (16, .iload_n 3, 1), (17, .invokevirtual 42, 3), (20, .bipush 110, 2), (22, .if_icmp .eq 13, 3), (25, .aload_n 0, 1), (26, .iload_n 3, 1), (27, .invokevirtual 42, 3), (30, .bipush 99, 2), (32, .if_icmp .ne 7, 3), (35, .iconst 1, 1), (36, .goto 4, 3), (39, .iconst 0, 1), (40, .istore 4, 2), (42, .iload 4, 2), (44, .ifCond .eq 11, 3), (47, .aload_n 0, 1), (48, .iload_n 3, 1), (49, .invokevirtual 60, 3), (52, .ifCond .eq 5, 3), (55, .iconst 0, 1), (56, .ireturn, 1), (57, .iinc 3 1, 3), (60, .goto (-58), 3), (63, .iconst 1, 1), (64, .ireturn, 1)]
set_option maxRecDepth 100000 in
theorem kX6_allMovable : ∀ q ∈ iX6_allMovable, decode cX6_allMovable q.1 = .ok q.2 := by decide +kernel
def iX6_canBreakBehind : List (Nat × Instr × Nat) := [(0, .iload_n 1, 1), (1, .aload_n 0, 1), (2, .getfield 26, 3), (5, .iconst 1, 1), (6, .isub, 1), (7, .if_icmp .ne 7, 3), (10, .iconst 1, 1), (11, .goto 4, 3), (14, .iconst 0, 1), (15, .istore_n 2, 1), (16, .iload_n 2, 1), (17, .ifCond .ne 21, 3), (20, .aload_n 0, 1), (21, .iload_n 1, 1), (22, .invokevirtual 60, 3), (25, .ifCond .eq 13, 3), (28, .aload_n 0, 1), (29, .iload_n 1, 1), (30, .iconst 1, 1), (31, .iadd, 1), (32, .invokevirtual 60, 3), (35, .ifCond .ne 7, 3), (38, .iconst 1, 1), (39, .goto 4, 3), (42, .iconst 0, 1), (43, .ireturn, 1)]
set_option maxRecDepth 100000 in
theorem kX6_canBreakBehind : ∀ q ∈ iX6_canBreakBehind, decode cX6_canBreakBehind q.1 = .ok q.2 := by decide +kernel
def iX6_add : List (Nat × Instr × Nat) := [(0, .aload_n 0, 1), (1, .getfield 26, 3), (4, .bipush 30, 2), (6, .if_icmp .ge 25, 3), (9, .aload_n 0, 1), (10, .aload_n 0, 1), (11, .getfield 26, 3), (14, .iload_n 1, 1), (15, .iload_n 2, 1), (16, .iload_n 3, 1), (17, .iconst 0, 1), (18, .invokevirtual 64, 3), (21, .aload_n 0, 1), (22, .dup, 1), (23, .getfield 26, 3), (26, .iconst 1, 1), (27, .iadd, 1), (28, .putfield 26, 3), (31, .return_, 1)]
set_option maxRecDepth 100000 in
theorem kX6_add : ∀ q ∈ iX6_add, decode cX6_add q.1 = .ok q.2 := by decide +kernel
def iX6_replaceName : List (Nat × Instr × Nat) := [(0, .iconst 0, 1), (1, .istore_n 3, 1), (2, .iload_n 3, 1), (3, .aload_n 0, 1), (4, .getfield 26, 3), (7, .if_icmp .ge 27, 3), (10, .aload_n 0, 1), (11, .iload_n 3, 1), (12, .iload_n 1, 1), (13, .invokevirtual 56, 3), (16, .ifCond .eq 12, 3), (19, .aload_n 0, 1), (20, .getfield 15, 3), (23, .iload_n 3, 1), (24, .iload_n 2, 1), (25, .invokestatic 68, 3), (28, .iinc 3 1, 3), (31, .goto (-29), 3), (34, .return_, 1)]
set_option maxRecDepth 100000 in
theorem kX6_replaceName : ∀ q ∈ iX6_replaceName, decode cX6_replaceName q.1 = .ok q.2 := by decide +kernel
def iX6_takeAway : List (Nat × Instr × Nat) := [(0, .iload_n 1, 1), (1, .ifCond .lt 11, 3), (4, .iload_n 1, 1), (5, .aload_n 0, 1), (6, .getfield 26, 3), (9, .if_icmp .lt 4, 3), (12, .return_, 1), (13, .iload_n 1, 1), (14, .istore_n 2, 1), (15, .iload_n 2, 1), (16, .iconst 1, 1), (17, .iadd, 1), (18, .aload_n 0, 1), (19, .getfield 26, 3), (22, .if_icmp .ge 18, 3), (25, .aload_n 0, 1), (26, .aload_n 0, 1), (27, .iload_n 2, 1), (28, .iconst 1, 1), (29, .iadd, 1), (30, .iload_n 2, 1), (31, .invokevirtual 72, 3), (34, .iinc 2 1, 3), (37, .goto (-22), 3), (40, .aload_n 0, 1), (41, .dup, 1), (42, .getfield 26, 3), (45, .iconst 1, 1), (46, .isub, 1), (47, .putfield 26, 3), (50, .return_, 1)]
set_option maxRecDepth 100000 in
theorem kX6_takeAway : ∀ q ∈ iX6_takeAway, decode cX6_takeAway q.1 = .ok q.2 := by decide +kernel
def iX6_carry : List (Nat × Instr × Nat) := [(0, .aload_n 0, 1), (1, .iload_n 1, 1), (2, .invokevirtual 42, 3), (5, .istore_n 3, 1), (6, .aload_n 0, 1), (7, .iload_n 1, 1), (8, .invokevirtual 53, 3), (11, .istore 4, 2), (13, .aload_n 0, 1), (14, .iload_n 1, 1), (15, .invokevirtual 46, 3), (18, .istore 5, 2), (20, .aload_n 0, 1), (21, .iload_n 1, 1), (22, .invokevirtual 60, 3), (25, .istore 6, 2), (27, .iload_n 1, 1), (28, .istore 7, 2), (30, .iload 7, 2), (32, .iload_n 2, 1), (33, .if_icmp .ge 20, 3), (36, .aload_n 0, 1), (37, .aload_n 0, 1), (38, .iload 7, 2), (40, .iconst 1, 1), (41, .iadd, 1), (42, .iload 7, 2), (44, .invokevirtual 72, 3), (47, .iinc 7 1, 3), (50, .goto (-20), 3), (53, .iload_n 1, 1), (54, .istore 7, 2), (56, .iload 7, 2), (58, .iload_n 2, 1), (59, .if_icmp .le 20, 3), (62, .aload_n 0, 1), (63, .aload_n 0, 1), (64, .iload 7, 2), (66, .iconst 1, 1), (67, .isub, 1), (68, .iload 7, 2), (70, .invokevirtual 72, 3), (73, .iinc 7 (-1), 3), (76, .goto (-20), 3), (79, .aload_n 0, 1), (80, .iload_n 2, 1), (81, .iload_n 3, 1), (82, .iload 4, 2), (84, .iload 5, 2), (86, .iload 6, 2), (88, .invokevirtual 64, 3), (91, .return_, 1)]
set_option maxRecDepth 100000 in
theorem kX6_carry : ∀ q ∈ iX6_carry, decode cX6_carry q.1 = .ok q.2 := by decide +kernel
def iX6_joinWithNext : List (Nat × Instr × Nat) := [(0, .aload_n 0, 1), (1, .iload_n 1, 1), (2, .invokevirtual 46, 3), (5, .aload_n 0, 1), (6, .iload_n 1, 1), (7, .iconst 1, 1), (8, .iadd, 1), (9, .invokevirtual 46, 3), (12, .iadd, 1), (13, .istore_n 2, 1), (14, .aload_n 0, 1), (15, .getfield 19, 3), (18, .iload_n 1, 1), (19, .iload_n 2, 1), (20, .bipush 9, 2), (22, .invokestatic 76, 3), (25, .invokestatic 68, 3), (28, .aload_n 0, 1), (29, .iload_n 1, 1), (30, .iconst 1, 1), (31, .iadd, 1), (32, .invokevirtual 82, 3), (35, .return_, 1)]
set_option maxRecDepth 100000 in
theorem kX6_joinWithNext : ∀ q ∈ iX6_joinWithNext, decode cX6_joinWithNext q.1 = .ok q.2 := by decide +kernel
def iX6_copyFrom : List (Nat × Instr × Nat) := [(0, .aload_n 0, 1), (1, .aload_n 1, 1), (2, .getfield 26, 3), (5, .putfield 26, 3), (8, .iconst 0, 1), (9, .istore_n 2, 1), (10, .iload_n 2, 1), (11, .aload_n 0, 1), (12, .getfield 26, 3), (15, .if_icmp .ge 16, 3), (18, .aload_n 0, 1), (19, .aload_n 1, 1), (20, .iload_n 2, 1), (21, .iload_n 2, 1), (22, .invokevirtual 72, 3), (25, .iinc 2 1, 3), (28, .goto (-18), 3), (31, .return_, 1)]
set_option maxRecDepth 100000 in
theorem kX6_copyFrom : ∀ q ∈ iX6_copyFrom, decode cX6_copyFrom q.1 = .ok q.2 := by decide +kernel
def iX6_copyEntry : List (Nat × Instr × Nat) := [(0, .aload_n 0, 1), (1, .iload_n 3, 1), (2, .aload_n 1, 1), (3, .iload_n 2, 1), (4, .invokevirtual 42, 3), (7, .aload_n 1, 1), (8, .iload_n 2, 1), (9, .invokevirtual 53, 3), (12, .aload_n 1, 1), (13, .iload_n 2, 1), (14, .invokevirtual 46, 3), (17, .aload_n 1, 1), (18, .iload_n 2, 1), (19, .invokevirtual 60, 3), (22, .invokevirtual 64, 3), (25, .return_, 1)]
set_option maxRecDepth 100000 in
theorem kX6_copyEntry : ∀ q ∈ iX6_copyEntry, decode cX6_copyEntry q.1 = .ok q.2 := by decide +kernel
def iX6_put : List (Nat × Instr × Nat) := [(0, .iload_n 1, 1), (1, .ifCond .lt 19, 3), (4, .iload_n 1, 1), (5, .aload_n 0, 1), (6, .getfield 9, 3), (9, .arraylength, 1), (10, .if_icmp .ge 10, 3), (13, .aload_n 0, 1), (14, .getfield 9, 3), (17, .iload_n 1, 1), (18, .iload_n 2, 1), (19, .castore, 1), (20, .aload_n 0, 1), (21, .getfield 15, 3), (24, .iload_n 1, 1), (25, .iload_n 3, 1), (26, .invokestatic 68, 3), (29, .aload_n 0, 1), (30, .getfield 19, 3), (33, .iload_n 1, 1), (34, .iload 4, 2), (36, .invokestatic 68, 3), (39, .aload_n 0, 1), (40, .getfield 22, 3), (43, .iload_n 1, 1), (44, .iload 5, 2), (46, .invokestatic 38, 3), (49, .return_, 1)]
set_option maxRecDepth 100000 in
theorem kX6_put : ∀ q ∈ iX6_put, decode cX6_put q.1 = .ok q.2 := by decide +kernel
def iX7_init : List (Nat × Instr × Nat) := [(0, .aload_n 0, 1), (1, .invokespecial 1, 3), (4, .aload_n 0, 1), (5, .new 7, 3), (8, .dup, 1), (9, .invokespecial 9, 3), (12, .putfield 10, 3), (15, .aload_n 0, 1), (16, .new 16, 3), (19, .dup, 1), (20, .invokespecial 18, 3), (23, .putfield 19, 3), (26, .aload_n 0, 1), (27, .new 23, 3), (30, .dup, 1), (31, .invokespecial 25, 3), (34, .putfield 26, 3), (37, .aload_n 0, 1), (38, .new 30, 3), (41, .dup, 1), (42, .invokespecial 32, 3), (45, .putfield 33, 3), (48, .aload_n 0, 1), (49, .new 37, 3), (52, .dup, 1), (53, .invokespecial 39, 3), (56, .putfield 40, 3), (59, .aload_n 0, 1), (60, .new 44, 3), (63, .dup, 1), (64, .invokespecial 46, 3), (67, .putfield 47, 3), (70, .aload_n 0, 1), (71, .new 44, 3), (74, .dup, 1), (75, .invokespecial 46, 3), (78, .putfield 51, 3), (81, .aload_n 0, 1), (82, .bipush 40, 2), (84, .putfield 54, 3), (87, .aload_n 0, 1), (88, .iconst 0, 1), (89, .putfield 58, 3), (92, .return_, 1)]
set_option maxRecDepth 100000 in
theorem kX7_init : ∀ q ∈ iX7_init, decode cX7_init q.1 = .ok q.2 := by decide +kernel
def iX7_addName : List (Nat × Instr × Nat) := [(0, .iload_n 1, 1), (1, .invokestatic 62, 3), (4, .iload_n 2, 1), (5, .invokestatic 66, 3), (8, .aload_n 0, 1), (9, .bipush 110, 2), (11, .iload_n 1, 1), (12, .iload_n 2, 1), (13, .invokevirtual 69, 3), (16, .ireturn, 1)]
set_option maxRecDepth 100000 in
theorem kX7_addName : ∀ q ∈ iX7_addName, decode cX7_addName q.1 = .ok q.2 := by decide +kernel
def iX7_addComment : List (Nat × Instr × Nat) := [(0, .iload_n 1, 1), (1, .invokestatic 66, 3), (4, .aload_n 0, 1), (5, .bipush 99, 2), (7, .iconst 0, 1), (8, .iload_n 1, 1), (9, .invokevirtual 69, 3), (12, .ireturn, 1)]
set_option maxRecDepth 100000 in
theorem kX7_addComment : ∀ q ∈ iX7_addComment, decode cX7_addComment q.1 = .ok q.2 := by decide +kernel
def iX7_begin : List (Nat × Instr × Nat) := [(0, .aload_n 0, 1), (1, .getfield 10, 3), (4, .aload_n 0, 1), (5, .bipush 123, 2), (7, .iconst 0, 1), (8, .iconst 1, 1), (9, .invokevirtual 69, 3), (12, .invokevirtual 73, 3), (15, .ireturn, 1)]
set_option maxRecDepth 100000 in
theorem kX7_begin : ∀ q ∈ iX7_begin, decode cX7_begin q.1 = .ok q.2 := by decide +kernel
def iX7_end : List (Nat × Instr × Nat) := [(0, .aload_n 0, 1), (1, .getfield 10, 3), (4, .aload_n 0, 1), (5, .getfield 10, 3), (8, .invokevirtual 77, 3), (11, .invokevirtual 81, 3), (14, .ifCond .gt 13, 3), (17, .new 84, 3), (20, .dup, 1), (21, .ldc 86, 2), (23, .invokespecial 88, 3), (26, .athrow, 1), (27, .aload_n 0, 1), (28, .getfield 10, 3), (31, .aload_n 0, 1), (32, .bipush 125, 2), (34, .iconst 0, 1), (35, .iconst 1, 1), (36, .invokevirtual 69, 3), (39, .invokevirtual 73, 3), (42, .ireturn, 1)]
set_option maxRecDepth 100000 in
theorem kX7_end : ∀ q ∈ iX7_end, decode cX7_end q.1 = .ok q.2 := by decide +kernel
def iX7_entries : List (Nat × Instr × Nat) := [(0, .aload_n 0, 1), (1, .getfield 10, 3), (4, .invokevirtual 77, 3), (7, .ireturn, 1)]
set_option maxRecDepth 100000 in
theorem kX7_entries : ∀ q ∈ iX7_entries, decode cX7_entries q.1 = .ok q.2 := by decide +kernel
def iX7_kindOf : List (Nat × Instr × Nat) := [(0, .aload_n 0, 1), (1, .iload_n 1, 1), (2, .invokevirtual 91, 3), (5, .aload_n 0, 1), (6, .getfield 10, 3), (9, .iload_n 1, 1), (10, .invokevirtual 94, 3), (13, .ireturn, 1)]
set_option maxRecDepth 100000 in
theorem kX7_kindOf : ∀ q ∈ iX7_kindOf, decode cX7_kindOf q.1 = .ok q.2 := by decide +kernel
def iX7_nameOf : List (Nat × Instr × Nat) := [(0, .aload_n 0, 1), (1, .iload_n 1, 1), (2, .invokevirtual 91, 3), (5, .aload_n 0, 1), (6, .getfield 10, 3), (9, .iload_n 1, 1), (10, .invokevirtual 94, 3), (13, .bipush 110, 2), (15, .if_icmp .eq 13, 3), (18, .new 84, 3), (21, .dup, 1), (22, .ldc 98, 2), (24, .invokespecial 88, 3), (27, .athrow, 1), (28, .aload_n 0, 1), (29, .getfield 10, 3), (32, .iload_n 1, 1), (33, .invokevirtual 100, 3), (36, .ireturn, 1)]
set_option maxRecDepth 100000 in
theorem kX7_nameOf : ∀ q ∈ iX7_nameOf, decode cX7_nameOf q.1 = .ok q.2 := by decide +kernel
def iX7_widthOf : List (Nat × Instr × Nat) := [(0, .aload_n 0, 1), (1, .iload_n 1, 1), (2, .invokevirtual 91, 3), (5, .aload_n 0, 1), (6, .getfield 10, 3), (9, .iload_n 1, 1), (10, .invokevirtual 103, 3), (13, .ireturn, 1)]
set_option maxRecDepth 100000 in
theorem kX7_widthOf : ∀ q ∈ iX7_widthOf, decode cX7_widthOf q.1 = .ok q.2 := by decide +kernel
def iX7_depthOf : List (Nat × Instr × Nat) := [(0, .aload_n 0, 1), (1, .iload_n 1, 1), (2, .invokevirtual 91, 3), (5, .aload_n 0, 1), (6, .getfield 10, 3), (9, .iload_n 1, 1), (10, .invokevirtual 73, 3), (13, .ireturn, 1)]
set_option maxRecDepth 100000 in
theorem kX7_depthOf : ∀ q ∈ iX7_depthOf, decode cX7_depthOf q.1 = .ok q.2 := by decide +kernel
def iX7_occurrences : List (Nat × Instr × Nat) := [(0, .iload_n 1, 1), (1, .invokestatic 62, 3), (4, .aload_n 0, 1), (5, .getfield 10, 3), (8, .iload_n 1, 1), (9, .invokevirtual 106, 3), (12, .ireturn, 1)]
set_option maxRecDepth 100000 in
theorem kX7_occurrences : ∀ q ∈ iX7_occurrences, decode cX7_occurrences q.1 = .ok q.2 := by decide +kernel
def iX7_commonest : List (Nat × Instr × Nat) := [(0, .iconst 0, 1), (1, .istore_n 1, 1), (2, .iconst 0, 1), (3, .istore_n 2, 1), (4, .iconst 0, 1), (5, .istore_n 3, 1), (6, .iload_n 3, 1), (7, .bipush 100, 2), (9, .if_icmp .ge 30, 3), (12, .aload_n 0, 1), (13, .getfield 10, 3), (16, .iload_n 3, 1), (17, .invokevirtual 106, 3), (20, .istore 4, 2), (22, .iload 4, 2), (24, .iload_n 1, 1), (25, .if_icmp .le 8, 3), (28, .iload 4, 2), (30, .istore_n 1, 1), (31, .iload_n 3, 1), (32, .istore_n 2, 1), (33, .iinc 3 1, 3), (36, .goto (-30), 3), (39, .iload_n 1, 1), (40, .ifCond .ne 13, 3), (43, .new 109, 3), (46, .dup, 1), (47, .ldc 111, 2), (49, .invokespecial 113, 3), (52, .athrow, 1), (53, .iload_n 2, 1), (54, .ireturn, 1)]
set_option maxRecDepth 100000 in
theorem kX7_commonest : ∀ q ∈ iX7_commonest, decode cX7_commonest q.1 = .ok q.2 := by decide +kernel
def iX7_pin : List (Nat × Instr × Nat) := [(0, .aload_n 0, 1), (1, .iload_n 1, 1), (2, .invokevirtual 91, 3), (5, .aload_n 0, 1), (6, .iload_n 2, 1), (7, .invokevirtual 91, 3), (10, .iload_n 2, 1), (11, .iload_n 1, 1), (12, .if_icmp .ge 13, 3), (15, .new 114, 3), (18, .dup, 1), (19, .ldc 116, 2), (21, .invokespecial 118, 3), (24, .athrow, 1), (25, .iconst 0, 1), (26, .istore 4, 2), (28, .iload_n 1, 1), (29, .istore 5, 2), (31, .iload 5, 2), (33, .iload_n 2, 1), (34, .if_icmp .gt 35, 3), (37, .aload_n 0, 1), (38, .getfield 10, 3), (41, .iload 5, 2), (43, .invokevirtual 119, 3), (46, .iload_n 3, 1), (47, .if_icmp .eq 16, 3), (50, .aload_n 0, 1), (51, .getfield 10, 3), (54, .iload 5, 2), (56, .iload_n 3, 1), (57, .invokevirtual 123, 3), (60, .iinc 4 1, 3), (63, .iinc 5 1, 3), (66, .goto (-35), 3), (69, .aload_n 0, 1), (70, .iconst 0, 1), (71, .putfield 58, 3), (74, .iload 4, 2), (76, .ireturn, 1)]
set_option maxRecDepth 100000 in
theorem kX7_pin : ∀ q ∈ iX7_pin, decode cX7_pin q.1 = .ok q.2 := by decide +kernel
def iX7_isPinned : List (Nat × Instr × Nat) := [(0, .aload_n 0, 1), (1, .iload_n 1, 1), (2, .invokevirtual 91, 3), (5, .aload_n 0, 1), (6, .getfield 10, 3), (9, .iload_n 1, 1), (10, .invokevirtual 119, 3), (13, .ireturn, 1)]
set_option maxRecDepth 100000 in
theorem kX7_isPinned : ∀ q ∈ iX7_isPinned, decode cX7_isPinned q.1 = .ok q.2 := by decide +kernel
def iX7_findings : List (Nat × Instr × Nat) := [(0, .aload_n 0, 1), (1, .getfield 33, 3), (4, .aload_n 0, 1), (5, .getfield 10, 3), (8, .aload_n 0, 1), (9, .getfield 19, 3), (12, .invokevirtual 127, 3), (15, .aload_n 0, 1), (16, .getfield 33, 3), (19, .invokevirtual 131, 3), (22, .ireturn, 1)]
set_option maxRecDepth 100000 in
theorem kX7_findings : ∀ q ∈ iX7_findings, decode cX7_findings q.1 = .ok q.2 := by decide +kernel
def iX7_ruleOf : List (Nat × Instr × Nat) := [(0, .aload_n 0, 1), (1, .iload_n 1, 1), (2, .invokevirtual 134, 3), (5, .aload_n 0, 1), (6, .getfield 33, 3), (9, .iload_n 1, 1), (10, .invokevirtual 137, 3), (13, .ireturn, 1)]
set_option maxRecDepth 100000 in
theorem kX7_ruleOf : ∀ q ∈ iX7_ruleOf, decode cX7_ruleOf q.1 = .ok q.2 := by decide +kernel
def iX7_firstOf : List (Nat × Instr × Nat) := [(0, .aload_n 0, 1), (1, .iload_n 1, 1), (2, .invokevirtual 134, 3), (5, .aload_n 0, 1), (6, .getfield 33, 3), (9, .iload_n 1, 1), (10, .invokevirtual 140, 3), (13, .ireturn, 1)]
set_option maxRecDepth 100000 in
theorem kX7_firstOf : ∀ q ∈ iX7_firstOf, decode cX7_firstOf q.1 = .ok q.2 := by decide +kernel
def iX7_lastOf : List (Nat × Instr × Nat) := [(0, .aload_n 0, 1), (1, .iload_n 1, 1), (2, .invokevirtual 134, 3), (5, .aload_n 0, 1), (6, .getfield 33, 3), (9, .iload_n 1, 1), (10, .invokevirtual 143, 3), (13, .ireturn, 1)]
set_option maxRecDepth 100000 in
theorem kX7_lastOf : ∀ q ∈ iX7_lastOf, decode cX7_lastOf q.1 = .ok q.2 := by decide +kernel
def iX7_canFix : List (Nat × Instr × Nat) := [(0, .aload_n 0, 1), (1, .iload_n 1, 1), (2, .invokevirtual 134, 3), (5, .aload_n 0, 1), (6, .getfield 33, 3), (9, .iload_n 1, 1), (10, .invokevirtual 146, 3), (13, .ifCond .le 7, 3), (16, .iconst 1, 1), (17, .goto 4, 3), (20, .iconst 0, 1), (21, .ireturn, 1)]
set_option maxRecDepth 100000 in
theorem kX7_canFix : ∀ q ∈ iX7_canFix, decode cX7_canFix q.1 = .ok q.2 := by decide +kernel
def iX7_best : List (Nat × Instr × Nat) := [(0, .aload_n 0, 1), (1, .invokevirtual 149, 3), (4, .aload_n 0, 1), (5, .getfield 40, 3), (8, .invokevirtual 152, 3), (11, .ireturn, 1)]
set_option maxRecDepth 100000 in
theorem kX7_best : ∀ q ∈ iX7_best, decode cX7_best q.1 = .ok q.2 := by decide +kernel
def iX7_bestByTrying : List (Nat × Instr × Nat) := [(0, .aload_n 0, 1), (1, .getfield 33, 3), (4, .aload_n 0, 1), (5, .getfield 10, 3), (8, .aload_n 0, 1), (9, .getfield 19, 3), (12, .invokevirtual 127, 3), (15, .aload_n 0, 1), (16, .getfield 33, 3), (19, .invokevirtual 155, 3), (22, .bipush 12, 2), (24, .if_icmp .le 13, 3), (27, .new 158, 3), (30, .dup, 1), (31, .ldc 160, 2), (33, .invokespecial 162, 3), (36, .athrow, 1), (37, .aload_n 0, 1), (38, .getfield 33, 3), (41, .iconst 0, 1), (42, .iconst 0, 1), (43, .invokestatic 163, 3), (46, .ireturn, 1)]
set_option maxRecDepth 100000 in
theorem kX7_bestByTrying : ∀ q ∈ iX7_bestByTrying, decode cX7_bestByTrying q.1 = .ok q.2 := by decide +kernel
def iX7_isInBest : List (Nat × Instr × Nat) := [(0, .aload_n 0, 1), (1, .iload_n 1, 1), (2, .invokevirtual 134, 3), (5, .aload_n 0, 1), (6, .getfield 40, 3), (9, .aload_n 0, 1), (10, .getfield 33, 3), (13, .invokevirtual 167, 3), (16, .aload_n 0, 1), (17, .getfield 40, 3), (20, .iload_n 1, 1), (21, .invokevirtual 171, 3), (24, .ireturn, 1)]
set_option maxRecDepth 100000 in
theorem kX7_isInBest : ∀ q ∈ iX7_isInBest, decode cX7_isInBest q.1 = .ok q.2 := by decide +kernel
def iX7_fix : List (Nat × Instr × Nat) := [(0, .aload_n 0, 1), (1, .iload_n 1, 1), (2, .invokevirtual 134, 3), (5, .aload_n 0, 1), (6, .getfield 33, 3), (9, .iload_n 1, 1), (10, .invokevirtual 146, 3), (13, .ifCond .gt 13, 3), (16, .new 158, 3), (19, .dup, 1), (20, .ldc 174, 2), (22, .invokespecial 162, 3), (25, .athrow, 1), (26, .aload_n 0, 1), (27, .invokevirtual 176, 3), (30, .aload_n 0, 1), (31, .iload_n 1, 1), (32, .invokevirtual 179, 3), (35, .aload_n 0, 1), (36, .getfield 10, 3), (39, .invokevirtual 77, 3), (42, .ireturn, 1)]
set_option maxRecDepth 100000 in
theorem kX7_fix : ∀ q ∈ iX7_fix, decode cX7_fix q.1 = .ok q.2 := by decide +kernel
def iX7_fixBest : List (Nat × Instr × Nat) := [(0, .aload_n 0, 1), (1, .invokevirtual 149, 3), (4, .aload_n 0, 1), (5, .getfield 33, 3), (8, .invokevirtual 155, 3), (11, .ifCond .ne 13, 3), (14, .new 84, 3), (17, .dup, 1), (18, .ldc 182, 2), (20, .invokespecial 88, 3), (23, .athrow, 1), (24, .aload_n 0, 1), (25, .invokevirtual 176, 3), (28, .iconst 0, 1), (29, .istore_n 1, 1), (30, .aload_n 0, 1), (31, .getfield 33, 3), (34, .invokevirtual 131, 3), (37, .iconst 1, 1), (38, .isub, 1), (39, .istore_n 2, 1), (40, .iload_n 2, 1), (41, .ifCond .lt 28, 3), (44, .aload_n 0, 1), (45, .getfield 40, 3), (48, .iload_n 2, 1), (49, .invokevirtual 171, 3), (52, .ifCond .eq 11, 3), (55, .aload_n 0, 1), (56, .iload_n 2, 1), (57, .invokevirtual 179, 3), (60, .iinc 1 1, 3), (63, .iinc 2 (-1), 3), (66, .goto (-26), 3), (69, .iload_n 1, 1), (70, .ireturn, 1)]
set_option maxRecDepth 100000 in
theorem kX7_fixBest : ∀ q ∈ iX7_fixBest, decode cX7_fixBest q.1 = .ok q.2 := by decide +kernel
def iX7_rename : List (Nat × Instr × Nat) := [(0, .iload_n 1, 1), (1, .invokestatic 62, 3), (4, .iload_n 2, 1), (5, .invokestatic 62, 3), (8, .iload_n 1, 1), (9, .iload_n 2, 1), (10, .if_icmp .ne 13, 3), (13, .new 114, 3), (16, .dup, 1), (17, .ldc 184, 2), (19, .invokespecial 118, 3), (22, .athrow, 1), (23, .aload_n 0, 1), (24, .getfield 10, 3), (27, .iload_n 1, 1), (28, .invokevirtual 106, 3), (31, .istore_n 3, 1), (32, .iload_n 3, 1), (33, .ifCond .ne 13, 3), (36, .new 109, 3), (39, .dup, 1), (40, .ldc 186, 2), (42, .invokespecial 113, 3), (45, .athrow, 1), (46, .aload_n 0, 1), (47, .getfield 10, 3), (50, .iload_n 1, 1), (51, .invokevirtual 188, 3), (54, .ifCond .ne 14, 3), (57, .aload_n 0, 1), (58, .getfield 10, 3), (61, .iload_n 2, 1), (62, .invokevirtual 106, 3), (65, .ifCond .le 13, 3), (68, .new 158, 3), (71, .dup, 1), (72, .ldc 191, 2), (74, .invokespecial 162, 3), (77, .athrow, 1), (78, .aload_n 0, 1), (79, .invokevirtual 176, 3), (82, .aload_n 0, 1), (83, .getfield 10, 3), (86, .iload_n 1, 1), (87, .iload_n 2, 1), (88, .invokevirtual 193, 3), (91, .iload_n 3, 1), (92, .ireturn, 1)]
set_option maxRecDepth 100000 in
theorem kX7_rename : ∀ q ∈ iX7_rename, decode cX7_rename q.1 = .ok q.2 := by decide +kernel
def iX7_move : List (Nat × Instr × Nat) := [(0, .aload_n 0, 1), (1, .iload_n 1, 1), (2, .invokevirtual 91, 3), (5, .aload_n 0, 1), (6, .iload_n 2, 1), (7, .invokevirtual 91, 3), (10, .iload_n 1, 1), (11, .iload_n 2, 1), (12, .if_icmp .ne 13, 3), (15, .new 114, 3), (18, .dup, 1), (19, .ldc 197, 2), (21, .invokespecial 118, 3), (24, .athrow, 1), (25, .aload_n 0, 1), (26, .getfield 10, 3), (29, .iload_n 1, 1), (30, .iload_n 2, 1), (31, .invokestatic 199, 3), (34, .iload_n 1, 1), (35, .iload_n 2, 1), (36, .invokestatic 205, 3), (39, .invokevirtual 208, 3), (42, .ifCond .ne 13, 3), (45, .new 158, 3), (48, .dup, 1), (49, .ldc 212, 2), (51, .invokespecial 162, 3), (54, .athrow, 1), (55, .aload_n 0, 1), (56, .invokevirtual 176, 3), (59, .aload_n 0, 1), (60, .getfield 10, 3), (63, .iload_n 1, 1), (64, .iload_n 2, 1), (65, .invokevirtual 214, 3), (68, .iload_n 1, 1), (69, .iload_n 2, 1), (70, .invokestatic 205, 3), (73, .iload_n 1, 1), (74, .iload_n 2, 1), (75, .invokestatic 199, 3), (78, .isub, 1), (79, .ireturn, 1)]
set_option maxRecDepth 100000 in
theorem kX7_move : ∀ q ∈ iX7_move, decode cX7_move q.1 = .ok q.2 := by decide +kernel
def iX7_undo : List (Nat × Instr × Nat) := [(0, .aload_n 0, 1), (1, .getfield 26, 3), (4, .invokevirtual 217, 3), (7, .ifCond .ne 13, 3), (10, .new 84, 3), (13, .dup, 1), (14, .ldc 218, 2), (16, .invokespecial 88, 3), (19, .athrow, 1), (20, .aload_n 0, 1), (21, .getfield 26, 3), (24, .aload_n 0, 1), (25, .getfield 10, 3), (28, .aload_n 0, 1), (29, .getfield 19, 3), (32, .invokevirtual 220, 3), (35, .aload_n 0, 1), (36, .iconst 0, 1), (37, .putfield 58, 3), (40, .aload_n 0, 1), (41, .getfield 26, 3), (44, .invokevirtual 217, 3), (47, .ireturn, 1)]
set_option maxRecDepth 100000 in
theorem kX7_undo : ∀ q ∈ iX7_undo, decode cX7_undo q.1 = .ok q.2 := by decide +kernel
def iX7_weight : List (Nat × Instr × Nat) := [(0, .iload_n 1, 1), (1, .invokestatic 223, 3), (4, .aload_n 0, 1), (5, .getfield 19, 3), (8, .iload_n 1, 1), (9, .invokevirtual 226, 3), (12, .ireturn, 1)]
set_option maxRecDepth 100000 in
theorem kX7_weight : ∀ q ∈ iX7_weight, decode cX7_weight q.1 = .ok q.2 := by decide +kernel
def iX7_ruleAt : List (Nat × Instr × Nat) := [(0, .iconst 0, 1), (1, .istore_n 2, 1), (2, .iload_n 2, 1), (3, .iconst 5, 1), (4, .if_icmp .ge 23, 3), (7, .aload_n 0, 1), (8, .getfield 19, 3), (11, .iload_n 2, 1), (12, .invokevirtual 229, 3), (15, .iload_n 1, 1), (16, .if_icmp .ne 5, 3), (19, .iload_n 2, 1), (20, .ireturn, 1), (21, .iinc 2 1, 3), (24, .goto (-22), 3), (27, .new 109, 3), (30, .dup, 1), (31, .ldc 232, 2), (33, .invokespecial 113, 3), (36, .athrow, 1)]
set_option maxRecDepth 100000 in
theorem kX7_ruleAt : ∀ q ∈ iX7_ruleAt, decode cX7_ruleAt q.1 = .ok q.2 := by decide +kernel
def iX7_undone : List (Nat × Instr × Nat) := [(0, .iload_n 1, 1), (1, .invokestatic 223, 3), (4, .aload_n 0, 1), (5, .getfield 19, 3), (8, .iload_n 1, 1), (9, .invokevirtual 234, 3), (12, .i2l, 1), (13, .lreturn, 1)]
set_option maxRecDepth 100000 in
theorem kX7_undone : ∀ q ∈ iX7_undone, decode cX7_undone q.1 = .ok q.2 := by decide +kernel
def iX7_undoneShare : List (Nat × Instr × Nat) := [(0, .aload_n 0, 1), (1, .getfield 19, 3), (4, .invokevirtual 237, 3), (7, .i2f, 1), (8, .fstore_n 1, 1), (9, .fload_n 1, 1), (10, .fconst 0, 1), (11, .fcmp .g, 1), (12, .ifCond .gt 13, 3), (15, .new 240, 3), (18, .dup, 1), (19, .ldc 242, 2), (21, .invokespecial 244, 3), (24, .athrow, 1), (25, .aload_n 0, 1), (26, .getfield 19, 3), (29, .invokevirtual 245, 3), (32, .i2f, 1), (33, .fload_n 1, 1), (34, .fdiv, 1), (35, .freturn, 1)]
set_option maxRecDepth 100000 in
theorem kX7_undoneShare : ∀ q ∈ iX7_undoneShare, decode cX7_undoneShare q.1 = .ok q.2 := by decide +kernel
def iX7_setWidth : List (Nat × Instr × Nat) := [(0, .iload_n 1, 1), (1, .bipush 13, 2), (3, .if_icmp .lt 9, 3), (6, .iload_n 1, 1), (7, .bipush 60, 2), (9, .if_icmp .le 13, 3), (12, .new 114, 3), (15, .dup, 1), (16, .ldc 248, 2), (18, .invokespecial 118, 3), (21, .athrow, 1), (22, .aload_n 0, 1), (23, .getfield 54, 3), (26, .istore_n 2, 1), (27, .aload_n 0, 1), (28, .iload_n 1, 1), (29, .putfield 54, 3), (32, .aload_n 0, 1), (33, .iconst 0, 1), (34, .putfield 58, 3), (37, .iload_n 2, 1), (38, .ireturn, 1)]
set_option maxRecDepth 100000 in
theorem kX7_setWidth : ∀ q ∈ iX7_setWidth, decode cX7_setWidth q.1 = .ok q.2 := by decide +kernel
def iX7_layOut : List (Nat × Instr × Nat) := [(0, .aload_n 0, 1), (1, .getfield 47, 3), (4, .aload_n 0, 1), (5, .getfield 10, 3), (8, .aload_n 0, 1), (9, .getfield 54, 3), (12, .invokevirtual 250, 3), (15, .aload_n 0, 1), (16, .iconst 1, 1), (17, .putfield 58, 3), (20, .aload_n 0, 1), (21, .getfield 47, 3), (24, .invokevirtual 254, 3), (27, .ireturn, 1)]
set_option maxRecDepth 100000 in
theorem kX7_layOut : ∀ q ∈ iX7_layOut, decode cX7_layOut q.1 = .ok q.2 := by decide +kernel
def iX7_isLaidOut : List (Nat × Instr × Nat) := [(0, .aload_n 0, 1), (1, .getfield 58, 3), (4, .ireturn, 1)]
set_option maxRecDepth 100000 in
theorem kX7_isLaidOut : ∀ q ∈ iX7_isLaidOut, decode cX7_isLaidOut q.1 = .ok q.2 := by decide +kernel
def iX7_cost : List (Nat × Instr × Nat) := [(0, .aload_n 0, 1), (1, .getfield 51, 3), (4, .aload_n 0, 1), (5, .getfield 10, 3), (8, .aload_n 0, 1), (9, .getfield 54, 3), (12, .invokevirtual 250, 3), (15, .aload_n 0, 1), (16, .getfield 51, 3), (19, .invokevirtual 257, 3), (22, .ireturn, 1)]
set_option maxRecDepth 100000 in
theorem kX7_cost : ∀ q ∈ iX7_cost, decode cX7_cost q.1 = .ok q.2 := by decide +kernel
def iX7_costByTrying : List (Nat × Instr × Nat) := [(0, .aload_n 0, 1), (1, .getfield 10, 3), (4, .invokevirtual 77, 3), (7, .bipush 12, 2), (9, .if_icmp .le 14, 3), (12, .new 158, 3), (15, .dup, 1), (16, .ldc_w 260, 3), (19, .invokespecial 162, 3), (22, .athrow, 1), (23, .aload_n 0, 1), (24, .getfield 10, 3), (27, .aload_n 0, 1), (28, .getfield 54, 3), (31, .iconst 0, 1), (32, .invokestatic 262, 3), (35, .ireturn, 1)]
set_option maxRecDepth 100000 in
theorem kX7_costByTrying : ∀ q ∈ iX7_costByTrying, decode cX7_costByTrying q.1 = .ok q.2 := by decide +kernel
def iX7_lineOf : List (Nat × Instr × Nat) := [(0, .aload_n 0, 1), (1, .iload_n 1, 1), (2, .invokevirtual 91, 3), (5, .aload_n 0, 1), (6, .invokevirtual 266, 3), (9, .aload_n 0, 1), (10, .getfield 47, 3), (13, .iload_n 1, 1), (14, .invokevirtual 269, 3), (17, .ireturn, 1)]
set_option maxRecDepth 100000 in
theorem kX7_lineOf : ∀ q ∈ iX7_lineOf, decode cX7_lineOf q.1 = .ok q.2 := by decide +kernel
def iX7_lineWidth : List (Nat × Instr × Nat) := [(0, .aload_n 0, 1), (1, .invokevirtual 266, 3), (4, .iload_n 1, 1), (5, .ifCond .lt 14, 3), (8, .iload_n 1, 1), (9, .aload_n 0, 1), (10, .getfield 47, 3), (13, .invokevirtual 254, 3), (16, .if_icmp .lt 14, 3), (19, .new 109, 3), (22, .dup, 1), (23, .ldc_w 272, 3), (26, .invokespecial 113, 3), (29, .athrow, 1), (30, .aload_n 0, 1), (31, .getfield 47, 3), (34, .aload_n 0, 1), (35, .getfield 10, 3), (38, .iload_n 1, 1), (39, .invokevirtual 274, 3), (42, .ireturn, 1)]
set_option maxRecDepth 100000 in
theorem kX7_lineWidth : ∀ q ∈ iX7_lineWidth, decode cX7_lineWidth q.1 = .ok q.2 := by decide +kernel
def iX7_meanWidth : List (Nat × Instr × Nat) := [(0, .aload_n 0, 1), (1, .getfield 10, 3), (4, .invokevirtual 77, 3), (7, .i2d, 1), (8, .dstore_n 1, 1), (9, .dload_n 1, 1), (10, .dconst 0, 1), (11, .dcmp .g, 1), (12, .ifCond .gt 14, 3), (15, .new 240, 3), (18, .dup, 1), (19, .ldc_w 278, 3), (22, .invokespecial 244, 3), (25, .athrow, 1), (26, .iconst 0, 1), (27, .istore_n 3, 1), (28, .iconst 0, 1), (29, .istore 4, 2), (31, .iload 4, 2), (33, .aload_n 0, 1), (34, .getfield 10, 3), (37, .invokevirtual 77, 3), (40, .if_icmp .ge 21, 3), (43, .iload_n 3, 1), (44, .aload_n 0, 1), (45, .getfield 10, 3), (48, .iload 4, 2), (50, .invokevirtual 103, 3), (53, .iadd, 1), (54, .istore_n 3, 1), (55, .iinc 4 1, 3), (58, .goto (-27), 3), (61, .iload_n 3, 1), (62, .i2d, 1), (63, .dload_n 1, 1), (64, .ddiv, 1), (65, .dreturn, 1)]
set_option maxRecDepth 100000 in
theorem kX7_meanWidth : ∀ q ∈ iX7_meanWidth, decode cX7_meanWidth q.1 = .ok q.2 := by decide +kernel
def iX7_isTidy : List (Nat × Instr × Nat) := [(0, .aload_n 0, 1), (1, .getfield 51, 3), (4, .aload_n 0, 1), (5, .getfield 10, 3), (8, .aload_n 0, 1), (9, .getfield 54, 3), (12, .invokevirtual 250, 3), (15, .aload_n 0, 1), (16, .getfield 58, 3), (19, .ifCond .eq 12, 3), (22, .aload_n 0, 1), (23, .invokevirtual 280, 3), (26, .ifCond .ne 5, 3), (29, .iconst 0, 1), (30, .ireturn, 1), (31, .aload_n 0, 1), (32, .getfield 10, 3), (35, .invokevirtual 77, 3), (38, .bipush 12, 2), (40, .if_icmp .gt 27, 3), (43, .aload_n 0, 1), (44, .getfield 10, 3), (47, .aload_n 0, 1), (48, .getfield 54, 3), (51, .iconst 0, 1), (52, .invokestatic 262, 3), (55, .aload_n 0, 1), (56, .getfield 51, 3), (59, .invokevirtual 257, 3), (62, .if_icmp .eq 5, 3), (65, .iconst 0, 1), (66, .ireturn, 1), (67, .aload_n 0, 1), (68, .invokevirtual 149, 3), (71, .aload_n 0, 1), (72, .getfield 40, 3), (75, .aload_n 0, 1), (76, .getfield 33, 3), (79, .invokevirtual 284, 3), (82, .ifCond .eq 5, 3), (85, .iconst 0, 1), (86, .ireturn, 1), (87, .aload_n 0, 1), (88, .getfield 33, 3), (91, .invokevirtual 155, 3), (94, .bipush 12, 2), (96, .if_icmp .gt 22, 3), (99, .aload_n 0, 1), (100, .getfield 33, 3), (103, .iconst 0, 1), (104, .iconst 0, 1), (105, .invokestatic 163, 3), (108, .aload_n 0, 1), (109, .getfield 40, 3), (112, .invokevirtual 152, 3), (115, .if_icmp .ne 7, 3), (118, .iconst 1, 1), (119, .goto 4, 3), (122, .iconst 0, 1), (123, .ireturn, 1)]
set_option maxRecDepth 100000 in
theorem kX7_isTidy : ∀ q ∈ iX7_isTidy, decode cX7_isTidy q.1 = .ok q.2 := by decide +kernel
def iX7_needName : List (Nat × Instr × Nat) := [(0, .iload_n 0, 1), (1, .ifCond .lt 9, 3), (4, .iload_n 0, 1), (5, .bipush 100, 2), (7, .if_icmp .lt 14, 3), (10, .new 114, 3), (13, .dup, 1), (14, .ldc_w 288, 3), (17, .invokespecial 118, 3), (20, .athrow, 1), (21, .return_, 1)]
set_option maxRecDepth 100000 in
theorem kX7_needName : ∀ q ∈ iX7_needName, decode cX7_needName q.1 = .ok q.2 := by decide +kernel
def iX7_needLength : List (Nat × Instr × Nat) := [(0, .iload_n 0, 1), (1, .iconst 1, 1), (2, .if_icmp .lt 9, 3), (5, .iload_n 0, 1), (6, .bipush 9, 2), (8, .if_icmp .le 14, 3), (11, .new 114, 3), (14, .dup, 1), (15, .ldc_w 290, 3), (18, .invokespecial 118, 3), (21, .athrow, 1), (22, .return_, 1)]
set_option maxRecDepth 100000 in
theorem kX7_needLength : ∀ q ∈ iX7_needLength, decode cX7_needLength q.1 = .ok q.2 := by decide +kernel
def iX7_needRule : List (Nat × Instr × Nat) := [(0, .iload_n 0, 1), (1, .ifCond .lt 8, 3), (4, .iload_n 0, 1), (5, .iconst 5, 1), (6, .if_icmp .lt 14, 3), (9, .new 114, 3), (12, .dup, 1), (13, .ldc_w 292, 3), (16, .invokespecial 118, 3), (19, .athrow, 1), (20, .return_, 1)]
set_option maxRecDepth 100000 in
theorem kX7_needRule : ∀ q ∈ iX7_needRule, decode cX7_needRule q.1 = .ok q.2 := by decide +kernel
def iX7_needEntry : List (Nat × Instr × Nat) := [(0, .iload_n 1, 1), (1, .ifCond .lt 14, 3), (4, .iload_n 1, 1), (5, .aload_n 0, 1), (6, .getfield 10, 3), (9, .invokevirtual 77, 3), (12, .if_icmp .lt 14, 3), (15, .new 294, 3), (18, .dup, 1), (19, .ldc_w 296, 3), (22, .invokespecial 298, 3), (25, .athrow, 1), (26, .return_, 1)]
set_option maxRecDepth 100000 in
theorem kX7_needEntry : ∀ q ∈ iX7_needEntry, decode cX7_needEntry q.1 = .ok q.2 := by decide +kernel
def iX7_needFinding : List (Nat × Instr × Nat) := [(0, .aload_n 0, 1), (1, .getfield 33, 3), (4, .aload_n 0, 1), (5, .getfield 10, 3), (8, .aload_n 0, 1), (9, .getfield 19, 3), (12, .invokevirtual 127, 3), (15, .iload_n 1, 1), (16, .ifCond .lt 14, 3), (19, .iload_n 1, 1), (20, .aload_n 0, 1), (21, .getfield 33, 3), (24, .invokevirtual 131, 3), (27, .if_icmp .lt 14, 3), (30, .new 109, 3), (33, .dup, 1), (34, .ldc_w 299, 3), (37, .invokespecial 113, 3), (40, .athrow, 1), (41, .return_, 1)]
set_option maxRecDepth 100000 in
theorem kX7_needFinding : ∀ q ∈ iX7_needFinding, decode cX7_needFinding q.1 = .ok q.2 := by decide +kernel
def iX7_needLayout : List (Nat × Instr × Nat) := [(0, .aload_n 0, 1), (1, .getfield 58, 3), (4, .ifCond .ne 14, 3), (7, .new 84, 3), (10, .dup, 1), (11, .ldc_w 301, 3), (14, .invokespecial 88, 3), (17, .athrow, 1), (18, .return_, 1)]
set_option maxRecDepth 100000 in
theorem kX7_needLayout : ∀ q ∈ iX7_needLayout, decode cX7_needLayout q.1 = .ok q.2 := by decide +kernel
def iX7_append : List (Nat × Instr × Nat) := [(0, .aload_n 0, 1), (1, .getfield 10, 3), (4, .invokevirtual 77, 3), (7, .bipush 30, 2), (9, .if_icmp .lt 14, 3), (12, .new 84, 3), (15, .dup, 1), (16, .ldc_w 303, 3), (19, .invokespecial 88, 3), (22, .athrow, 1), (23, .aload_n 0, 1), (24, .getfield 10, 3), (27, .iload_n 1, 1), (28, .iload_n 2, 1), (29, .iload_n 3, 1), (30, .invokevirtual 305, 3), (33, .aload_n 0, 1), (34, .getfield 26, 3), (37, .invokevirtual 309, 3), (40, .aload_n 0, 1), (41, .iconst 0, 1), (42, .putfield 58, 3), (45, .aload_n 0, 1), (46, .getfield 10, 3), (49, .invokevirtual 77, 3), (52, .iconst 1, 1), (53, .isub, 1), (54, .ireturn, 1)]
set_option maxRecDepth 100000 in
theorem kX7_append : ∀ q ∈ iX7_append, decode cX7_append q.1 = .ok q.2 := by decide +kernel
def iX7_startDeed : List (Nat × Instr × Nat) := [(0, .aload_n 0, 1), (1, .getfield 26, 3), (4, .aload_n 0, 1), (5, .getfield 10, 3), (8, .invokevirtual 312, 3), (11, .aload_n 0, 1), (12, .iconst 0, 1), (13, .putfield 58, 3), (16, .return_, 1)]
set_option maxRecDepth 100000 in
theorem kX7_startDeed : ∀ q ∈ iX7_startDeed, decode cX7_startDeed q.1 = .ok q.2 := by decide +kernel
def iX7_chooseBest : List (Nat × Instr × Nat) := [(0, .aload_n 0, 1), (1, .getfield 33, 3), (4, .aload_n 0, 1), (5, .getfield 10, 3), (8, .aload_n 0, 1), (9, .getfield 19, 3), (12, .invokevirtual 127, 3), (15, .aload_n 0, 1), (16, .getfield 40, 3), (19, .aload_n 0, 1), (20, .getfield 33, 3), (23, .invokevirtual 167, 3), (26, .return_, 1)]
set_option maxRecDepth 100000 in
theorem kX7_chooseBest : ∀ q ∈ iX7_chooseBest, decode cX7_chooseBest q.1 = .ok q.2 := by decide +kernel
def iX7_applyFix : List (Nat × Instr × Nat) := [(0, .aload_n 0, 1), (1, .getfield 33, 3), (4, .iload_n 1, 1), (5, .invokevirtual 137, 3), (8, .istore_n 2, 1), (9, .aload_n 0, 1), (10, .getfield 33, 3), (13, .iload_n 1, 1), (14, .invokevirtual 140, 3), (17, .istore_n 3, 1), (18, .iload_n 2, 1), (19, .tableswitch 88 0 3 #[29, 42, 63, 77], 29), (48, .aload_n 0, 1), (49, .getfield 10, 3), (52, .iload_n 3, 1), (53, .iconst 1, 1), (54, .iadd, 1), (55, .invokevirtual 316, 3), (58, .goto 67, 3), (61, .aload_n 0, 1), (62, .getfield 10, 3), (65, .iload_n 3, 1), (66, .iconst 1, 1), (67, .iadd, 1), (68, .invokevirtual 316, 3), (71, .aload_n 0, 1), (72, .getfield 10, 3), (75, .iload_n 3, 1), (76, .invokevirtual 316, 3), (79, .goto 46, 3), (82, .aload_n 0, 1), (83, .getfield 10, 3), (86, .iload_n 3, 1), (87, .iload_n 3, 1), (88, .iconst 1, 1), (89, .iadd, 1), (90, .invokevirtual 214, 3), (93, .goto 32, 3), (96, .aload_n 0, 1), (97, .getfield 10, 3), (100, .iload_n 3, 1), (101, .invokevirtual 319, 3), (104, .goto 21, 3), (107, .aload_n 0, 1), (108, .getfield 10, 3), (111, .iload_n 3, 1), (112, .iconst 2, 1), (113, .iadd, 1), (114, .invokevirtual 316, 3), (117, .aload_n 0, 1), (118, .getfield 10, 3), (121, .iload_n 3, 1), (122, .invokevirtual 316, 3), (125, .aload_n 0, 1), (126, .getfield 19, 3), (129, .iload_n 2, 1), (130, .invokevirtual 322, 3), (133, .aload_n 0, 1), (134, .getfield 26, 3), (137, .iload_n 2, 1), (138, .invokevirtual 325, 3), (141, .return_, 1)]
set_option maxRecDepth 100000 in
theorem kX7_applyFix : ∀ q ∈ iX7_applyFix, decode cX7_applyFix q.1 = .ok q.2 := by decide +kernel
def iX7_shownIsLikeTried : List (Nat × Instr × Nat) := [(0, .aload_n 0, 1), (1, .getfield 47, 3), (4, .aload_n 0, 1), (5, .getfield 10, 3), (8, .aload_n 0, 1), (9, .getfield 54, 3), (12, .invokevirtual 328, 3), (15, .aload_n 0, 1), (16, .getfield 51, 3), (19, .invokevirtual 257, 3), (22, .if_icmp .ne 28, 3), (25, .aload_n 0, 1), (26, .getfield 47, 3), (29, .aload_n 0, 1), (30, .getfield 51, 3), (33, .aload_n 0, 1), (34, .getfield 10, 3), (37, .invokevirtual 77, 3), (40, .invokevirtual 331, 3), (43, .ifCond .eq 7, 3), (46, .iconst 1, 1), (47, .goto 4, 3), (50, .iconst 0, 1), (51, .ireturn, 1)]
set_option maxRecDepth 100000 in
theorem kX7_shownIsLikeTried : ∀ q ∈ iX7_shownIsLikeTried, decode cX7_shownIsLikeTried q.1 = .ok q.2 := by decide +kernel
def iX7_costOfLine : List (Nat × Instr × Nat) := [(0, .iload_n 0, 1), (1, .iload_n 1, 1), (2, .if_icmp .le 10, 3), (5, .iload_n 0, 1), (6, .iload_n 1, 1), (7, .isub, 1), (8, .bipush 100, 2), (10, .imul, 1), (11, .ireturn, 1), (12, .iload_n 2, 1), (13, .ifCond .eq 7, 3), (16, .iconst 0, 1), (17, .goto 10, 3), (20, .iload_n 1, 1), (21, .iload_n 0, 1), (22, .isub, 1), (23, .iload_n 1, 1), (24, .iload_n 0, 1), (25, .isub, 1), (26, .imul, 1), (27, .ireturn, 1)]
set_option maxRecDepth 100000 in
theorem kX7_costOfLine : ∀ q ∈ iX7_costOfLine, decode cX7_costOfLine q.1 = .ok q.2 := by decide +kernel
def iX7_leastByTrying : List (Nat × Instr × Nat) := [(0, .iload_n 2, 1), (1, .aload_n 0, 1), (2, .invokevirtual 77, 3), (5, .if_icmp .ge 9, 3), (8, .iload_n 2, 1), (9, .bipush 12, 2), (11, .if_icmp .lt 5, 3), (14, .iconst 0, 1), (15, .ireturn, 1), (16, .ldc_w 335, 3), (19, .istore_n 3, 1), (20, .iconst (-1), 1), (21, .istore 4, 2), (23, .iload_n 2, 1), (24, .istore 5, 2), (26, .iload 5, 2), (28, .aload_n 0, 1), (29, .invokevirtual 77, 3), (32, .if_icmp .ge 76, 3), (35, .iload 4, 2), (37, .iconst 1, 1), (38, .aload_n 0, 1), (39, .iload 5, 2), (41, .invokevirtual 103, 3), (44, .iadd, 1), (45, .iadd, 1), (46, .istore 4, 2), (48, .aload_n 0, 1), (49, .iload 5, 2), (51, .invokevirtual 336, 3), (54, .ifCond .eq 48, 3), (57, .iload 5, 2), (59, .aload_n 0, 1), (60, .invokevirtual 77, 3), (63, .iconst 1, 1), (64, .isub, 1), (65, .if_icmp .ne 7, 3), (68, .iconst 1, 1), (69, .goto 4, 3), (72, .iconst 0, 1), (73, .istore 6, 2), (75, .iload 4, 2), (77, .iload_n 1, 1), (78, .iload 6, 2), (80, .invokestatic 339, 3), (83, .aload_n 0, 1), (84, .iload_n 1, 1), (85, .iload 5, 2), (87, .iconst 1, 1), (88, .iadd, 1), (89, .invokestatic 262, 3), (92, .iadd, 1), (93, .istore 7, 2), (95, .iload_n 3, 1), (96, .iload 7, 2), (98, .invokestatic 199, 3), (101, .istore_n 3, 1), (102, .iinc 5 1, 3), (105, .goto (-79), 3), (108, .iload_n 3, 1), (109, .ireturn, 1)]
set_option maxRecDepth 100000 in
theorem kX7_leastByTrying : ∀ q ∈ iX7_leastByTrying, decode cX7_leastByTrying q.1 = .ok q.2 := by decide +kernel
def iX7_mostByTrying : List (Nat × Instr × Nat) := [(0, .iload_n 1, 1), (1, .aload_n 0, 1), (2, .invokevirtual 131, 3), (5, .if_icmp .ge 9, 3), (8, .iload_n 1, 1), (9, .bipush 30, 2), (11, .if_icmp .lt 5, 3), (14, .iconst 0, 1), (15, .ireturn, 1), (16, .aload_n 0, 1), (17, .iload_n 1, 1), (18, .iconst 1, 1), (19, .iadd, 1), (20, .iload_n 2, 1), (21, .invokestatic 163, 3), (24, .istore_n 3, 1), (25, .aload_n 0, 1), (26, .iload_n 1, 1), (27, .invokevirtual 146, 3), (30, .ifCond .le 12, 3), (33, .aload_n 0, 1), (34, .iload_n 1, 1), (35, .invokevirtual 140, 3), (38, .iload_n 2, 1), (39, .if_icmp .ge 5, 3), (42, .iload_n 3, 1), (43, .ireturn, 1), (44, .aload_n 0, 1), (45, .iload_n 1, 1), (46, .invokevirtual 146, 3), (49, .aload_n 0, 1), (50, .iload_n 1, 1), (51, .iconst 1, 1), (52, .iadd, 1), (53, .aload_n 0, 1), (54, .iload_n 1, 1), (55, .invokevirtual 143, 3), (58, .iconst 1, 1), (59, .iadd, 1), (60, .invokestatic 163, 3), (63, .iadd, 1), (64, .istore 4, 2), (66, .iload_n 3, 1), (67, .iload 4, 2), (69, .invokestatic 205, 3), (72, .ireturn, 1)]
set_option maxRecDepth 100000 in
theorem kX7_mostByTrying : ∀ q ∈ iX7_mostByTrying, decode cX7_mostByTrying q.1 = .ok q.2 := by decide +kernel
def iX7_read : List (Nat × Instr × Nat) := [(0, .iload_n 1, 1), (1, .ifCond .lt 15, 3), (4, .iload_n 1, 1), (5, .aload_n 0, 1), (6, .arraylength, 1), (7, .if_icmp .ge 9, 3), (10, .aload_n 0, 1), (11, .iload_n 1, 1), (12, .iaload, 1), (13, .goto 4, 3), (16, .iconst 0, 1), (17, .ireturn, 1)]
set_option maxRecDepth 100000 in
theorem kX7_read : ∀ q ∈ iX7_read, decode cX7_read q.1 = .ok q.2 := by decide +kernel
def iX7_write : List (Nat × Instr × Nat) := [(0, .iload_n 1, 1), (1, .ifCond .lt 13, 3), (4, .iload_n 1, 1), (5, .aload_n 0, 1), (6, .arraylength, 1), (7, .if_icmp .ge 7, 3), (10, .aload_n 0, 1), (11, .iload_n 1, 1), (12, .iload_n 2, 1), (13, .iastore, 1), (14, .return_, 1)]
set_option maxRecDepth 100000 in
theorem kX7_write : ∀ q ∈ iX7_write, decode cX7_write q.1 = .ok q.2 := by decide +kernel
def iX7_readFlag : List (Nat × Instr × Nat) := [(0, .iload_n 1, 1), (1, .ifCond .lt 19, 3), (4, .iload_n 1, 1), (5, .aload_n 0, 1), (6, .arraylength, 1), (7, .if_icmp .ge 13, 3), (10, .aload_n 0, 1), (11, .iload_n 1, 1), (12, .baload, 1), (13, .ifCond .eq 7, 3), (16, .iconst 1, 1), (17, .goto 4, 3), (20, .iconst 0, 1), (21, .ireturn, 1)]
set_option maxRecDepth 100000 in
theorem kX7_readFlag : ∀ q ∈ iX7_readFlag, decode cX7_readFlag q.1 = .ok q.2 := by decide +kernel
def iX7_writeFlag : List (Nat × Instr × Nat) := [(0, .iload_n 1, 1), (1, .ifCond .lt 13, 3), (4, .iload_n 1, 1), (5, .aload_n 0, 1), (6, .arraylength, 1), (7, .if_icmp .ge 7, 3), (10, .aload_n 0, 1), (11, .iload_n 1, 1), (12, .iload_n 2, 1), (13, .bastore, 1), (14, .return_, 1)]
set_option maxRecDepth 100000 in
theorem kX7_writeFlag : ∀ q ∈ iX7_writeFlag, decode cX7_writeFlag q.1 = .ok q.2 := by decide +kernel
def iX8_init : List (Nat × Instr × Nat) := [(0, .aload_n 0, 1), (1, .invokespecial 1, 3), (4, .aload_n 0, 1), (5, .bipush 30, 2), (7, .newarray .char, 2), (9, .putfield 7, 3), (12, .aload_n 0, 1), (13, .bipush 30, 2), (15, .newarray .int, 2), (17, .putfield 13, 3), (20, .aload_n 0, 1), (21, .bipush 30, 2), (23, .newarray .int, 2), (25, .putfield 17, 3), (28, .aload_n 0, 1), (29, .bipush 30, 2), (31, .newarray .boolean, 2), (33, .putfield 20, 3), (36, .aload_n 0, 1), (37, .bipush 40, 2), (39, .putfield 24, 3), (42, .aload_n 0, 1), (43, .iconst 5, 1), (44, .newarray .int, 2), (46, .dup, 1), (47, .iconst 0, 1), (48, .bipush 10, 2), (50, .iastore, 1), (51, .dup, 1), (52, .iconst 1, 1), (53, .bipush 8, 2), (55, .iastore, 1), (56, .dup, 1), (57, .iconst 2, 1), (58, .bipush 6, 2), (60, .iastore, 1), (61, .dup, 1), (62, .iconst 3, 1), (63, .iconst 4, 1), (64, .iastore, 1), (65, .dup, 1), (66, .iconst 4, 1), (67, .iconst 5, 1), (68, .iastore, 1), (69, .putfield 28, 3), (72, .aload_n 0, 1), (73, .iconst 5, 1), (74, .newarray .long, 2), (76, .putfield 31, 3), (79, .aload_n 0, 1), (80, .bipush 30, 2), (82, .newarray .int, 2), (84, .putfield 35, 3), (87, .aload_n 0, 1), (88, .bipush 10, 2), (90, .newarray .int, 2), (92, .putfield 38, 3), (95, .aload_n 0, 1), (96, .sipush 300, 3), (99, .newarray .char, 2), (101, .putfield 41, 3), (104, .aload_n 0, 1), (105, .sipush 300, 3), (108, .newarray .int, 2), (110, .putfield 44, 3), (113, .aload_n 0, 1), (114, .sipush 300, 3), (117, .newarray .int, 2), (119, .putfield 47, 3), (122, .aload_n 0, 1), (123, .sipush 300, 3), (126, .newarray .boolean, 2), (128, .putfield 50, 3), (131, .aload_n 0, 1), (132, .bipush 50, 2), (134, .newarray .int, 2), (136, .putfield 53, 3), (139, .aload_n 0, 1), (140, .bipush 60, 2), (142, .newarray .int, 2), (144, .putfield 56, 3), (147, .aload_n 0, 1), (148, .bipush 60, 2), (150, .newarray .int, 2), (152, .putfield 59, 3), (155, .aload_n 0, 1), (156, .bipush 60, 2), (158, .newarray .int, 2), (160, .putfield 62, 3), (163, .aload_n 0, 1), (164, .bipush 60, 2), (166, .newarray .boolean, 2), (168, .putfield 65, 3), (171, .aload_n 0, 1), (172, .bipush 34, 2), (174, .newarray .int, 2), (176, .putfield 68, 3), (179, .aload_n 0, 1), (180, .bipush 31, 2), (182, .newarray .int, 2), (184, .putfield 71, 3), (187, .return_, 1)]
set_option maxRecDepth 100000 in
theorem kX8_init : ∀ q ∈ iX8_init, decode cX8_init q.1 = .ok q.2 := by decide +kernel
def iX8_thrown : List (Nat × Instr × Nat) := [(0, .aload_n 0, 1), (1, .getfield 74, 3), (4, .ireturn, 1)]
set_option maxRecDepth 100000 in
theorem kX8_thrown : ∀ q ∈ iX8_thrown, decode cX8_thrown q.1 = .ok q.2 := by decide +kernel
def iX8_in : List (Nat × Instr × Nat) := [(0, .iload_n 0, 1), (1, .iload_n 1, 1), (2, .if_icmp .lt 12, 3), (5, .iload_n 0, 1), (6, .iload_n 2, 1), (7, .if_icmp .gt 7, 3), (10, .iconst 1, 1), (11, .goto 4, 3), (14, .iconst 0, 1), (15, .ireturn, 1)]
set_option maxRecDepth 100000 in
theorem kX8_in : ∀ q ∈ iX8_in, decode cX8_in q.1 = .ok q.2 := by decide +kernel
def iX8_fails : List (Nat × Instr × Nat) := [(0, .iload_n 1, 1), (1, .ifCond .eq 15, 3), (4, .aload_n 0, 1), (5, .getfield 74, 3), (8, .ifCond .ne 8, 3), (11, .aload_n 0, 1), (12, .iload_n 2, 1), (13, .putfield 74, 3), (16, .aload_n 0, 1), (17, .getfield 74, 3), (20, .ifCond .eq 7, 3), (23, .iconst 1, 1), (24, .goto 4, 3), (27, .iconst 0, 1), (28, .ireturn, 1)]
set_option maxRecDepth 100000 in
theorem kX8_fails : ∀ q ∈ iX8_fails, decode cX8_fails q.1 = .ok q.2 := by decide +kernel
def iX8_noEntry : List (Nat × Instr × Nat) := [(0, .iload_n 1, 1), (1, .iconst 0, 1), (2, .aload_n 0, 1), (3, .getfield 77, 3), (6, .iconst 1, 1), (7, .isub, 1), (8, .invokestatic 80, 3), (11, .ifCond .ne 7, 3), (14, .iconst 1, 1), (15, .goto 4, 3), (18, .iconst 0, 1), (19, .ireturn, 1)]
set_option maxRecDepth 100000 in
theorem kX8_noEntry : ∀ q ∈ iX8_noEntry, decode cX8_noEntry q.1 = .ok q.2 := by decide +kernel
def iX8_isName : List (Nat × Instr × Nat) := [(0, .iload_n 0, 1), (1, .iconst 0, 1), (2, .bipush 99, 2), (4, .invokestatic 80, 3), (7, .ireturn, 1)]
set_option maxRecDepth 100000 in
theorem kX8_isName : ∀ q ∈ iX8_isName, decode cX8_isName q.1 = .ok q.2 := by decide +kernel
def iX8_add : List (Nat × Instr × Nat) := [(0, .aload_n 0, 1), (1, .getfield 7, 3), (4, .aload_n 0, 1), (5, .getfield 77, 3), (8, .iload_n 1, 1), (9, .castore, 1), (10, .aload_n 0, 1), (11, .getfield 13, 3), (14, .aload_n 0, 1), (15, .getfield 77, 3), (18, .iload_n 2, 1), (19, .iastore, 1), (20, .aload_n 0, 1), (21, .getfield 17, 3), (24, .aload_n 0, 1), (25, .getfield 77, 3), (28, .iload_n 3, 1), (29, .iastore, 1), (30, .aload_n 0, 1), (31, .getfield 20, 3), (34, .aload_n 0, 1), (35, .getfield 77, 3), (38, .iconst 0, 1), (39, .bastore, 1), (40, .aload_n 0, 1), (41, .dup, 1), (42, .getfield 77, 3), (45, .iconst 1, 1), (46, .iadd, 1), (47, .putfield 77, 3), (50, .aload_n 0, 1), (51, .iconst 0, 1), (52, .putfield 84, 3), (55, .aload_n 0, 1), (56, .iconst 0, 1), (57, .putfield 87, 3), (60, .aload_n 0, 1), (61, .getfield 77, 3), (64, .iconst 1, 1), (65, .isub, 1), (66, .ireturn, 1)]
set_option maxRecDepth 100000 in
theorem kX8_add : ∀ q ∈ iX8_add, decode cX8_add q.1 = .ok q.2 := by decide +kernel
def iX8_depth : List (Nat × Instr × Nat) := [(0, .iconst 0, 1), (1, .istore_n 2, 1), (2, .iconst 0, 1), (3, .istore_n 3, 1), (4, .iload_n 3, 1), (5, .iload_n 1, 1), (6, .if_icmp .ge 43, 3), (9, .iload_n 2, 1), (10, .aload_n 0, 1), (11, .getfield 7, 3), (14, .iload_n 3, 1), (15, .caload, 1), (16, .bipush 123, 2), (18, .if_icmp .ne 7, 3), (21, .iconst 1, 1), (22, .goto 19, 3), (25, .aload_n 0, 1), (26, .getfield 7, 3), (29, .iload_n 3, 1), (30, .caload, 1), (31, .bipush 125, 2), (33, .if_icmp .ne 7, 3), (36, .iconst (-1), 1), (37, .goto 4, 3), (40, .iconst 0, 1), (41, .iadd, 1), (42, .istore_n 2, 1), (43, .iinc 3 1, 3), (46, .goto (-42), 3), (49, .aload_n 0, 1), (50, .getfield 7, 3), (53, .iload_n 1, 1), (54, .caload, 1), (55, .bipush 125, 2), (57, .if_icmp .ne 9, 3), (60, .iload_n 2, 1), (61, .iconst 1, 1), (62, .isub, 1), (63, .goto 4, 3), (66, .iload_n 2, 1), (67, .ireturn, 1)]
set_option maxRecDepth 100000 in
theorem kX8_depth : ∀ q ∈ iX8_depth, decode cX8_depth q.1 = .ok q.2 := by decide +kernel
def iX8_open : List (Nat × Instr × Nat) := [(0, .iconst 0, 1), (1, .istore_n 1, 1), (2, .iconst 0, 1), (3, .istore_n 2, 1), (4, .iload_n 2, 1), (5, .aload_n 0, 1), (6, .getfield 77, 3), (9, .if_icmp .ge 43, 3), (12, .iload_n 1, 1), (13, .aload_n 0, 1), (14, .getfield 7, 3), (17, .iload_n 2, 1), (18, .caload, 1), (19, .bipush 123, 2), (21, .if_icmp .ne 7, 3), (24, .iconst 1, 1), (25, .goto 19, 3), (28, .aload_n 0, 1), (29, .getfield 7, 3), (32, .iload_n 2, 1), (33, .caload, 1), (34, .bipush 125, 2), (36, .if_icmp .ne 7, 3), (39, .iconst (-1), 1), (40, .goto 4, 3), (43, .iconst 0, 1), (44, .iadd, 1), (45, .istore_n 1, 1), (46, .iinc 2 1, 3), (49, .goto (-45), 3), (52, .iload_n 1, 1), (53, .ireturn, 1)]
set_option maxRecDepth 100000 in
theorem kX8_open : ∀ q ∈ iX8_open, decode cX8_open q.1 = .ok q.2 := by decide +kernel
def iX8_addName : List (Nat × Instr × Nat) := [(0, .aload_n 0, 1), (1, .iconst 0, 1), (2, .putfield 74, 3), (5, .aload_n 0, 1), (6, .iload_n 1, 1), (7, .invokestatic 91, 3), (10, .ifCond .eq 13, 3), (13, .iload_n 2, 1), (14, .iconst 1, 1), (15, .bipush 9, 2), (17, .invokestatic 80, 3), (20, .ifCond .ne 7, 3), (23, .iconst 1, 1), (24, .goto 4, 3), (27, .iconst 0, 1), (28, .iconst 1, 1), (29, .invokevirtual 95, 3), (32, .ifCond .ne 25, 3), (35, .aload_n 0, 1), (36, .aload_n 0, 1), (37, .getfield 77, 3), (40, .bipush 30, 2), (42, .if_icmp .ne 7, 3), (45, .iconst 1, 1), (46, .goto 4, 3), (49, .iconst 0, 1), (50, .iconst 2, 1), (51, .invokevirtual 95, 3), (54, .ifCond .eq 7, 3), (57, .iconst 0, 1), (58, .goto 11, 3), (61, .aload_n 0, 1), (62, .bipush 110, 2), (64, .iload_n 1, 1), (65, .iload_n 2, 1), (66, .invokevirtual 99, 3), (69, .ireturn, 1)]
set_option maxRecDepth 100000 in
theorem kX8_addName : ∀ q ∈ iX8_addName, decode cX8_addName q.1 = .ok q.2 := by decide +kernel
def iX8_addComment : List (Nat × Instr × Nat) := [(0, .aload_n 0, 1), (1, .iconst 0, 1), (2, .putfield 74, 3), (5, .aload_n 0, 1), (6, .iload_n 1, 1), (7, .iconst 1, 1), (8, .bipush 9, 2), (10, .invokestatic 80, 3), (13, .ifCond .ne 7, 3), (16, .iconst 1, 1), (17, .goto 4, 3), (20, .iconst 0, 1), (21, .iconst 1, 1), (22, .invokevirtual 95, 3), (25, .ifCond .ne 25, 3), (28, .aload_n 0, 1), (29, .aload_n 0, 1), (30, .getfield 77, 3), (33, .bipush 30, 2), (35, .if_icmp .ne 7, 3), (38, .iconst 1, 1), (39, .goto 4, 3), (42, .iconst 0, 1), (43, .iconst 2, 1), (44, .invokevirtual 95, 3), (47, .ifCond .eq 7, 3), (50, .iconst 0, 1), (51, .goto 11, 3), (54, .aload_n 0, 1), (55, .bipush 99, 2), (57, .iconst (-1), 1), (58, .iload_n 1, 1), (59, .invokevirtual 99, 3), (62, .ireturn, 1)]
set_option maxRecDepth 100000 in
theorem kX8_addComment : ∀ q ∈ iX8_addComment, decode cX8_addComment q.1 = .ok q.2 := by decide +kernel
def iX8_begin : List (Nat × Instr × Nat) := [(0, .aload_n 0, 1), (1, .iconst 0, 1), (2, .putfield 74, 3), (5, .aload_n 0, 1), (6, .aload_n 0, 1), (7, .getfield 77, 3), (10, .bipush 30, 2), (12, .if_icmp .ne 7, 3), (15, .iconst 1, 1), (16, .goto 4, 3), (19, .iconst 0, 1), (20, .iconst 1, 1), (21, .invokevirtual 95, 3), (24, .ifCond .eq 7, 3), (27, .iconst 0, 1), (28, .goto 15, 3), (31, .aload_n 0, 1), (32, .aload_n 0, 1), (33, .bipush 123, 2), (35, .iconst (-1), 1), (36, .iconst 0, 1), (37, .invokevirtual 99, 3), (40, .invokevirtual 103, 3), (43, .ireturn, 1)]
set_option maxRecDepth 100000 in
theorem kX8_begin : ∀ q ∈ iX8_begin, decode cX8_begin q.1 = .ok q.2 := by decide +kernel
def iX8_end : List (Nat × Instr × Nat) := [(0, .aload_n 0, 1), (1, .iconst 0, 1), (2, .putfield 74, 3), (5, .aload_n 0, 1), (6, .aload_n 0, 1), (7, .invokevirtual 107, 3), (10, .ifCond .eq 12, 3), (13, .aload_n 0, 1), (14, .getfield 77, 3), (17, .bipush 30, 2), (19, .if_icmp .ne 7, 3), (22, .iconst 1, 1), (23, .goto 4, 3), (26, .iconst 0, 1), (27, .iconst 1, 1), (28, .invokevirtual 95, 3), (31, .ifCond .eq 7, 3), (34, .iconst 0, 1), (35, .goto 15, 3), (38, .aload_n 0, 1), (39, .aload_n 0, 1), (40, .bipush 125, 2), (42, .iconst (-1), 1), (43, .iconst 0, 1), (44, .invokevirtual 99, 3), (47, .invokevirtual 103, 3), (50, .ireturn, 1)]
set_option maxRecDepth 100000 in
theorem kX8_end : ∀ q ∈ iX8_end, decode cX8_end q.1 = .ok q.2 := by decide +kernel
def iX8_entries : List (Nat × Instr × Nat) := [(0, .aload_n 0, 1), (1, .iconst 0, 1), (2, .putfield 74, 3), (5, .aload_n 0, 1), (6, .getfield 77, 3), (9, .ireturn, 1)]
set_option maxRecDepth 100000 in
theorem kX8_entries : ∀ q ∈ iX8_entries, decode cX8_entries q.1 = .ok q.2 := by decide +kernel
def iX8_kindOf : List (Nat × Instr × Nat) := [(0, .aload_n 0, 1), (1, .iconst 0, 1), (2, .putfield 74, 3), (5, .aload_n 0, 1), (6, .aload_n 0, 1), (7, .iload_n 1, 1), (8, .invokevirtual 111, 3), (11, .iconst 1, 1), (12, .invokevirtual 95, 3), (15, .ifCond .eq 7, 3), (18, .iconst 0, 1), (19, .goto 9, 3), (22, .aload_n 0, 1), (23, .getfield 7, 3), (26, .iload_n 1, 1), (27, .caload, 1), (28, .ireturn, 1)]
set_option maxRecDepth 100000 in
theorem kX8_kindOf : ∀ q ∈ iX8_kindOf, decode cX8_kindOf q.1 = .ok q.2 := by decide +kernel
def iX8_nameOf : List (Nat × Instr × Nat) := [(0, .aload_n 0, 1), (1, .iconst 0, 1), (2, .putfield 74, 3), (5, .aload_n 0, 1), (6, .aload_n 0, 1), (7, .iload_n 1, 1), (8, .invokevirtual 111, 3), (11, .iconst 1, 1), (12, .invokevirtual 95, 3), (15, .ifCond .ne 27, 3), (18, .aload_n 0, 1), (19, .aload_n 0, 1), (20, .getfield 7, 3), (23, .iload_n 1, 1), (24, .caload, 1), (25, .bipush 110, 2), (27, .if_icmp .eq 7, 3), (30, .iconst 1, 1), (31, .goto 4, 3), (34, .iconst 0, 1), (35, .iconst 2, 1), (36, .invokevirtual 95, 3), (39, .ifCond .eq 7, 3), (42, .iconst 0, 1), (43, .goto 9, 3), (46, .aload_n 0, 1), (47, .getfield 13, 3), (50, .iload_n 1, 1), (51, .iaload, 1), (52, .ireturn, 1)]
set_option maxRecDepth 100000 in
theorem kX8_nameOf : ∀ q ∈ iX8_nameOf, decode cX8_nameOf q.1 = .ok q.2 := by decide +kernel
def iX8_wide : List (Nat × Instr × Nat) := [(0, .aload_n 0, 1), (1, .getfield 7, 3), (4, .iload_n 1, 1), (5, .caload, 1), (6, .bipush 110, 2), (8, .if_icmp .ne 12, 3), (11, .aload_n 0, 1), (12, .getfield 17, 3), (15, .iload_n 1, 1), (16, .iaload, 1), (17, .goto 26, 3), (20, .aload_n 0, 1), (21, .getfield 7, 3), (24, .iload_n 1, 1), (25, .caload, 1), (26, .bipush 99, 2), (28, .if_icmp .ne 14, 3), (31, .aload_n 0, 1), (32, .getfield 17, 3), (35, .iload_n 1, 1), (36, .iaload, 1), (37, .iconst 4, 1), (38, .iadd, 1), (39, .goto 4, 3), (42, .iconst 1, 1), (43, .ireturn, 1)]
set_option maxRecDepth 100000 in
theorem kX8_wide : ∀ q ∈ iX8_wide, decode cX8_wide q.1 = .ok q.2 := by decide +kernel
def iX8_widthOf : List (Nat × Instr × Nat) := [(0, .aload_n 0, 1), (1, .iconst 0, 1), (2, .putfield 74, 3), (5, .aload_n 0, 1), (6, .aload_n 0, 1), (7, .iload_n 1, 1), (8, .invokevirtual 111, 3), (11, .iconst 1, 1), (12, .invokevirtual 95, 3), (15, .ifCond .eq 7, 3), (18, .iconst 0, 1), (19, .goto 8, 3), (22, .aload_n 0, 1), (23, .iload_n 1, 1), (24, .invokevirtual 114, 3), (27, .ireturn, 1)]
set_option maxRecDepth 100000 in
theorem kX8_widthOf : ∀ q ∈ iX8_widthOf, decode cX8_widthOf q.1 = .ok q.2 := by decide +kernel
def iX8_depthOf : List (Nat × Instr × Nat) := [(0, .aload_n 0, 1), (1, .iconst 0, 1), (2, .putfield 74, 3), (5, .aload_n 0, 1), (6, .aload_n 0, 1), (7, .iload_n 1, 1), (8, .invokevirtual 111, 3), (11, .iconst 1, 1), (12, .invokevirtual 95, 3), (15, .ifCond .eq 7, 3), (18, .iconst 0, 1), (19, .goto 8, 3), (22, .aload_n 0, 1), (23, .iload_n 1, 1), (24, .invokevirtual 103, 3), (27, .ireturn, 1)]
set_option maxRecDepth 100000 in
theorem kX8_depthOf : ∀ q ∈ iX8_depthOf, decode cX8_depthOf q.1 = .ok q.2 := by decide +kernel
def iX8_occurs : List (Nat × Instr × Nat) := [(0, .iconst 0, 1), (1, .istore_n 2, 1), (2, .iconst 0, 1), (3, .istore_n 3, 1), (4, .iload_n 3, 1), (5, .aload_n 0, 1), (6, .getfield 77, 3), (9, .if_icmp .ge 38, 3), (12, .iload_n 2, 1), (13, .aload_n 0, 1), (14, .getfield 7, 3), (17, .iload_n 3, 1), (18, .caload, 1), (19, .bipush 110, 2), (21, .if_icmp .ne 17, 3), (24, .aload_n 0, 1), (25, .getfield 13, 3), (28, .iload_n 3, 1), (29, .iaload, 1), (30, .iload_n 1, 1), (31, .if_icmp .ne 7, 3), (34, .iconst 1, 1), (35, .goto 4, 3), (38, .iconst 0, 1), (39, .iadd, 1), (40, .istore_n 2, 1), (41, .iinc 3 1, 3), (44, .goto (-40), 3), (47, .iload_n 2, 1), (48, .ireturn, 1)]
set_option maxRecDepth 100000 in
theorem kX8_occurs : ∀ q ∈ iX8_occurs, decode cX8_occurs q.1 = .ok q.2 := by decide +kernel
def iX8_occurrences : List (Nat × Instr × Nat) := [(0, .aload_n 0, 1), (1, .iconst 0, 1), (2, .putfield 74, 3), (5, .aload_n 0, 1), (6, .iload_n 1, 1), (7, .invokestatic 91, 3), (10, .ifCond .ne 7, 3), (13, .iconst 1, 1), (14, .goto 4, 3), (17, .iconst 0, 1), (18, .iconst 1, 1), (19, .invokevirtual 95, 3), (22, .ifCond .eq 7, 3), (25, .iconst 0, 1), (26, .goto 8, 3), (29, .aload_n 0, 1), (30, .iload_n 1, 1), (31, .invokevirtual 117, 3), (34, .ireturn, 1)]
set_option maxRecDepth 100000 in
theorem kX8_occurrences : ∀ q ∈ iX8_occurrences, decode cX8_occurrences q.1 = .ok q.2 := by decide +kernel
def iX8_commonest : List (Nat × Instr × Nat) := [(0, .aload_n 0, 1), (1, .iconst 0, 1), (2, .putfield 74, 3), (5, .iconst 0, 1), (6, .istore_n 1, 1), (7, .iconst 1, 1), (8, .istore_n 2, 1), (9, .iload_n 2, 1), (10, .bipush 100, 2), (12, .if_icmp .ge 28, 3), (15, .aload_n 0, 1), (16, .iload_n 2, 1), (17, .invokevirtual 117, 3), (20, .aload_n 0, 1), (21, .iload_n 1, 1), (22, .invokevirtual 117, 3), (25, .if_icmp .le 7, 3), (28, .iload_n 2, 1), (29, .goto 4, 3), (32, .iload_n 1, 1), (33, .istore_n 1, 1), (34, .iinc 2 1, 3), (37, .goto (-28), 3), (40, .aload_n 0, 1), (41, .aload_n 0, 1), (42, .iload_n 1, 1), (43, .invokevirtual 117, 3), (46, .ifCond .ne 7, 3), (49, .iconst 1, 1), (50, .goto 4, 3), (53, .iconst 0, 1), (54, .iconst 1, 1), (55, .invokevirtual 95, 3), (58, .ifCond .eq 7, 3), (61, .iconst 0, 1), (62, .goto 4, 3), (65, .iload_n 1, 1), (66, .ireturn, 1)]
set_option maxRecDepth 100000 in
theorem kX8_commonest : ∀ q ∈ iX8_commonest, decode cX8_commonest q.1 = .ok q.2 := by decide +kernel
def iX8_pin : List (Nat × Instr × Nat) := [(0, .aload_n 0, 1), (1, .iconst 0, 1), (2, .putfield 74, 3), (5, .aload_n 0, 1), (6, .aload_n 0, 1), (7, .iload_n 1, 1), (8, .invokevirtual 111, 3), (11, .ifCond .ne 11, 3), (14, .aload_n 0, 1), (15, .iload_n 2, 1), (16, .invokevirtual 111, 3), (19, .ifCond .eq 7, 3), (22, .iconst 1, 1), (23, .goto 4, 3), (26, .iconst 0, 1), (27, .iconst 1, 1), (28, .invokevirtual 95, 3), (31, .ifCond .ne 21, 3), (34, .aload_n 0, 1), (35, .iload_n 2, 1), (36, .iload_n 1, 1), (37, .if_icmp .ge 7, 3), (40, .iconst 1, 1), (41, .goto 4, 3), (44, .iconst 0, 1), (45, .iconst 2, 1), (46, .invokevirtual 95, 3), (49, .ifCond .eq 5, 3), (52, .iconst 0, 1), (53, .ireturn, 1), (54, .iconst 0, 1), (55, .istore 4, 2), (57, .iload_n 1, 1), (58, .istore 5, 2), (60, .iload 5, 2), (62, .iload_n 2, 1), (63, .if_icmp .gt 38, 3), (66, .iload 4, 2), (68, .aload_n 0, 1), (69, .getfield 20, 3), (72, .iload 5, 2), (74, .baload, 1), (75, .iload_n 3, 1), (76, .if_icmp .ne 7, 3), (79, .iconst 0, 1), (80, .goto 4, 3), (83, .iconst 1, 1), (84, .iadd, 1), (85, .istore 4, 2), (87, .aload_n 0, 1), (88, .getfield 20, 3), (91, .iload 5, 2), (93, .iload_n 3, 1), (94, .bastore, 1), (95, .iinc 5 1, 3), (98, .goto (-38), 3), (101, .aload_n 0, 1), (102, .iconst 0, 1), (103, .putfield 87, 3), (106, .iload 4, 2), (108, .ireturn, 1)]
set_option maxRecDepth 100000 in
theorem kX8_pin : ∀ q ∈ iX8_pin, decode cX8_pin q.1 = .ok q.2 := by decide +kernel
def iX8_isPinned : List (Nat × Instr × Nat) := [(0, .aload_n 0, 1), (1, .iconst 0, 1), (2, .putfield 74, 3), (5, .aload_n 0, 1), (6, .aload_n 0, 1), (7, .iload_n 1, 1), (8, .invokevirtual 111, 3), (11, .iconst 1, 1), (12, .invokevirtual 95, 3), (15, .ifCond .ne 16, 3), (18, .aload_n 0, 1), (19, .getfield 20, 3), (22, .iload_n 1, 1), (23, .baload, 1), (24, .ifCond .eq 7, 3), (27, .iconst 1, 1), (28, .goto 4, 3), (31, .iconst 0, 1), (32, .ireturn, 1)]
set_option maxRecDepth 100000 in
theorem kX8_isPinned : ∀ q ∈ iX8_isPinned, decode cX8_isPinned q.1 = .ok q.2 := by decide +kernel
def iX8_are : List (Nat × Instr × Nat) := [(0, .iload_n 1, 1), (1, .iconst 1, 1), (2, .iadd, 1), (3, .aload_n 0, 1), (4, .getfield 77, 3), (7, .if_icmp .ge 29, 3), (10, .aload_n 0, 1), (11, .getfield 7, 3), (14, .iload_n 1, 1), (15, .caload, 1), (16, .iload_n 2, 1), (17, .if_icmp .ne 19, 3), (20, .aload_n 0, 1), (21, .getfield 7, 3), (24, .iload_n 1, 1), (25, .iconst 1, 1), (26, .iadd, 1), (27, .caload, 1), (28, .iload_n 3, 1), (29, .if_icmp .ne 7, 3), (32, .iconst 1, 1), (33, .goto 4, 3), (36, .iconst 0, 1), (37, .ireturn, 1)]
set_option maxRecDepth 100000 in
theorem kX8_are : ∀ q ∈ iX8_are, decode cX8_are q.1 = .ok q.2 := by decide +kernel
def iX8_find : List (Nat × Instr × Nat) := [(0, .aload_n 0, 1), (1, .getfield 56, 3), (4, .aload_n 0, 1), (5, .getfield 120, 3), (8, .iload_n 1, 1), (9, .iastore, 1), (10, .aload_n 0, 1), (11, .getfield 59, 3), (14, .aload_n 0, 1), (15, .getfield 120, 3), (18, .iload_n 2, 1), (19, .iastore, 1), (20, .aload_n 0, 1), (21, .getfield 62, 3), (24, .aload_n 0, 1), (25, .getfield 120, 3), (28, .iload_n 3, 1), (29, .iastore, 1), (30, .aload_n 0, 1), (31, .dup, 1), (32, .getfield 120, 3), (35, .iconst 1, 1), (36, .iadd, 1), (37, .putfield 120, 3), (40, .return_, 1)]
set_option maxRecDepth 100000 in
theorem kX8_find : ∀ q ∈ iX8_find, decode cX8_find q.1 = .ok q.2 := by decide +kernel
def iX8_fixable : List (Nat × Instr × Nat) := [(0, .aload_n 0, 1), (1, .getfield 28, 3), (4, .aload_n 0, 1), (5, .getfield 56, 3), (8, .iload_n 1, 1), (9, .iaload, 1), (10, .iaload, 1), (11, .ifCond .le 7, 3), (14, .iconst 1, 1), (15, .goto 4, 3), (18, .iconst 0, 1), (19, .istore_n 2, 1), (20, .aload_n 0, 1), (21, .getfield 59, 3), (24, .iload_n 1, 1), (25, .iaload, 1), (26, .istore_n 3, 1), (27, .iload_n 3, 1), (28, .aload_n 0, 1), (29, .getfield 62, 3), (32, .iload_n 1, 1), (33, .iaload, 1), (34, .if_icmp .gt 28, 3), (37, .iload_n 2, 1), (38, .ifCond .eq 16, 3), (41, .aload_n 0, 1), (42, .getfield 20, 3), (45, .iload_n 3, 1), (46, .baload, 1), (47, .ifCond .ne 7, 3), (50, .iconst 1, 1), (51, .goto 4, 3), (54, .iconst 0, 1), (55, .istore_n 2, 1), (56, .iinc 3 1, 3), (59, .goto (-32), 3), (62, .iload_n 2, 1), (63, .ireturn, 1)]
set_option maxRecDepth 100000 in
theorem kX8_fixable : ∀ q ∈ iX8_fixable, decode cX8_fixable q.1 = .ok q.2 := by decide +kernel
def iX8_look_0 : List (Nat × Instr × Nat) := [(0, .aload_n 0, 1), (1, .iconst 0, 1), (2, .putfield 120, 3), (5, .iconst 0, 1), (6, .istore_n 1, 1), (7, .iload_n 1, 1), (8, .aload_n 0, 1), (9, .getfield 77, 3), (12, .if_icmp .ge 141, 3), (15, .aload_n 0, 1), (16, .iload_n 1, 1), (17, .bipush 110, 2), (19, .bipush 110, 2), (21, .invokevirtual 123, 3), (24, .ifCond .eq 24, 3), (27, .aload_n 0, 1), (28, .getfield 13, 3), (31, .iload_n 1, 1), (32, .iaload, 1), (33, .aload_n 0, 1), (34, .getfield 13, 3), (37, .iload_n 1, 1), (38, .iconst 1, 1), (39, .iadd, 1), (40, .iaload, 1), (41, .if_icmp .ne 7, 3), (44, .iconst 0, 1), (45, .goto 52, 3), (48, .aload_n 0, 1), (49, .iload_n 1, 1), (50, .bipush 123, 2), (52, .bipush 125, 2), (54, .invokevirtual 123, 3), (57, .ifCond .eq 7, 3), (60, .iconst 1, 1), (61, .goto 36, 3), (64, .aload_n 0, 1), (65, .iload_n 1, 1), (66, .bipush 99, 2), (68, .bipush 125, 2), (70, .invokevirtual 123, 3), (73, .ifCond .eq 7, 3), (76, .iconst 2, 1), (77, .goto 20, 3), (80, .aload_n 0, 1), (81, .iload_n 1, 1), (82, .bipush 99, 2), (84, .bipush 99, 2), (86, .invokevirtual 123, 3), (89, .ifCond .eq 7, 3), (92, .iconst 3, 1), (93, .goto 4, 3), (96, .iconst (-1), 1), (97, .istore_n 2, 1), (98, .iload_n 2, 1), (99, .iconst (-1), 1), (100, .if_icmp .eq 12, 3), (103, .aload_n 0, 1), (104, .iload_n 2, 1), (105, .iload_n 1, 1)]
set_option maxRecDepth 100000 in
theorem kX8_look_0 : ∀ q ∈ iX8_look_0, decode cX8_look q.1 = .ok q.2 := by decide +kernel
def iX8_look_1 : List (Nat × Instr × Nat) := [(106, .iload_n 1, 1), (107, .iconst 1, 1), (108, .iadd, 1), (109, .invokevirtual 127, 3), (112, .aload_n 0, 1), (113, .iload_n 1, 1), (114, .bipush 123, 2), (116, .bipush 110, 2), (118, .invokevirtual 123, 3), (121, .ifCond .eq 26, 3), (124, .aload_n 0, 1), (125, .iload_n 1, 1), (126, .iconst 1, 1), (127, .iadd, 1), (128, .bipush 110, 2), (130, .bipush 125, 2), (132, .invokevirtual 123, 3), (135, .ifCond .eq 12, 3), (138, .aload_n 0, 1), (139, .iconst 4, 1), (140, .iload_n 1, 1), (141, .iload_n 1, 1), (142, .iconst 2, 1), (143, .iadd, 1), (144, .invokevirtual 127, 3), (147, .iinc 1 1, 3), (150, .goto (-143), 3), (153, .iconst 0, 1), (154, .istore_n 1, 1), (155, .iload_n 1, 1), (156, .iconst 4, 1), (157, .if_icmp .ge 21, 3), (160, .aload_n 0, 1), (161, .getfield 68, 3), (164, .aload_n 0, 1), (165, .getfield 77, 3), (168, .iload_n 1, 1), (169, .iadd, 1), (170, .iconst 0, 1), (171, .iastore, 1), (172, .iinc 1 1, 3), (175, .goto (-20), 3), (178, .aload_n 0, 1), (179, .getfield 77, 3), (182, .iconst 1, 1), (183, .isub, 1), (184, .istore_n 1, 1), (185, .iload_n 1, 1), (186, .ifCond .lt 113, 3), (189, .aload_n 0, 1), (190, .getfield 68, 3), (193, .iload_n 1, 1), (194, .aload_n 0, 1), (195, .getfield 68, 3), (198, .iload_n 1, 1), (199, .iconst 1, 1), (200, .iadd, 1), (201, .iaload, 1), (202, .iastore, 1), (203, .iconst 0, 1)]
set_option maxRecDepth 100000 in
theorem kX8_look_1 : ∀ q ∈ iX8_look_1, decode cX8_look q.1 = .ok q.2 := by decide +kernel
def iX8_look_2 : List (Nat × Instr × Nat) := [(204, .istore_n 2, 1), (205, .iload_n 2, 1), (206, .aload_n 0, 1), (207, .getfield 120, 3), (210, .if_icmp .ge 83, 3), (213, .aload_n 0, 1), (214, .getfield 59, 3), (217, .iload_n 2, 1), (218, .iaload, 1), (219, .iload_n 1, 1), (220, .if_icmp .ne 39, 3), (223, .aload_n 0, 1), (224, .iload_n 2, 1), (225, .invokevirtual 131, 3), (228, .ifCond .eq 31, 3), (231, .aload_n 0, 1), (232, .getfield 28, 3), (235, .aload_n 0, 1), (236, .getfield 56, 3), (239, .iload_n 2, 1), (240, .iaload, 1), (241, .iaload, 1), (242, .aload_n 0, 1), (243, .getfield 68, 3), (246, .aload_n 0, 1), (247, .getfield 62, 3), (250, .iload_n 2, 1), (251, .iaload, 1), (252, .iconst 1, 1), (253, .iadd, 1), (254, .iaload, 1), (255, .iadd, 1), (256, .goto 4, 3), (259, .iconst 0, 1), (260, .istore_n 3, 1), (261, .aload_n 0, 1), (262, .getfield 68, 3), (265, .iload_n 1, 1), (266, .iload_n 3, 1), (267, .aload_n 0, 1), (268, .getfield 68, 3), (271, .iload_n 1, 1), (272, .iaload, 1), (273, .if_icmp .le 7, 3), (276, .iload_n 3, 1), (277, .goto 9, 3), (280, .aload_n 0, 1), (281, .getfield 68, 3), (284, .iload_n 1, 1), (285, .iaload, 1), (286, .iastore, 1), (287, .iinc 2 1, 3), (290, .goto (-85), 3), (293, .iinc 1 (-1), 3), (296, .goto (-111), 3), (299, .iconst 0, 1), (300, .istore_n 1, 1), (301, .iconst 0, 1), (302, .istore_n 2, 1), (303, .iconst 0, 1)]
set_option maxRecDepth 100000 in
theorem kX8_look_2 : ∀ q ∈ iX8_look_2, decode cX8_look q.1 = .ok q.2 := by decide +kernel
def iX8_look_3 : List (Nat × Instr × Nat) := [(304, .istore_n 3, 1), (305, .iload_n 3, 1), (306, .aload_n 0, 1), (307, .getfield 120, 3), (310, .if_icmp .ge 106, 3), (313, .aload_n 0, 1), (314, .getfield 65, 3), (317, .iload_n 3, 1), (318, .aload_n 0, 1), (319, .iload_n 3, 1), (320, .invokevirtual 131, 3), (323, .ifCond .eq 53, 3), (326, .aload_n 0, 1), (327, .getfield 59, 3), (330, .iload_n 3, 1), (331, .iaload, 1), (332, .iload_n 2, 1), (333, .if_icmp .lt 43, 3), (336, .iload_n 1, 1), (337, .aload_n 0, 1), (338, .getfield 28, 3), (341, .aload_n 0, 1), (342, .getfield 56, 3), (345, .iload_n 3, 1), (346, .iaload, 1), (347, .iaload, 1), (348, .iadd, 1), (349, .aload_n 0, 1), (350, .getfield 68, 3), (353, .aload_n 0, 1), (354, .getfield 62, 3), (357, .iload_n 3, 1), (358, .iaload, 1), (359, .iconst 1, 1), (360, .iadd, 1), (361, .iaload, 1), (362, .iadd, 1), (363, .aload_n 0, 1), (364, .getfield 68, 3), (367, .iconst 0, 1), (368, .iaload, 1), (369, .if_icmp .ne 7, 3), (372, .iconst 1, 1), (373, .goto 4, 3), (376, .iconst 0, 1), (377, .bastore, 1), (378, .aload_n 0, 1), (379, .getfield 65, 3), (382, .iload_n 3, 1), (383, .baload, 1), (384, .ifCond .eq 26, 3), (387, .iload_n 1, 1), (388, .aload_n 0, 1), (389, .getfield 28, 3), (392, .aload_n 0, 1), (393, .getfield 56, 3), (396, .iload_n 3, 1), (397, .iaload, 1), (398, .iaload, 1), (399, .iadd, 1)]
set_option maxRecDepth 100000 in
theorem kX8_look_3 : ∀ q ∈ iX8_look_3, decode cX8_look q.1 = .ok q.2 := by decide +kernel
def iX8_look_4 : List (Nat × Instr × Nat) := [(400, .istore_n 1, 1), (401, .aload_n 0, 1), (402, .getfield 62, 3), (405, .iload_n 3, 1), (406, .iaload, 1), (407, .iconst 1, 1), (408, .iadd, 1), (409, .istore_n 2, 1), (410, .iinc 3 1, 3), (413, .goto (-108), 3), (416, .return_, 1)]
set_option maxRecDepth 100000 in
theorem kX8_look_4 : ∀ q ∈ iX8_look_4, decode cX8_look q.1 = .ok q.2 := by decide +kernel
def iX8_look : List (Nat × Instr × Nat) := iX8_look_0 ++ (iX8_look_1 ++ (iX8_look_2 ++ (iX8_look_3 ++ (iX8_look_4))))
theorem kX8_look : ∀ q ∈ iX8_look, decode cX8_look q.1 = .ok q.2 := List.forall_mem_append.mpr ⟨kX8_look_0, List.forall_mem_append.mpr ⟨kX8_look_1, List.forall_mem_append.mpr ⟨kX8_look_2, List.forall_mem_append.mpr ⟨kX8_look_3, kX8_look_4⟩⟩⟩⟩
def iX8_findings : List (Nat × Instr × Nat) := [(0, .aload_n 0, 1), (1, .iconst 0, 1), (2, .putfield 74, 3), (5, .aload_n 0, 1), (6, .invokevirtual 134, 3), (9, .aload_n 0, 1), (10, .getfield 120, 3), (13, .ireturn, 1)]
set_option maxRecDepth 100000 in
theorem kX8_findings : ∀ q ∈ iX8_findings, decode cX8_findings q.1 = .ok q.2 := by decide +kernel
def iX8_noFinding : List (Nat × Instr × Nat) := [(0, .aload_n 0, 1), (1, .invokevirtual 134, 3), (4, .iload_n 1, 1), (5, .iconst 0, 1), (6, .aload_n 0, 1), (7, .getfield 120, 3), (10, .iconst 1, 1), (11, .isub, 1), (12, .invokestatic 80, 3), (15, .ifCond .ne 7, 3), (18, .iconst 1, 1), (19, .goto 4, 3), (22, .iconst 0, 1), (23, .ireturn, 1)]
set_option maxRecDepth 100000 in
theorem kX8_noFinding : ∀ q ∈ iX8_noFinding, decode cX8_noFinding q.1 = .ok q.2 := by decide +kernel
def iX8_ruleOf : List (Nat × Instr × Nat) := [(0, .aload_n 0, 1), (1, .iconst 0, 1), (2, .putfield 74, 3), (5, .aload_n 0, 1), (6, .aload_n 0, 1), (7, .iload_n 1, 1), (8, .invokevirtual 137, 3), (11, .iconst 1, 1), (12, .invokevirtual 95, 3), (15, .ifCond .eq 7, 3), (18, .iconst 0, 1), (19, .goto 9, 3), (22, .aload_n 0, 1), (23, .getfield 56, 3), (26, .iload_n 1, 1), (27, .iaload, 1), (28, .ireturn, 1)]
set_option maxRecDepth 100000 in
theorem kX8_ruleOf : ∀ q ∈ iX8_ruleOf, decode cX8_ruleOf q.1 = .ok q.2 := by decide +kernel
def iX8_firstOf : List (Nat × Instr × Nat) := [(0, .aload_n 0, 1), (1, .iconst 0, 1), (2, .putfield 74, 3), (5, .aload_n 0, 1), (6, .aload_n 0, 1), (7, .iload_n 1, 1), (8, .invokevirtual 137, 3), (11, .iconst 1, 1), (12, .invokevirtual 95, 3), (15, .ifCond .eq 7, 3), (18, .iconst 0, 1), (19, .goto 9, 3), (22, .aload_n 0, 1), (23, .getfield 59, 3), (26, .iload_n 1, 1), (27, .iaload, 1), (28, .ireturn, 1)]
set_option maxRecDepth 100000 in
theorem kX8_firstOf : ∀ q ∈ iX8_firstOf, decode cX8_firstOf q.1 = .ok q.2 := by decide +kernel
def iX8_lastOf : List (Nat × Instr × Nat) := [(0, .aload_n 0, 1), (1, .iconst 0, 1), (2, .putfield 74, 3), (5, .aload_n 0, 1), (6, .aload_n 0, 1), (7, .iload_n 1, 1), (8, .invokevirtual 137, 3), (11, .iconst 1, 1), (12, .invokevirtual 95, 3), (15, .ifCond .eq 7, 3), (18, .iconst 0, 1), (19, .goto 9, 3), (22, .aload_n 0, 1), (23, .getfield 62, 3), (26, .iload_n 1, 1), (27, .iaload, 1), (28, .ireturn, 1)]
set_option maxRecDepth 100000 in
theorem kX8_lastOf : ∀ q ∈ iX8_lastOf, decode cX8_lastOf q.1 = .ok q.2 := by decide +kernel
def iX8_canFix : List (Nat × Instr × Nat) := [(0, .aload_n 0, 1), (1, .iconst 0, 1), (2, .putfield 74, 3), (5, .aload_n 0, 1), (6, .aload_n 0, 1), (7, .iload_n 1, 1), (8, .invokevirtual 137, 3), (11, .iconst 1, 1), (12, .invokevirtual 95, 3), (15, .ifCond .ne 15, 3), (18, .aload_n 0, 1), (19, .iload_n 1, 1), (20, .invokevirtual 131, 3), (23, .ifCond .eq 7, 3), (26, .iconst 1, 1), (27, .goto 4, 3), (30, .iconst 0, 1), (31, .ireturn, 1)]
set_option maxRecDepth 100000 in
theorem kX8_canFix : ∀ q ∈ iX8_canFix, decode cX8_canFix q.1 = .ok q.2 := by decide +kernel
def iX8_fixables : List (Nat × Instr × Nat) := [(0, .iconst 0, 1), (1, .istore_n 1, 1), (2, .iconst 0, 1), (3, .istore_n 2, 1), (4, .iload_n 2, 1), (5, .aload_n 0, 1), (6, .getfield 120, 3), (9, .if_icmp .ge 25, 3), (12, .iload_n 1, 1), (13, .aload_n 0, 1), (14, .iload_n 2, 1), (15, .invokevirtual 131, 3), (18, .ifCond .eq 7, 3), (21, .iconst 1, 1), (22, .goto 4, 3), (25, .iconst 0, 1), (26, .iadd, 1), (27, .istore_n 1, 1), (28, .iinc 2 1, 3), (31, .goto (-27), 3), (34, .iload_n 1, 1), (35, .ireturn, 1)]
set_option maxRecDepth 100000 in
theorem kX8_fixables : ∀ q ∈ iX8_fixables, decode cX8_fixables q.1 = .ok q.2 := by decide +kernel
def iX8_best : List (Nat × Instr × Nat) := [(0, .aload_n 0, 1), (1, .iconst 0, 1), (2, .putfield 74, 3), (5, .aload_n 0, 1), (6, .invokevirtual 134, 3), (9, .aload_n 0, 1), (10, .getfield 68, 3), (13, .iconst 0, 1), (14, .iaload, 1), (15, .ireturn, 1)]
set_option maxRecDepth 100000 in
theorem kX8_best : ∀ q ∈ iX8_best, decode cX8_best q.1 = .ok q.2 := by decide +kernel
def iX8_bestByTrying : List (Nat × Instr × Nat) := [(0, .aload_n 0, 1), (1, .iconst 0, 1), (2, .putfield 74, 3), (5, .aload_n 0, 1), (6, .invokevirtual 134, 3), (9, .aload_n 0, 1), (10, .aload_n 0, 1), (11, .invokevirtual 140, 3), (14, .bipush 12, 2), (16, .if_icmp .le 7, 3), (19, .iconst 1, 1), (20, .goto 4, 3), (23, .iconst 0, 1), (24, .iconst 1, 1), (25, .invokevirtual 95, 3), (28, .ifCond .eq 7, 3), (31, .iconst 0, 1), (32, .goto 9, 3), (35, .aload_n 0, 1), (36, .getfield 68, 3), (39, .iconst 0, 1), (40, .iaload, 1), (41, .ireturn, 1)]
set_option maxRecDepth 100000 in
theorem kX8_bestByTrying : ∀ q ∈ iX8_bestByTrying, decode cX8_bestByTrying q.1 = .ok q.2 := by decide +kernel
def iX8_isInBest : List (Nat × Instr × Nat) := [(0, .aload_n 0, 1), (1, .iconst 0, 1), (2, .putfield 74, 3), (5, .aload_n 0, 1), (6, .aload_n 0, 1), (7, .iload_n 1, 1), (8, .invokevirtual 137, 3), (11, .iconst 1, 1), (12, .invokevirtual 95, 3), (15, .ifCond .ne 16, 3), (18, .aload_n 0, 1), (19, .getfield 65, 3), (22, .iload_n 1, 1), (23, .baload, 1), (24, .ifCond .eq 7, 3), (27, .iconst 1, 1), (28, .goto 4, 3), (31, .iconst 0, 1), (32, .ireturn, 1)]
set_option maxRecDepth 100000 in
theorem kX8_isInBest : ∀ q ∈ iX8_isInBest, decode cX8_isInBest q.1 = .ok q.2 := by decide +kernel
def iX8_keep_0 : List (Nat × Instr × Nat) := [(0, .aload_n 0, 1), (1, .getfield 84, 3), (4, .bipush 10, 2), (6, .if_icmp .ne 190, 3), (9, .iconst 1, 1), (10, .istore_n 1, 1), (11, .iload_n 1, 1), (12, .bipush 10, 2), (14, .if_icmp .ge 172, 3), (17, .aload_n 0, 1), (18, .getfield 38, 3), (21, .iload_n 1, 1), (22, .iconst 1, 1), (23, .isub, 1), (24, .aload_n 0, 1), (25, .getfield 38, 3), (28, .iload_n 1, 1), (29, .iaload, 1), (30, .iastore, 1), (31, .iconst 0, 1), (32, .istore_n 2, 1), (33, .iload_n 2, 1), (34, .bipush 30, 2), (36, .if_icmp .ge 109, 3), (39, .aload_n 0, 1), (40, .getfield 41, 3), (43, .bipush 30, 2), (45, .iload_n 1, 1), (46, .imul, 1), (47, .bipush 30, 2), (49, .isub, 1), (50, .iload_n 2, 1), (51, .iadd, 1), (52, .aload_n 0, 1), (53, .getfield 41, 3), (56, .bipush 30, 2), (58, .iload_n 1, 1), (59, .imul, 1), (60, .iload_n 2, 1), (61, .iadd, 1), (62, .caload, 1), (63, .castore, 1), (64, .aload_n 0, 1), (65, .getfield 44, 3), (68, .bipush 30, 2), (70, .iload_n 1, 1), (71, .imul, 1), (72, .bipush 30, 2), (74, .isub, 1), (75, .iload_n 2, 1), (76, .iadd, 1), (77, .aload_n 0, 1), (78, .getfield 44, 3), (81, .bipush 30, 2), (83, .iload_n 1, 1), (84, .imul, 1), (85, .iload_n 2, 1), (86, .iadd, 1), (87, .iaload, 1), (88, .iastore, 1)]
set_option maxRecDepth 100000 in
theorem kX8_keep_0 : ∀ q ∈ iX8_keep_0, decode cX8_keep q.1 = .ok q.2 := by decide +kernel
def iX8_keep_1 : List (Nat × Instr × Nat) := [(89, .aload_n 0, 1), (90, .getfield 47, 3), (93, .bipush 30, 2), (95, .iload_n 1, 1), (96, .imul, 1), (97, .bipush 30, 2), (99, .isub, 1), (100, .iload_n 2, 1), (101, .iadd, 1), (102, .aload_n 0, 1), (103, .getfield 47, 3), (106, .bipush 30, 2), (108, .iload_n 1, 1), (109, .imul, 1), (110, .iload_n 2, 1), (111, .iadd, 1), (112, .iaload, 1), (113, .iastore, 1), (114, .aload_n 0, 1), (115, .getfield 50, 3), (118, .bipush 30, 2), (120, .iload_n 1, 1), (121, .imul, 1), (122, .bipush 30, 2), (124, .isub, 1), (125, .iload_n 2, 1), (126, .iadd, 1), (127, .aload_n 0, 1), (128, .getfield 50, 3), (131, .bipush 30, 2), (133, .iload_n 1, 1), (134, .imul, 1), (135, .iload_n 2, 1), (136, .iadd, 1), (137, .baload, 1), (138, .bastore, 1), (139, .iinc 2 1, 3), (142, .goto (-109), 3), (145, .iconst 0, 1), (146, .istore_n 2, 1), (147, .iload_n 2, 1), (148, .iconst 5, 1), (149, .if_icmp .ge 31, 3), (152, .aload_n 0, 1), (153, .getfield 53, 3), (156, .iconst 5, 1), (157, .iload_n 1, 1), (158, .imul, 1), (159, .iconst 5, 1), (160, .isub, 1), (161, .iload_n 2, 1), (162, .iadd, 1), (163, .aload_n 0, 1), (164, .getfield 53, 3), (167, .iconst 5, 1), (168, .iload_n 1, 1), (169, .imul, 1), (170, .iload_n 2, 1), (171, .iadd, 1), (172, .iaload, 1)]
set_option maxRecDepth 100000 in
theorem kX8_keep_1 : ∀ q ∈ iX8_keep_1, decode cX8_keep q.1 = .ok q.2 := by decide +kernel
def iX8_keep_2 : List (Nat × Instr × Nat) := [(173, .iastore, 1), (174, .iinc 2 1, 3), (177, .goto (-30), 3), (180, .iinc 1 1, 3), (183, .goto (-172), 3), (186, .aload_n 0, 1), (187, .dup, 1), (188, .getfield 84, 3), (191, .iconst 1, 1), (192, .isub, 1), (193, .putfield 84, 3), (196, .aload_n 0, 1), (197, .getfield 38, 3), (200, .aload_n 0, 1), (201, .getfield 84, 3), (204, .aload_n 0, 1), (205, .getfield 77, 3), (208, .iastore, 1), (209, .iconst 0, 1), (210, .istore_n 1, 1), (211, .iload_n 1, 1), (212, .aload_n 0, 1), (213, .getfield 77, 3), (216, .if_icmp .ge 89, 3), (219, .aload_n 0, 1), (220, .getfield 41, 3), (223, .bipush 30, 2), (225, .aload_n 0, 1), (226, .getfield 84, 3), (229, .imul, 1), (230, .iload_n 1, 1), (231, .iadd, 1), (232, .aload_n 0, 1), (233, .getfield 7, 3), (236, .iload_n 1, 1), (237, .caload, 1), (238, .castore, 1), (239, .aload_n 0, 1), (240, .getfield 44, 3), (243, .bipush 30, 2), (245, .aload_n 0, 1), (246, .getfield 84, 3), (249, .imul, 1), (250, .iload_n 1, 1), (251, .iadd, 1), (252, .aload_n 0, 1), (253, .getfield 13, 3), (256, .iload_n 1, 1), (257, .iaload, 1), (258, .iastore, 1), (259, .aload_n 0, 1), (260, .getfield 47, 3), (263, .bipush 30, 2), (265, .aload_n 0, 1), (266, .getfield 84, 3), (269, .imul, 1), (270, .iload_n 1, 1), (271, .iadd, 1), (272, .aload_n 0, 1), (273, .getfield 17, 3)]
set_option maxRecDepth 100000 in
theorem kX8_keep_2 : ∀ q ∈ iX8_keep_2, decode cX8_keep q.1 = .ok q.2 := by decide +kernel
def iX8_keep_3 : List (Nat × Instr × Nat) := [(276, .iload_n 1, 1), (277, .iaload, 1), (278, .iastore, 1), (279, .aload_n 0, 1), (280, .getfield 50, 3), (283, .bipush 30, 2), (285, .aload_n 0, 1), (286, .getfield 84, 3), (289, .imul, 1), (290, .iload_n 1, 1), (291, .iadd, 1), (292, .aload_n 0, 1), (293, .getfield 20, 3), (296, .iload_n 1, 1), (297, .baload, 1), (298, .bastore, 1), (299, .iinc 1 1, 3), (302, .goto (-91), 3), (305, .iconst 0, 1), (306, .istore_n 1, 1), (307, .iload_n 1, 1), (308, .iconst 5, 1), (309, .if_icmp .ge 23, 3), (312, .aload_n 0, 1), (313, .getfield 53, 3), (316, .iconst 5, 1), (317, .aload_n 0, 1), (318, .getfield 84, 3), (321, .imul, 1), (322, .iload_n 1, 1), (323, .iadd, 1), (324, .iconst 0, 1), (325, .iastore, 1), (326, .iinc 1 1, 3), (329, .goto (-22), 3), (332, .aload_n 0, 1), (333, .dup, 1), (334, .getfield 84, 3), (337, .iconst 1, 1), (338, .iadd, 1), (339, .putfield 84, 3), (342, .aload_n 0, 1), (343, .iconst 0, 1), (344, .putfield 87, 3), (347, .return_, 1)]
set_option maxRecDepth 100000 in
theorem kX8_keep_3 : ∀ q ∈ iX8_keep_3, decode cX8_keep q.1 = .ok q.2 := by decide +kernel
def iX8_keep : List (Nat × Instr × Nat) := iX8_keep_0 ++ (iX8_keep_1 ++ (iX8_keep_2 ++ (iX8_keep_3)))
theorem kX8_keep : ∀ q ∈ iX8_keep, decode cX8_keep q.1 = .ok q.2 := List.forall_mem_append.mpr ⟨kX8_keep_0, List.forall_mem_append.mpr ⟨kX8_keep_1, List.forall_mem_append.mpr ⟨kX8_keep_2, kX8_keep_3⟩⟩⟩
def iX8_put : List (Nat × Instr × Nat) := [(0, .aload_n 0, 1), (1, .getfield 7, 3), (4, .iload_n 1, 1), (5, .aload_n 0, 1), (6, .getfield 7, 3), (9, .iload_n 2, 1), (10, .caload, 1), (11, .castore, 1), (12, .aload_n 0, 1), (13, .getfield 13, 3), (16, .iload_n 1, 1), (17, .aload_n 0, 1), (18, .getfield 13, 3), (21, .iload_n 2, 1), (22, .iaload, 1), (23, .iastore, 1), (24, .aload_n 0, 1), (25, .getfield 17, 3), (28, .iload_n 1, 1), (29, .aload_n 0, 1), (30, .getfield 17, 3), (33, .iload_n 2, 1), (34, .iaload, 1), (35, .iastore, 1), (36, .aload_n 0, 1), (37, .getfield 20, 3), (40, .iload_n 1, 1), (41, .aload_n 0, 1), (42, .getfield 20, 3), (45, .iload_n 2, 1), (46, .baload, 1), (47, .bastore, 1), (48, .return_, 1)]
set_option maxRecDepth 100000 in
theorem kX8_put : ∀ q ∈ iX8_put, decode cX8_put q.1 = .ok q.2 := by decide +kernel
def iX8_remove : List (Nat × Instr × Nat) := [(0, .iload_n 1, 1), (1, .istore_n 2, 1), (2, .iload_n 2, 1), (3, .aload_n 0, 1), (4, .getfield 77, 3), (7, .iconst 1, 1), (8, .isub, 1), (9, .if_icmp .ge 17, 3), (12, .aload_n 0, 1), (13, .iload_n 2, 1), (14, .iload_n 2, 1), (15, .iconst 1, 1), (16, .iadd, 1), (17, .invokevirtual 143, 3), (20, .iinc 2 1, 3), (23, .goto (-21), 3), (26, .aload_n 0, 1), (27, .dup, 1), (28, .getfield 77, 3), (31, .iconst 1, 1), (32, .isub, 1), (33, .putfield 77, 3), (36, .return_, 1)]
set_option maxRecDepth 100000 in
theorem kX8_remove : ∀ q ∈ iX8_remove, decode cX8_remove q.1 = .ok q.2 := by decide +kernel
def iX8_change : List (Nat × Instr × Nat) := [(0, .aload_n 0, 1), (1, .getfield 7, 3), (4, .iload_n 1, 1), (5, .caload, 1), (6, .istore_n 3, 1), (7, .aload_n 0, 1), (8, .getfield 13, 3), (11, .iload_n 1, 1), (12, .iaload, 1), (13, .istore 4, 2), (15, .aload_n 0, 1), (16, .getfield 17, 3), (19, .iload_n 1, 1), (20, .iaload, 1), (21, .istore 5, 2), (23, .aload_n 0, 1), (24, .getfield 20, 3), (27, .iload_n 1, 1), (28, .baload, 1), (29, .istore 6, 2), (31, .aload_n 0, 1), (32, .iload_n 1, 1), (33, .iload_n 2, 1), (34, .invokevirtual 143, 3), (37, .aload_n 0, 1), (38, .getfield 7, 3), (41, .iload_n 2, 1), (42, .iload_n 3, 1), (43, .castore, 1), (44, .aload_n 0, 1), (45, .getfield 13, 3), (48, .iload_n 2, 1), (49, .iload 4, 2), (51, .iastore, 1), (52, .aload_n 0, 1), (53, .getfield 17, 3), (56, .iload_n 2, 1), (57, .iload 5, 2), (59, .iastore, 1), (60, .aload_n 0, 1), (61, .getfield 20, 3), (64, .iload_n 2, 1), (65, .iload 6, 2), (67, .bastore, 1), (68, .return_, 1)]
set_option maxRecDepth 100000 in
theorem kX8_change : ∀ q ∈ iX8_change, decode cX8_change q.1 = .ok q.2 := by decide +kernel
def iX8_fixes : List (Nat × Instr × Nat) := [(0, .aload_n 0, 1), (1, .getfield 56, 3), (4, .iload_n 1, 1), (5, .iaload, 1), (6, .istore_n 2, 1), (7, .aload_n 0, 1), (8, .getfield 59, 3), (11, .iload_n 1, 1), (12, .iaload, 1), (13, .istore_n 3, 1), (14, .iload_n 2, 1), (15, .iconst 2, 1), (16, .if_icmp .ne 14, 3), (19, .aload_n 0, 1), (20, .iload_n 3, 1), (21, .iload_n 3, 1), (22, .iconst 1, 1), (23, .iadd, 1), (24, .invokevirtual 147, 3), (27, .goto 79, 3), (30, .aload_n 0, 1), (31, .getfield 17, 3), (34, .iload_n 3, 1), (35, .iaload, 1), (36, .aload_n 0, 1), (37, .getfield 17, 3), (40, .iload_n 3, 1), (41, .iconst 1, 1), (42, .iadd, 1), (43, .iaload, 1), (44, .iadd, 1), (45, .istore 4, 2), (47, .aload_n 0, 1), (48, .getfield 17, 3), (51, .iload_n 3, 1), (52, .iload_n 2, 1), (53, .iconst 3, 1), (54, .if_icmp .ne 20, 3), (57, .iload 4, 2), (59, .bipush 9, 2), (61, .if_icmp .le 8, 3), (64, .bipush 9, 2), (66, .goto 14, 3), (69, .iload 4, 2), (71, .goto 9, 3), (74, .aload_n 0, 1), (75, .getfield 17, 3), (78, .iload_n 3, 1), (79, .iaload, 1), (80, .iastore, 1), (81, .aload_n 0, 1), (82, .aload_n 0, 1), (83, .getfield 62, 3), (86, .iload_n 1, 1), (87, .iaload, 1), (88, .invokevirtual 150, 3), (91, .iload_n 2, 1), (92, .iconst 1, 1), (93, .if_icmp .eq 8, 3), (96, .iload_n 2, 1), (97, .iconst 4, 1), (98, .if_icmp .ne 8, 3), (101, .aload_n 0, 1), (102, .iload_n 3, 1), (103, .invokevirtual 150, 3), (106, .aload_n 0, 1), (107, .getfield 28, 3), (110, .iload_n 2, 1), (111, .dup2, 1), (112, .iaload, 1), (113, .aload_n 0, 1), (114, .getfield 28, 3), (117, .iload_n 2, 1), (118, .iaload, 1), (119, .bipush 99, 2), (121, .if_icmp .ge 7, 3), (124, .iconst 1, 1), (125, .goto 4, 3), (128, .iconst 0, 1), (129, .iadd, 1), (130, .iastore, 1), (131, .aload_n 0, 1), (132, .getfield 53, 3), (135, .iconst 5, 1), (136, .aload_n 0, 1), (137, .getfield 84, 3), (140, .iconst 1, 1), (141, .isub, 1), (142, .imul, 1), (143, .iload_n 2, 1), (144, .iadd, 1), (145, .dup2, 1), (146, .iaload, 1), (147, .iconst 1, 1), (148, .iadd, 1), (149, .iastore, 1), (150, .aload_n 0, 1), (151, .dup, 1), (152, .getfield 154, 3), (155, .lconst 1, 1), (156, .ladd, 1), (157, .putfield 154, 3), (160, .return_, 1)]
set_option maxRecDepth 100000 in
theorem kX8_fixes : ∀ q ∈ iX8_fixes, decode cX8_fixes q.1 = .ok q.2 := by decide +kernel
def iX8_fix : List (Nat × Instr × Nat) := [(0, .aload_n 0, 1), (1, .iconst 0, 1), (2, .putfield 74, 3), (5, .aload_n 0, 1), (6, .aload_n 0, 1), (7, .iload_n 1, 1), (8, .invokevirtual 137, 3), (11, .iconst 1, 1), (12, .invokevirtual 95, 3), (15, .ifCond .ne 24, 3), (18, .aload_n 0, 1), (19, .aload_n 0, 1), (20, .iload_n 1, 1), (21, .invokevirtual 131, 3), (24, .ifCond .ne 7, 3), (27, .iconst 1, 1), (28, .goto 4, 3), (31, .iconst 0, 1), (32, .iconst 2, 1), (33, .invokevirtual 95, 3), (36, .ifCond .eq 5, 3), (39, .iconst 0, 1), (40, .ireturn, 1), (41, .aload_n 0, 1), (42, .invokevirtual 158, 3), (45, .aload_n 0, 1), (46, .iload_n 1, 1), (47, .invokevirtual 161, 3), (50, .aload_n 0, 1), (51, .getfield 77, 3), (54, .ireturn, 1)]
set_option maxRecDepth 100000 in
theorem kX8_fix : ∀ q ∈ iX8_fix, decode cX8_fix q.1 = .ok q.2 := by decide +kernel
def iX8_fixBest : List (Nat × Instr × Nat) := [(0, .aload_n 0, 1), (1, .iconst 0, 1), (2, .putfield 74, 3), (5, .aload_n 0, 1), (6, .invokevirtual 134, 3), (9, .aload_n 0, 1), (10, .aload_n 0, 1), (11, .invokevirtual 140, 3), (14, .ifCond .ne 7, 3), (17, .iconst 1, 1), (18, .goto 4, 3), (21, .iconst 0, 1), (22, .iconst 1, 1), (23, .invokevirtual 95, 3), (26, .ifCond .eq 5, 3), (29, .iconst 0, 1), (30, .ireturn, 1), (31, .aload_n 0, 1), (32, .invokevirtual 158, 3), (35, .iconst 0, 1), (36, .istore_n 1, 1), (37, .aload_n 0, 1), (38, .getfield 120, 3), (41, .iconst 1, 1), (42, .isub, 1), (43, .istore_n 2, 1), (44, .iload_n 2, 1), (45, .ifCond .lt 26, 3), (48, .aload_n 0, 1), (49, .getfield 65, 3), (52, .iload_n 2, 1), (53, .baload, 1), (54, .ifCond .eq 11, 3), (57, .aload_n 0, 1), (58, .iload_n 2, 1), (59, .invokevirtual 161, 3), (62, .iinc 1 1, 3), (65, .iinc 2 (-1), 3), (68, .goto (-24), 3), (71, .iload_n 1, 1), (72, .ireturn, 1)]
set_option maxRecDepth 100000 in
theorem kX8_fixBest : ∀ q ∈ iX8_fixBest, decode cX8_fixBest q.1 = .ok q.2 := by decide +kernel
def iX8_rename : List (Nat × Instr × Nat) := [(0, .aload_n 0, 1), (1, .iconst 0, 1), (2, .putfield 74, 3), (5, .aload_n 0, 1), (6, .iload_n 1, 1), (7, .invokestatic 91, 3), (10, .ifCond .eq 15, 3), (13, .iload_n 2, 1), (14, .invokestatic 91, 3), (17, .ifCond .eq 8, 3), (20, .iload_n 1, 1), (21, .iload_n 2, 1), (22, .if_icmp .ne 7, 3), (25, .iconst 1, 1), (26, .goto 4, 3), (29, .iconst 0, 1), (30, .iconst 1, 1), (31, .invokevirtual 95, 3), (34, .ifCond .ne 24, 3), (37, .aload_n 0, 1), (38, .aload_n 0, 1), (39, .iload_n 1, 1), (40, .invokevirtual 117, 3), (43, .ifCond .ne 7, 3), (46, .iconst 1, 1), (47, .goto 4, 3), (50, .iconst 0, 1), (51, .iconst 2, 1), (52, .invokevirtual 95, 3), (55, .ifCond .eq 5, 3), (58, .iconst 0, 1), (59, .ireturn, 1), (60, .aload_n 0, 1), (61, .iload_n 2, 1), (62, .invokevirtual 117, 3), (65, .ifCond .le 7, 3), (68, .iconst 1, 1), (69, .goto 4, 3), (72, .iconst 0, 1), (73, .istore_n 3, 1), (74, .iconst 0, 1), (75, .istore 4, 2), (77, .iload 4, 2), (79, .aload_n 0, 1), (80, .getfield 77, 3), (83, .if_icmp .ge 52, 3), (86, .iload_n 3, 1), (87, .ifCond .ne 36, 3), (90, .aload_n 0, 1), (91, .getfield 7, 3), (94, .iload 4, 2), (96, .caload, 1), (97, .bipush 110, 2), (99, .if_icmp .ne 28, 3), (102, .aload_n 0, 1), (103, .getfield 13, 3), (106, .iload 4, 2), (108, .iaload, 1), (109, .iload_n 1, 1), (110, .if_icmp .ne 17, 3), (113, .aload_n 0, 1), (114, .getfield 20, 3), (117, .iload 4, 2), (119, .baload, 1), (120, .ifCond .eq 7, 3), (123, .iconst 1, 1), (124, .goto 4, 3), (127, .iconst 0, 1), (128, .istore_n 3, 1), (129, .iinc 4 1, 3), (132, .goto (-55), 3), (135, .aload_n 0, 1), (136, .iload_n 3, 1), (137, .iconst 3, 1), (138, .invokevirtual 95, 3), (141, .ifCond .eq 5, 3), (144, .iconst 0, 1), (145, .ireturn, 1), (146, .aload_n 0, 1), (147, .invokevirtual 158, 3), (150, .iconst 0, 1), (151, .istore 4, 2), (153, .iconst 0, 1), (154, .istore 5, 2), (156, .iload 5, 2), (158, .aload_n 0, 1), (159, .getfield 77, 3), (162, .if_icmp .ge 43, 3), (165, .aload_n 0, 1), (166, .getfield 7, 3), (169, .iload 5, 2), (171, .caload, 1), (172, .bipush 110, 2), (174, .if_icmp .ne 25, 3), (177, .aload_n 0, 1), (178, .getfield 13, 3), (181, .iload 5, 2), (183, .iaload, 1), (184, .iload_n 1, 1), (185, .if_icmp .ne 14, 3), (188, .aload_n 0, 1), (189, .getfield 13, 3), (192, .iload 5, 2), (194, .iload_n 2, 1), (195, .iastore, 1), (196, .iinc 4 1, 3), (199, .iinc 5 1, 3), (202, .goto (-46), 3), (205, .iload 4, 2), (207, .ireturn, 1)]
set_option maxRecDepth 100000 in
theorem kX8_rename : ∀ q ∈ iX8_rename, decode cX8_rename q.1 = .ok q.2 := by decide +kernel
def iX8_move : List (Nat × Instr × Nat) := [(0, .aload_n 0, 1), (1, .iconst 0, 1), (2, .putfield 74, 3), (5, .aload_n 0, 1), (6, .aload_n 0, 1), (7, .iload_n 1, 1), (8, .invokevirtual 111, 3), (11, .ifCond .ne 11, 3), (14, .aload_n 0, 1), (15, .iload_n 2, 1), (16, .invokevirtual 111, 3), (19, .ifCond .eq 7, 3), (22, .iconst 1, 1), (23, .goto 4, 3), (26, .iconst 0, 1), (27, .iconst 1, 1), (28, .invokevirtual 95, 3), (31, .ifCond .ne 21, 3), (34, .aload_n 0, 1), (35, .iload_n 1, 1), (36, .iload_n 2, 1), (37, .if_icmp .ne 7, 3), (40, .iconst 1, 1), (41, .goto 4, 3), (44, .iconst 0, 1), (45, .iconst 2, 1), (46, .invokevirtual 95, 3), (49, .ifCond .eq 5, 3), (52, .iconst 0, 1), (53, .ireturn, 1), (54, .iload_n 1, 1), (55, .iload_n 2, 1), (56, .if_icmp .ge 7, 3), (59, .iload_n 1, 1), (60, .goto 4, 3), (63, .iload_n 2, 1), (64, .istore_n 3, 1), (65, .iload_n 1, 1), (66, .iload_n 2, 1), (67, .if_icmp .ge 7, 3), (70, .iload_n 2, 1), (71, .goto 4, 3), (74, .iload_n 1, 1), (75, .istore 4, 2), (77, .iconst 1, 1), (78, .istore 5, 2), (80, .iload_n 3, 1), (81, .istore 6, 2), (83, .iload 6, 2), (85, .iload 4, 2), (87, .if_icmp .gt 55, 3), (90, .iload 5, 2), (92, .ifCond .eq 41, 3), (95, .aload_n 0, 1), (96, .getfield 20, 3), (99, .iload 6, 2), (101, .baload, 1), (102, .ifCond .ne 31, 3), (105, .aload_n 0, 1), (106, .getfield 7, 3), (109, .iload 6, 2), (111, .caload, 1), (112, .bipush 110, 2), (114, .if_icmp .eq 15, 3), (117, .aload_n 0, 1), (118, .getfield 7, 3), (121, .iload 6, 2), (123, .caload, 1), (124, .bipush 99, 2), (126, .if_icmp .ne 7, 3), (129, .iconst 1, 1), (130, .goto 4, 3), (133, .iconst 0, 1), (134, .istore 5, 2), (136, .iinc 6 1, 3), (139, .goto (-56), 3), (142, .aload_n 0, 1), (143, .iload 5, 2), (145, .ifCond .ne 7, 3), (148, .iconst 1, 1), (149, .goto 4, 3), (152, .iconst 0, 1), (153, .iconst 3, 1), (154, .invokevirtual 95, 3), (157, .ifCond .eq 5, 3), (160, .iconst 0, 1), (161, .ireturn, 1), (162, .aload_n 0, 1), (163, .invokevirtual 158, 3), (166, .iload_n 1, 1), (167, .iload_n 2, 1), (168, .if_icmp .ge 7, 3), (171, .iconst 1, 1), (172, .goto 4, 3), (175, .iconst (-1), 1), (176, .istore 6, 2), (178, .iload_n 1, 1), (179, .istore 7, 2), (181, .iload 7, 2), (183, .iload_n 2, 1), (184, .if_icmp .eq 24, 3), (187, .aload_n 0, 1), (188, .iload 7, 2), (190, .iload 7, 2), (192, .iload 6, 2), (194, .iadd, 1), (195, .invokevirtual 147, 3), (198, .iload 7, 2), (200, .iload 6, 2), (202, .iadd, 1), (203, .istore 7, 2), (205, .goto (-24), 3), (208, .iload 4, 2), (210, .iload_n 3, 1), (211, .isub, 1), (212, .ireturn, 1)]
set_option maxRecDepth 100000 in
theorem kX8_move : ∀ q ∈ iX8_move, decode cX8_move q.1 = .ok q.2 := by decide +kernel
def iX8_undo_0 : List (Nat × Instr × Nat) := [(0, .aload_n 0, 1), (1, .iconst 0, 1), (2, .putfield 74, 3), (5, .aload_n 0, 1), (6, .aload_n 0, 1), (7, .getfield 84, 3), (10, .ifCond .ne 7, 3), (13, .iconst 1, 1), (14, .goto 4, 3), (17, .iconst 0, 1), (18, .iconst 1, 1), (19, .invokevirtual 95, 3), (22, .ifCond .eq 5, 3), (25, .iconst 0, 1), (26, .ireturn, 1), (27, .aload_n 0, 1), (28, .dup, 1), (29, .getfield 84, 3), (32, .iconst 1, 1), (33, .isub, 1), (34, .putfield 84, 3), (37, .aload_n 0, 1), (38, .aload_n 0, 1), (39, .getfield 38, 3), (42, .aload_n 0, 1), (43, .getfield 84, 3), (46, .iaload, 1), (47, .putfield 77, 3), (50, .iconst 0, 1), (51, .istore_n 1, 1), (52, .iload_n 1, 1), (53, .aload_n 0, 1), (54, .getfield 77, 3), (57, .if_icmp .ge 89, 3), (60, .aload_n 0, 1), (61, .getfield 7, 3), (64, .iload_n 1, 1), (65, .aload_n 0, 1), (66, .getfield 41, 3), (69, .bipush 30, 2), (71, .aload_n 0, 1), (72, .getfield 84, 3), (75, .imul, 1), (76, .iload_n 1, 1), (77, .iadd, 1), (78, .caload, 1), (79, .castore, 1), (80, .aload_n 0, 1), (81, .getfield 13, 3), (84, .iload_n 1, 1), (85, .aload_n 0, 1), (86, .getfield 44, 3), (89, .bipush 30, 2), (91, .aload_n 0, 1), (92, .getfield 84, 3), (95, .imul, 1), (96, .iload_n 1, 1), (97, .iadd, 1), (98, .iaload, 1), (99, .iastore, 1)]
set_option maxRecDepth 100000 in
theorem kX8_undo_0 : ∀ q ∈ iX8_undo_0, decode cX8_undo q.1 = .ok q.2 := by decide +kernel
def iX8_undo_1 : List (Nat × Instr × Nat) := [(100, .aload_n 0, 1), (101, .getfield 17, 3), (104, .iload_n 1, 1), (105, .aload_n 0, 1), (106, .getfield 47, 3), (109, .bipush 30, 2), (111, .aload_n 0, 1), (112, .getfield 84, 3), (115, .imul, 1), (116, .iload_n 1, 1), (117, .iadd, 1), (118, .iaload, 1), (119, .iastore, 1), (120, .aload_n 0, 1), (121, .getfield 20, 3), (124, .iload_n 1, 1), (125, .aload_n 0, 1), (126, .getfield 50, 3), (129, .bipush 30, 2), (131, .aload_n 0, 1), (132, .getfield 84, 3), (135, .imul, 1), (136, .iload_n 1, 1), (137, .iadd, 1), (138, .baload, 1), (139, .bastore, 1), (140, .iinc 1 1, 3), (143, .goto (-91), 3), (146, .iconst 0, 1), (147, .istore_n 1, 1), (148, .iload_n 1, 1), (149, .iconst 5, 1), (150, .if_icmp .ge 63, 3), (153, .iconst 0, 1), (154, .istore_n 2, 1), (155, .iload_n 2, 1), (156, .aload_n 0, 1), (157, .getfield 53, 3), (160, .iconst 5, 1), (161, .aload_n 0, 1), (162, .getfield 84, 3), (165, .imul, 1), (166, .iload_n 1, 1), (167, .iadd, 1), (168, .iaload, 1), (169, .if_icmp .ge 38, 3), (172, .aload_n 0, 1), (173, .getfield 28, 3), (176, .iload_n 1, 1), (177, .dup2, 1), (178, .iaload, 1), (179, .aload_n 0, 1), (180, .getfield 28, 3), (183, .iload_n 1, 1), (184, .iaload, 1), (185, .iconst 3, 1), (186, .iadd, 1), (187, .iconst 4, 1), (188, .idiv, 1), (189, .isub, 1)]
set_option maxRecDepth 100000 in
theorem kX8_undo_1 : ∀ q ∈ iX8_undo_1, decode cX8_undo q.1 = .ok q.2 := by decide +kernel
def iX8_undo_2 : List (Nat × Instr × Nat) := [(190, .iastore, 1), (191, .aload_n 0, 1), (192, .getfield 31, 3), (195, .iload_n 1, 1), (196, .dup2, 1), (197, .laload, 1), (198, .lconst 1, 1), (199, .ladd, 1), (200, .lastore, 1), (201, .iinc 2 1, 3), (204, .goto (-49), 3), (207, .iinc 1 1, 3), (210, .goto (-62), 3), (213, .aload_n 0, 1), (214, .iconst 0, 1), (215, .putfield 87, 3), (218, .aload_n 0, 1), (219, .getfield 84, 3), (222, .ireturn, 1)]
set_option maxRecDepth 100000 in
theorem kX8_undo_2 : ∀ q ∈ iX8_undo_2, decode cX8_undo q.1 = .ok q.2 := by decide +kernel
def iX8_undo : List (Nat × Instr × Nat) := iX8_undo_0 ++ (iX8_undo_1 ++ (iX8_undo_2))
theorem kX8_undo : ∀ q ∈ iX8_undo, decode cX8_undo q.1 = .ok q.2 := List.forall_mem_append.mpr ⟨kX8_undo_0, List.forall_mem_append.mpr ⟨kX8_undo_1, kX8_undo_2⟩⟩
def iX8_isRule : List (Nat × Instr × Nat) := [(0, .iload_n 0, 1), (1, .iconst 0, 1), (2, .iconst 4, 1), (3, .invokestatic 80, 3), (6, .ireturn, 1)]
set_option maxRecDepth 100000 in
theorem kX8_isRule : ∀ q ∈ iX8_isRule, decode cX8_isRule q.1 = .ok q.2 := by decide +kernel
def iX8_weight : List (Nat × Instr × Nat) := [(0, .aload_n 0, 1), (1, .iconst 0, 1), (2, .putfield 74, 3), (5, .aload_n 0, 1), (6, .iload_n 1, 1), (7, .invokestatic 163, 3), (10, .ifCond .ne 7, 3), (13, .iconst 1, 1), (14, .goto 4, 3), (17, .iconst 0, 1), (18, .iconst 1, 1), (19, .invokevirtual 95, 3), (22, .ifCond .eq 7, 3), (25, .iconst 0, 1), (26, .goto 9, 3), (29, .aload_n 0, 1), (30, .getfield 28, 3), (33, .iload_n 1, 1), (34, .iaload, 1), (35, .ireturn, 1)]
set_option maxRecDepth 100000 in
theorem kX8_weight : ∀ q ∈ iX8_weight, decode cX8_weight q.1 = .ok q.2 := by decide +kernel
def iX8_ruleAt : List (Nat × Instr × Nat) := [(0, .aload_n 0, 1), (1, .iconst 0, 1), (2, .putfield 74, 3), (5, .iconst 0, 1), (6, .istore_n 2, 1), (7, .iload_n 2, 1), (8, .iconst 5, 1), (9, .if_icmp .ge 79, 3), (12, .iconst 0, 1), (13, .istore_n 3, 1), (14, .iconst 0, 1), (15, .istore 4, 2), (17, .iload 4, 2), (19, .iconst 5, 1), (20, .if_icmp .ge 55, 3), (23, .iload_n 3, 1), (24, .aload_n 0, 1), (25, .getfield 28, 3), (28, .iload 4, 2), (30, .iaload, 1), (31, .aload_n 0, 1), (32, .getfield 28, 3), (35, .iload_n 2, 1), (36, .iaload, 1), (37, .if_icmp .gt 25, 3), (40, .aload_n 0, 1), (41, .getfield 28, 3), (44, .iload 4, 2), (46, .iaload, 1), (47, .aload_n 0, 1), (48, .getfield 28, 3), (51, .iload_n 2, 1), (52, .iaload, 1), (53, .if_icmp .ne 13, 3), (56, .iload 4, 2), (58, .iload_n 2, 1), (59, .if_icmp .ge 7, 3), (62, .iconst 1, 1), (63, .goto 4, 3), (66, .iconst 0, 1), (67, .iadd, 1), (68, .istore_n 3, 1), (69, .iinc 4 1, 3), (72, .goto (-55), 3), (75, .iload_n 3, 1), (76, .iload_n 1, 1), (77, .if_icmp .ne 5, 3), (80, .iload_n 2, 1), (81, .ireturn, 1), (82, .iinc 2 1, 3), (85, .goto (-78), 3), (88, .aload_n 0, 1), (89, .iconst 1, 1), (90, .iconst 1, 1), (91, .invokevirtual 95, 3), (94, .pop, 1), (95, .iconst 0, 1), (96, .ireturn, 1)]
set_option maxRecDepth 100000 in
theorem kX8_ruleAt : ∀ q ∈ iX8_ruleAt, decode cX8_ruleAt q.1 = .ok q.2 := by decide +kernel
def iX8_undone : List (Nat × Instr × Nat) := [(0, .aload_n 0, 1), (1, .iconst 0, 1), (2, .putfield 74, 3), (5, .aload_n 0, 1), (6, .iload_n 1, 1), (7, .invokestatic 163, 3), (10, .ifCond .ne 7, 3), (13, .iconst 1, 1), (14, .goto 4, 3), (17, .iconst 0, 1), (18, .iconst 1, 1), (19, .invokevirtual 95, 3), (22, .ifCond .eq 7, 3), (25, .lconst 0, 1), (26, .goto 9, 3), (29, .aload_n 0, 1), (30, .getfield 31, 3), (33, .iload_n 1, 1), (34, .laload, 1), (35, .lreturn, 1)]
set_option maxRecDepth 100000 in
theorem kX8_undone : ∀ q ∈ iX8_undone, decode cX8_undone q.1 = .ok q.2 := by decide +kernel
def iX8_undoneShare : List (Nat × Instr × Nat) := [(0, .aload_n 0, 1), (1, .iconst 0, 1), (2, .putfield 74, 3), (5, .aload_n 0, 1), (6, .getfield 31, 3), (9, .iconst 0, 1), (10, .laload, 1), (11, .aload_n 0, 1), (12, .getfield 31, 3), (15, .iconst 1, 1), (16, .laload, 1), (17, .ladd, 1), (18, .aload_n 0, 1), (19, .getfield 31, 3), (22, .iconst 2, 1), (23, .laload, 1), (24, .ladd, 1), (25, .aload_n 0, 1), (26, .getfield 31, 3), (29, .iconst 3, 1), (30, .laload, 1), (31, .ladd, 1), (32, .aload_n 0, 1), (33, .getfield 31, 3), (36, .iconst 4, 1), (37, .laload, 1), (38, .ladd, 1), (39, .lstore_n 1, 1), (40, .aload_n 0, 1), (41, .aload_n 0, 1), (42, .getfield 154, 3), (45, .lconst 0, 1), (46, .lcmp, 1), (47, .ifCond .ne 7, 3), (50, .iconst 1, 1), (51, .goto 4, 3), (54, .iconst 0, 1), (55, .iconst 1, 1), (56, .invokevirtual 95, 3), (59, .ifCond .eq 7, 3), (62, .fconst 0, 1), (63, .goto 11, 3), (66, .lload_n 1, 1), (67, .l2f, 1), (68, .aload_n 0, 1), (69, .getfield 154, 3), (72, .l2f, 1), (73, .fdiv, 1), (74, .freturn, 1)]
set_option maxRecDepth 100000 in
theorem kX8_undoneShare : ∀ q ∈ iX8_undoneShare, decode cX8_undoneShare q.1 = .ok q.2 := by decide +kernel
def iX8_setWidth : List (Nat × Instr × Nat) := [(0, .aload_n 0, 1), (1, .iconst 0, 1), (2, .putfield 74, 3), (5, .aload_n 0, 1), (6, .iload_n 1, 1), (7, .bipush 13, 2), (9, .bipush 60, 2), (11, .invokestatic 80, 3), (14, .ifCond .ne 7, 3), (17, .iconst 1, 1), (18, .goto 4, 3), (21, .iconst 0, 1), (22, .iconst 1, 1), (23, .invokevirtual 95, 3), (26, .ifCond .eq 5, 3), (29, .iconst 0, 1), (30, .ireturn, 1), (31, .aload_n 0, 1), (32, .getfield 24, 3), (35, .istore_n 2, 1), (36, .aload_n 0, 1), (37, .iload_n 1, 1), (38, .putfield 24, 3), (41, .aload_n 0, 1), (42, .iconst 0, 1), (43, .putfield 87, 3), (46, .iload_n 2, 1), (47, .ireturn, 1)]
set_option maxRecDepth 100000 in
theorem kX8_setWidth : ∀ q ∈ iX8_setWidth, decode cX8_setWidth q.1 = .ok q.2 := by decide +kernel
def iX8_span : List (Nat × Instr × Nat) := [(0, .iload_n 2, 1), (1, .iload_n 1, 1), (2, .isub, 1), (3, .istore_n 3, 1), (4, .iload_n 1, 1), (5, .istore 4, 2), (7, .iload 4, 2), (9, .iload_n 2, 1), (10, .if_icmp .gt 18, 3), (13, .iload_n 3, 1), (14, .aload_n 0, 1), (15, .iload 4, 2), (17, .invokevirtual 114, 3), (20, .iadd, 1), (21, .istore_n 3, 1), (22, .iinc 4 1, 3), (25, .goto (-18), 3), (28, .iload_n 3, 1), (29, .ireturn, 1)]
set_option maxRecDepth 100000 in
theorem kX8_span : ∀ q ∈ iX8_span, decode cX8_span q.1 = .ok q.2 := by decide +kernel
def iX8_costs : List (Nat × Instr × Nat) := [(0, .iload_n 2, 1), (1, .iconst 1, 1), (2, .iadd, 1), (3, .aload_n 0, 1), (4, .getfield 77, 3), (7, .if_icmp .ge 26, 3), (10, .aload_n 0, 1), (11, .getfield 20, 3), (14, .iload_n 2, 1), (15, .baload, 1), (16, .ifCond .eq 17, 3), (19, .aload_n 0, 1), (20, .getfield 20, 3), (23, .iload_n 2, 1), (24, .iconst 1, 1), (25, .iadd, 1), (26, .baload, 1), (27, .ifCond .eq 6, 3), (30, .ldc 166, 2), (32, .ireturn, 1), (33, .aload_n 0, 1), (34, .getfield 24, 3), (37, .aload_n 0, 1), (38, .iload_n 1, 1), (39, .iload_n 2, 1), (40, .invokevirtual 167, 3), (43, .isub, 1), (44, .istore_n 3, 1), (45, .iload_n 3, 1), (46, .ifCond .ge 10, 3), (49, .bipush (-100), 2), (51, .iload_n 3, 1), (52, .imul, 1), (53, .goto 20, 3), (56, .iload_n 2, 1), (57, .iconst 1, 1), (58, .iadd, 1), (59, .aload_n 0, 1), (60, .getfield 77, 3), (63, .if_icmp .ne 7, 3), (66, .iconst 0, 1), (67, .goto 6, 3), (70, .iload_n 3, 1), (71, .iload_n 3, 1), (72, .imul, 1), (73, .istore 4, 2), (75, .iload 4, 2), (77, .aload_n 0, 1), (78, .getfield 71, 3), (81, .iload_n 2, 1), (82, .iconst 1, 1), (83, .iadd, 1), (84, .iaload, 1), (85, .iadd, 1), (86, .ireturn, 1)]
set_option maxRecDepth 100000 in
theorem kX8_costs : ∀ q ∈ iX8_costs, decode cX8_costs q.1 = .ok q.2 := by decide +kernel
def iX8_measure : List (Nat × Instr × Nat) := [(0, .aload_n 0, 1), (1, .getfield 71, 3), (4, .aload_n 0, 1), (5, .getfield 77, 3), (8, .iconst 0, 1), (9, .iastore, 1), (10, .aload_n 0, 1), (11, .getfield 77, 3), (14, .iconst 1, 1), (15, .isub, 1), (16, .istore_n 1, 1), (17, .iload_n 1, 1), (18, .ifCond .lt 66, 3), (21, .aload_n 0, 1), (22, .getfield 71, 3), (25, .iload_n 1, 1), (26, .ldc 166, 2), (28, .iastore, 1), (29, .iload_n 1, 1), (30, .istore_n 2, 1), (31, .iload_n 2, 1), (32, .aload_n 0, 1), (33, .getfield 77, 3), (36, .if_icmp .ge 42, 3), (39, .aload_n 0, 1), (40, .iload_n 1, 1), (41, .iload_n 2, 1), (42, .invokevirtual 171, 3), (45, .istore_n 3, 1), (46, .aload_n 0, 1), (47, .getfield 71, 3), (50, .iload_n 1, 1), (51, .iload_n 3, 1), (52, .aload_n 0, 1), (53, .getfield 71, 3), (56, .iload_n 1, 1), (57, .iaload, 1), (58, .if_icmp .ge 7, 3), (61, .iload_n 3, 1), (62, .goto 9, 3), (65, .aload_n 0, 1), (66, .getfield 71, 3), (69, .iload_n 1, 1), (70, .iaload, 1), (71, .iastore, 1), (72, .iinc 2 1, 3), (75, .goto (-44), 3), (78, .iinc 1 (-1), 3), (81, .goto (-64), 3), (84, .return_, 1)]
set_option maxRecDepth 100000 in
theorem kX8_measure : ∀ q ∈ iX8_measure, decode cX8_measure q.1 = .ok q.2 := by decide +kernel
def iX8_layOut : List (Nat × Instr × Nat) := [(0, .aload_n 0, 1), (1, .iconst 0, 1), (2, .putfield 74, 3), (5, .aload_n 0, 1), (6, .invokevirtual 174, 3), (9, .iconst 0, 1), (10, .istore_n 1, 1), (11, .iconst 0, 1), (12, .istore_n 2, 1), (13, .iload_n 2, 1), (14, .aload_n 0, 1), (15, .getfield 77, 3), (18, .if_icmp .ge 64, 3), (21, .aload_n 0, 1), (22, .getfield 77, 3), (25, .iconst 1, 1), (26, .isub, 1), (27, .istore_n 3, 1), (28, .aload_n 0, 1), (29, .iload_n 2, 1), (30, .iload_n 3, 1), (31, .invokevirtual 171, 3), (34, .aload_n 0, 1), (35, .getfield 71, 3), (38, .iload_n 2, 1), (39, .iaload, 1), (40, .if_icmp .eq 9, 3), (43, .iinc 3 (-1), 3), (46, .goto (-18), 3), (49, .iload_n 2, 1), (50, .istore 4, 2), (52, .iload 4, 2), (54, .iload_n 3, 1), (55, .if_icmp .gt 17, 3), (58, .aload_n 0, 1), (59, .getfield 35, 3), (62, .iload 4, 2), (64, .iload_n 1, 1), (65, .iastore, 1), (66, .iinc 4 1, 3), (69, .goto (-17), 3), (72, .iinc 1 1, 3), (75, .iload_n 3, 1), (76, .iconst 1, 1), (77, .iadd, 1), (78, .istore_n 2, 1), (79, .goto (-66), 3), (82, .aload_n 0, 1), (83, .iconst 1, 1), (84, .putfield 87, 3), (87, .iload_n 1, 1), (88, .ireturn, 1)]
set_option maxRecDepth 100000 in
theorem kX8_layOut : ∀ q ∈ iX8_layOut, decode cX8_layOut q.1 = .ok q.2 := by decide +kernel
def iX8_isLaidOut : List (Nat × Instr × Nat) := [(0, .aload_n 0, 1), (1, .iconst 0, 1), (2, .putfield 74, 3), (5, .aload_n 0, 1), (6, .getfield 87, 3), (9, .ireturn, 1)]
set_option maxRecDepth 100000 in
theorem kX8_isLaidOut : ∀ q ∈ iX8_isLaidOut, decode cX8_isLaidOut q.1 = .ok q.2 := by decide +kernel
def iX8_cost : List (Nat × Instr × Nat) := [(0, .aload_n 0, 1), (1, .iconst 0, 1), (2, .putfield 74, 3), (5, .aload_n 0, 1), (6, .invokevirtual 174, 3), (9, .aload_n 0, 1), (10, .getfield 71, 3), (13, .iconst 0, 1), (14, .iaload, 1), (15, .ireturn, 1)]
set_option maxRecDepth 100000 in
theorem kX8_cost : ∀ q ∈ iX8_cost, decode cX8_cost q.1 = .ok q.2 := by decide +kernel
def iX8_costByTrying : List (Nat × Instr × Nat) := [(0, .aload_n 0, 1), (1, .iconst 0, 1), (2, .putfield 74, 3), (5, .aload_n 0, 1), (6, .aload_n 0, 1), (7, .getfield 77, 3), (10, .bipush 12, 2), (12, .if_icmp .le 7, 3), (15, .iconst 1, 1), (16, .goto 4, 3), (19, .iconst 0, 1), (20, .iconst 1, 1), (21, .invokevirtual 95, 3), (24, .ifCond .eq 5, 3), (27, .iconst 0, 1), (28, .ireturn, 1), (29, .aload_n 0, 1), (30, .invokevirtual 174, 3), (33, .aload_n 0, 1), (34, .getfield 71, 3), (37, .iconst 0, 1), (38, .iaload, 1), (39, .ireturn, 1)]
set_option maxRecDepth 100000 in
theorem kX8_costByTrying : ∀ q ∈ iX8_costByTrying, decode cX8_costByTrying q.1 = .ok q.2 := by decide +kernel
def iX8_lineOf : List (Nat × Instr × Nat) := [(0, .aload_n 0, 1), (1, .iconst 0, 1), (2, .putfield 74, 3), (5, .aload_n 0, 1), (6, .aload_n 0, 1), (7, .iload_n 1, 1), (8, .invokevirtual 111, 3), (11, .iconst 1, 1), (12, .invokevirtual 95, 3), (15, .ifCond .ne 23, 3), (18, .aload_n 0, 1), (19, .aload_n 0, 1), (20, .getfield 87, 3), (23, .ifCond .ne 7, 3), (26, .iconst 1, 1), (27, .goto 4, 3), (30, .iconst 0, 1), (31, .iconst 2, 1), (32, .invokevirtual 95, 3), (35, .ifCond .eq 7, 3), (38, .iconst 0, 1), (39, .goto 9, 3), (42, .aload_n 0, 1), (43, .getfield 35, 3), (46, .iload_n 1, 1), (47, .iaload, 1), (48, .ireturn, 1)]
set_option maxRecDepth 100000 in
theorem kX8_lineOf : ∀ q ∈ iX8_lineOf, decode cX8_lineOf q.1 = .ok q.2 := by decide +kernel
def iX8_lineWidth : List (Nat × Instr × Nat) := [(0, .aload_n 0, 1), (1, .iconst 0, 1), (2, .putfield 74, 3), (5, .aload_n 0, 1), (6, .aload_n 0, 1), (7, .getfield 87, 3), (10, .ifCond .ne 7, 3), (13, .iconst 1, 1), (14, .goto 4, 3), (17, .iconst 0, 1), (18, .iconst 1, 1), (19, .invokevirtual 95, 3), (22, .ifCond .eq 5, 3), (25, .iconst 0, 1), (26, .ireturn, 1), (27, .iconst (-1), 1), (28, .istore_n 2, 1), (29, .iconst 0, 1), (30, .istore_n 3, 1), (31, .iload_n 3, 1), (32, .aload_n 0, 1), (33, .getfield 77, 3), (36, .if_icmp .ge 33, 3), (39, .iload_n 2, 1), (40, .aload_n 0, 1), (41, .getfield 35, 3), (44, .iload_n 3, 1), (45, .iaload, 1), (46, .iload_n 1, 1), (47, .if_icmp .ne 13, 3), (50, .aload_n 0, 1), (51, .iload_n 3, 1), (52, .invokevirtual 114, 3), (55, .iconst 1, 1), (56, .iadd, 1), (57, .goto 4, 3), (60, .iconst 0, 1), (61, .iadd, 1), (62, .istore_n 2, 1), (63, .iinc 3 1, 3), (66, .goto (-35), 3), (69, .aload_n 0, 1), (70, .iload_n 2, 1), (71, .iconst (-1), 1), (72, .if_icmp .ne 7, 3), (75, .iconst 1, 1), (76, .goto 4, 3), (79, .iconst 0, 1), (80, .iconst 2, 1), (81, .invokevirtual 95, 3), (84, .ifCond .eq 7, 3), (87, .iconst 0, 1), (88, .goto 4, 3), (91, .iload_n 2, 1), (92, .ireturn, 1)]
set_option maxRecDepth 100000 in
theorem kX8_lineWidth : ∀ q ∈ iX8_lineWidth, decode cX8_lineWidth q.1 = .ok q.2 := by decide +kernel
def iX8_meanWidth : List (Nat × Instr × Nat) := [(0, .aload_n 0, 1), (1, .iconst 0, 1), (2, .putfield 74, 3), (5, .iconst 0, 1), (6, .istore_n 1, 1), (7, .iconst 0, 1), (8, .istore_n 2, 1), (9, .iload_n 2, 1), (10, .aload_n 0, 1), (11, .getfield 77, 3), (14, .if_icmp .ge 17, 3), (17, .iload_n 1, 1), (18, .aload_n 0, 1), (19, .iload_n 2, 1), (20, .invokevirtual 114, 3), (23, .iadd, 1), (24, .istore_n 1, 1), (25, .iinc 2 1, 3), (28, .goto (-19), 3), (31, .aload_n 0, 1), (32, .aload_n 0, 1), (33, .getfield 77, 3), (36, .ifCond .ne 7, 3), (39, .iconst 1, 1), (40, .goto 4, 3), (43, .iconst 0, 1), (44, .iconst 1, 1), (45, .invokevirtual 95, 3), (48, .ifCond .eq 7, 3), (51, .dconst 0, 1), (52, .goto 11, 3), (55, .iload_n 1, 1), (56, .i2d, 1), (57, .aload_n 0, 1), (58, .getfield 77, 3), (61, .i2d, 1), (62, .ddiv, 1), (63, .dreturn, 1)]
set_option maxRecDepth 100000 in
theorem kX8_meanWidth : ∀ q ∈ iX8_meanWidth, decode cX8_meanWidth q.1 = .ok q.2 := by decide +kernel
def iX8_isTidy : List (Nat × Instr × Nat) := [(0, .aload_n 0, 1), (1, .iconst 0, 1), (2, .putfield 74, 3), (5, .iconst 1, 1), (6, .ireturn, 1)]
set_option maxRecDepth 100000 in
theorem kX8_isTidy : ∀ q ∈ iX8_isTidy, decode cX8_isTidy q.1 = .ok q.2 := by decide +kernel
def iL_addName : List (Nat × Instr × Nat) := [(0, .aload_n 3, 1), (1, .iconst 0, 1), (2, .aload_n 0, 1), (3, .iload_n 1, 1), (4, .iload_n 2, 1), (5, .invokevirtual 7, 3), (8, .i2l, 1), (9, .lastore, 1), (10, .goto 11, 3), (13, .astore 4, 2), (15, .iconst 1, 1), (16, .ireturn, 1), (17, .astore 4, 2), (19, .iconst 2, 1), (20, .ireturn, 1), (21, .iconst 0, 1), (22, .ireturn, 1)]
set_option maxRecDepth 100000 in
theorem kL_addName : ∀ q ∈ iL_addName, decode cL_addName q.1 = .ok q.2 := by decide +kernel
def iL_addComment : List (Nat × Instr × Nat) := [(0, .aload_n 2, 1), (1, .iconst 0, 1), (2, .aload_n 0, 1), (3, .iload_n 1, 1), (4, .invokevirtual 17, 3), (7, .i2l, 1), (8, .lastore, 1), (9, .goto 9, 3), (12, .astore_n 3, 1), (13, .iconst 1, 1), (14, .ireturn, 1), (15, .astore_n 3, 1), (16, .iconst 2, 1), (17, .ireturn, 1), (18, .iconst 0, 1), (19, .ireturn, 1)]
set_option maxRecDepth 100000 in
theorem kL_addComment : ∀ q ∈ iL_addComment, decode cL_addComment q.1 = .ok q.2 := by decide +kernel
def iL_begin : List (Nat × Instr × Nat) := [(0, .aload_n 1, 1), (1, .iconst 0, 1), (2, .aload_n 0, 1), (3, .invokevirtual 21, 3), (6, .i2l, 1), (7, .lastore, 1), (8, .goto 6, 3), (11, .astore_n 2, 1), (12, .iconst 1, 1), (13, .ireturn, 1), (14, .iconst 0, 1), (15, .ireturn, 1)]
set_option maxRecDepth 100000 in
theorem kL_begin : ∀ q ∈ iL_begin, decode cL_begin q.1 = .ok q.2 := by decide +kernel
def iL_end : List (Nat × Instr × Nat) := [(0, .aload_n 1, 1), (1, .iconst 0, 1), (2, .aload_n 0, 1), (3, .invokevirtual 25, 3), (6, .i2l, 1), (7, .lastore, 1), (8, .goto 6, 3), (11, .astore_n 2, 1), (12, .iconst 1, 1), (13, .ireturn, 1), (14, .iconst 0, 1), (15, .ireturn, 1)]
set_option maxRecDepth 100000 in
theorem kL_end : ∀ q ∈ iL_end, decode cL_end q.1 = .ok q.2 := by decide +kernel
def iL_kindOf : List (Nat × Instr × Nat) := [(0, .aload_n 2, 1), (1, .iconst 0, 1), (2, .aload_n 0, 1), (3, .iload_n 1, 1), (4, .invokevirtual 28, 3), (7, .i2l, 1), (8, .lastore, 1), (9, .goto 6, 3), (12, .astore_n 3, 1), (13, .iconst 1, 1), (14, .ireturn, 1), (15, .iconst 0, 1), (16, .ireturn, 1)]
set_option maxRecDepth 100000 in
theorem kL_kindOf : ∀ q ∈ iL_kindOf, decode cL_kindOf q.1 = .ok q.2 := by decide +kernel
def iL_nameOf : List (Nat × Instr × Nat) := [(0, .aload_n 2, 1), (1, .iconst 0, 1), (2, .aload_n 0, 1), (3, .iload_n 1, 1), (4, .invokevirtual 34, 3), (7, .i2l, 1), (8, .lastore, 1), (9, .goto 9, 3), (12, .astore_n 3, 1), (13, .iconst 1, 1), (14, .ireturn, 1), (15, .astore_n 3, 1), (16, .iconst 2, 1), (17, .ireturn, 1), (18, .iconst 0, 1), (19, .ireturn, 1)]
set_option maxRecDepth 100000 in
theorem kL_nameOf : ∀ q ∈ iL_nameOf, decode cL_nameOf q.1 = .ok q.2 := by decide +kernel
def iL_widthOf : List (Nat × Instr × Nat) := [(0, .aload_n 2, 1), (1, .iconst 0, 1), (2, .aload_n 0, 1), (3, .iload_n 1, 1), (4, .invokevirtual 37, 3), (7, .i2l, 1), (8, .lastore, 1), (9, .goto 6, 3), (12, .astore_n 3, 1), (13, .iconst 1, 1), (14, .ireturn, 1), (15, .iconst 0, 1), (16, .ireturn, 1)]
set_option maxRecDepth 100000 in
theorem kL_widthOf : ∀ q ∈ iL_widthOf, decode cL_widthOf q.1 = .ok q.2 := by decide +kernel
def iL_depthOf : List (Nat × Instr × Nat) := [(0, .aload_n 2, 1), (1, .iconst 0, 1), (2, .aload_n 0, 1), (3, .iload_n 1, 1), (4, .invokevirtual 40, 3), (7, .i2l, 1), (8, .lastore, 1), (9, .goto 6, 3), (12, .astore_n 3, 1), (13, .iconst 1, 1), (14, .ireturn, 1), (15, .iconst 0, 1), (16, .ireturn, 1)]
set_option maxRecDepth 100000 in
theorem kL_depthOf : ∀ q ∈ iL_depthOf, decode cL_depthOf q.1 = .ok q.2 := by decide +kernel
def iL_occurrences : List (Nat × Instr × Nat) := [(0, .aload_n 2, 1), (1, .iconst 0, 1), (2, .aload_n 0, 1), (3, .iload_n 1, 1), (4, .invokevirtual 43, 3), (7, .i2l, 1), (8, .lastore, 1), (9, .goto 6, 3), (12, .astore_n 3, 1), (13, .iconst 1, 1), (14, .ireturn, 1), (15, .iconst 0, 1), (16, .ireturn, 1)]
set_option maxRecDepth 100000 in
theorem kL_occurrences : ∀ q ∈ iL_occurrences, decode cL_occurrences q.1 = .ok q.2 := by decide +kernel
def iL_commonest : List (Nat × Instr × Nat) := [(0, .aload_n 1, 1), (1, .iconst 0, 1), (2, .aload_n 0, 1), (3, .invokevirtual 46, 3), (6, .i2l, 1), (7, .lastore, 1), (8, .goto 6, 3), (11, .astore_n 2, 1), (12, .iconst 1, 1), (13, .ireturn, 1), (14, .iconst 0, 1), (15, .ireturn, 1)]
set_option maxRecDepth 100000 in
theorem kL_commonest : ∀ q ∈ iL_commonest, decode cL_commonest q.1 = .ok q.2 := by decide +kernel
def iL_pin : List (Nat × Instr × Nat) := [(0, .aload 4, 2), (2, .iconst 0, 1), (3, .aload_n 0, 1), (4, .iload_n 1, 1), (5, .iload_n 2, 1), (6, .iload_n 3, 1), (7, .invokevirtual 51, 3), (10, .i2l, 1), (11, .lastore, 1), (12, .goto 11, 3), (15, .astore 5, 2), (17, .iconst 1, 1), (18, .ireturn, 1), (19, .astore 5, 2), (21, .iconst 2, 1), (22, .ireturn, 1), (23, .iconst 0, 1), (24, .ireturn, 1)]
set_option maxRecDepth 100000 in
theorem kL_pin : ∀ q ∈ iL_pin, decode cL_pin q.1 = .ok q.2 := by decide +kernel
def iL_isPinned : List (Nat × Instr × Nat) := [(0, .aload_n 2, 1), (1, .iconst 0, 1), (2, .aload_n 0, 1), (3, .iload_n 1, 1), (4, .invokevirtual 55, 3), (7, .ifCond .eq 7, 3), (10, .lconst 1, 1), (11, .goto 4, 3), (14, .lconst 0, 1), (15, .lastore, 1), (16, .goto 6, 3), (19, .astore_n 3, 1), (20, .iconst 1, 1), (21, .ireturn, 1), (22, .iconst 0, 1), (23, .ireturn, 1)]
set_option maxRecDepth 100000 in
theorem kL_isPinned : ∀ q ∈ iL_isPinned, decode cL_isPinned q.1 = .ok q.2 := by decide +kernel
def iL_ruleOf : List (Nat × Instr × Nat) := [(0, .aload_n 2, 1), (1, .iconst 0, 1), (2, .aload_n 0, 1), (3, .iload_n 1, 1), (4, .invokevirtual 59, 3), (7, .i2l, 1), (8, .lastore, 1), (9, .goto 6, 3), (12, .astore_n 3, 1), (13, .iconst 1, 1), (14, .ireturn, 1), (15, .iconst 0, 1), (16, .ireturn, 1)]
set_option maxRecDepth 100000 in
theorem kL_ruleOf : ∀ q ∈ iL_ruleOf, decode cL_ruleOf q.1 = .ok q.2 := by decide +kernel
def iL_firstOf : List (Nat × Instr × Nat) := [(0, .aload_n 2, 1), (1, .iconst 0, 1), (2, .aload_n 0, 1), (3, .iload_n 1, 1), (4, .invokevirtual 62, 3), (7, .i2l, 1), (8, .lastore, 1), (9, .goto 6, 3), (12, .astore_n 3, 1), (13, .iconst 1, 1), (14, .ireturn, 1), (15, .iconst 0, 1), (16, .ireturn, 1)]
set_option maxRecDepth 100000 in
theorem kL_firstOf : ∀ q ∈ iL_firstOf, decode cL_firstOf q.1 = .ok q.2 := by decide +kernel
def iL_lastOf : List (Nat × Instr × Nat) := [(0, .aload_n 2, 1), (1, .iconst 0, 1), (2, .aload_n 0, 1), (3, .iload_n 1, 1), (4, .invokevirtual 65, 3), (7, .i2l, 1), (8, .lastore, 1), (9, .goto 6, 3), (12, .astore_n 3, 1), (13, .iconst 1, 1), (14, .ireturn, 1), (15, .iconst 0, 1), (16, .ireturn, 1)]
set_option maxRecDepth 100000 in
theorem kL_lastOf : ∀ q ∈ iL_lastOf, decode cL_lastOf q.1 = .ok q.2 := by decide +kernel
def iL_canFix : List (Nat × Instr × Nat) := [(0, .aload_n 2, 1), (1, .iconst 0, 1), (2, .aload_n 0, 1), (3, .iload_n 1, 1), (4, .invokevirtual 68, 3), (7, .ifCond .eq 7, 3), (10, .lconst 1, 1), (11, .goto 4, 3), (14, .lconst 0, 1), (15, .lastore, 1), (16, .goto 6, 3), (19, .astore_n 3, 1), (20, .iconst 1, 1), (21, .ireturn, 1), (22, .iconst 0, 1), (23, .ireturn, 1)]
set_option maxRecDepth 100000 in
theorem kL_canFix : ∀ q ∈ iL_canFix, decode cL_canFix q.1 = .ok q.2 := by decide +kernel
def iL_bestByTrying : List (Nat × Instr × Nat) := [(0, .aload_n 1, 1), (1, .iconst 0, 1), (2, .aload_n 0, 1), (3, .invokevirtual 71, 3), (6, .i2l, 1), (7, .lastore, 1), (8, .goto 6, 3), (11, .astore_n 2, 1), (12, .iconst 1, 1), (13, .ireturn, 1), (14, .iconst 0, 1), (15, .ireturn, 1)]
set_option maxRecDepth 100000 in
theorem kL_bestByTrying : ∀ q ∈ iL_bestByTrying, decode cL_bestByTrying q.1 = .ok q.2 := by decide +kernel
def iL_isInBest : List (Nat × Instr × Nat) := [(0, .aload_n 2, 1), (1, .iconst 0, 1), (2, .aload_n 0, 1), (3, .iload_n 1, 1), (4, .invokevirtual 76, 3), (7, .ifCond .eq 7, 3), (10, .lconst 1, 1), (11, .goto 4, 3), (14, .lconst 0, 1), (15, .lastore, 1), (16, .goto 6, 3), (19, .astore_n 3, 1), (20, .iconst 1, 1), (21, .ireturn, 1), (22, .iconst 0, 1), (23, .ireturn, 1)]
set_option maxRecDepth 100000 in
theorem kL_isInBest : ∀ q ∈ iL_isInBest, decode cL_isInBest q.1 = .ok q.2 := by decide +kernel
def iL_fix : List (Nat × Instr × Nat) := [(0, .aload_n 2, 1), (1, .iconst 0, 1), (2, .aload_n 0, 1), (3, .iload_n 1, 1), (4, .invokevirtual 79, 3), (7, .i2l, 1), (8, .lastore, 1), (9, .goto 9, 3), (12, .astore_n 3, 1), (13, .iconst 1, 1), (14, .ireturn, 1), (15, .astore_n 3, 1), (16, .iconst 2, 1), (17, .ireturn, 1), (18, .iconst 0, 1), (19, .ireturn, 1)]
set_option maxRecDepth 100000 in
theorem kL_fix : ∀ q ∈ iL_fix, decode cL_fix q.1 = .ok q.2 := by decide +kernel
def iL_fixBest : List (Nat × Instr × Nat) := [(0, .aload_n 1, 1), (1, .iconst 0, 1), (2, .aload_n 0, 1), (3, .invokevirtual 82, 3), (6, .i2l, 1), (7, .lastore, 1), (8, .goto 6, 3), (11, .astore_n 2, 1), (12, .iconst 1, 1), (13, .ireturn, 1), (14, .iconst 0, 1), (15, .ireturn, 1)]
set_option maxRecDepth 100000 in
theorem kL_fixBest : ∀ q ∈ iL_fixBest, decode cL_fixBest q.1 = .ok q.2 := by decide +kernel
def iL_rename : List (Nat × Instr × Nat) := [(0, .aload_n 3, 1), (1, .iconst 0, 1), (2, .aload_n 0, 1), (3, .iload_n 1, 1), (4, .iload_n 2, 1), (5, .invokevirtual 85, 3), (8, .i2l, 1), (9, .lastore, 1), (10, .goto 15, 3), (13, .astore 4, 2), (15, .iconst 1, 1), (16, .ireturn, 1), (17, .astore 4, 2), (19, .iconst 2, 1), (20, .ireturn, 1), (21, .astore 4, 2), (23, .iconst 3, 1), (24, .ireturn, 1), (25, .iconst 0, 1), (26, .ireturn, 1)]
set_option maxRecDepth 100000 in
theorem kL_rename : ∀ q ∈ iL_rename, decode cL_rename q.1 = .ok q.2 := by decide +kernel
def iL_move : List (Nat × Instr × Nat) := [(0, .aload_n 3, 1), (1, .iconst 0, 1), (2, .aload_n 0, 1), (3, .iload_n 1, 1), (4, .iload_n 2, 1), (5, .invokevirtual 88, 3), (8, .i2l, 1), (9, .lastore, 1), (10, .goto 15, 3), (13, .astore 4, 2), (15, .iconst 1, 1), (16, .ireturn, 1), (17, .astore 4, 2), (19, .iconst 2, 1), (20, .ireturn, 1), (21, .astore 4, 2), (23, .iconst 3, 1), (24, .ireturn, 1), (25, .iconst 0, 1), (26, .ireturn, 1)]
set_option maxRecDepth 100000 in
theorem kL_move : ∀ q ∈ iL_move, decode cL_move q.1 = .ok q.2 := by decide +kernel
def iL_undo : List (Nat × Instr × Nat) := [(0, .aload_n 1, 1), (1, .iconst 0, 1), (2, .aload_n 0, 1), (3, .invokevirtual 91, 3), (6, .i2l, 1), (7, .lastore, 1), (8, .goto 6, 3), (11, .astore_n 2, 1), (12, .iconst 1, 1), (13, .ireturn, 1), (14, .iconst 0, 1), (15, .ireturn, 1)]
set_option maxRecDepth 100000 in
theorem kL_undo : ∀ q ∈ iL_undo, decode cL_undo q.1 = .ok q.2 := by decide +kernel
def iL_weight : List (Nat × Instr × Nat) := [(0, .aload_n 2, 1), (1, .iconst 0, 1), (2, .aload_n 0, 1), (3, .iload_n 1, 1), (4, .invokevirtual 94, 3), (7, .i2l, 1), (8, .lastore, 1), (9, .goto 6, 3), (12, .astore_n 3, 1), (13, .iconst 1, 1), (14, .ireturn, 1), (15, .iconst 0, 1), (16, .ireturn, 1)]
set_option maxRecDepth 100000 in
theorem kL_weight : ∀ q ∈ iL_weight, decode cL_weight q.1 = .ok q.2 := by decide +kernel
def iL_ruleAt : List (Nat × Instr × Nat) := [(0, .aload_n 2, 1), (1, .iconst 0, 1), (2, .aload_n 0, 1), (3, .iload_n 1, 1), (4, .invokevirtual 97, 3), (7, .i2l, 1), (8, .lastore, 1), (9, .goto 6, 3), (12, .astore_n 3, 1), (13, .iconst 1, 1), (14, .ireturn, 1), (15, .iconst 0, 1), (16, .ireturn, 1)]
set_option maxRecDepth 100000 in
theorem kL_ruleAt : ∀ q ∈ iL_ruleAt, decode cL_ruleAt q.1 = .ok q.2 := by decide +kernel
def iL_undone : List (Nat × Instr × Nat) := [(0, .aload_n 2, 1), (1, .iconst 0, 1), (2, .aload_n 0, 1), (3, .iload_n 1, 1), (4, .invokevirtual 100, 3), (7, .lastore, 1), (8, .goto 6, 3), (11, .astore_n 3, 1), (12, .iconst 1, 1), (13, .ireturn, 1), (14, .iconst 0, 1), (15, .ireturn, 1)]
set_option maxRecDepth 100000 in
theorem kL_undone : ∀ q ∈ iL_undone, decode cL_undone q.1 = .ok q.2 := by decide +kernel
def iL_undoneShare : List (Nat × Instr × Nat) := [(0, .aload_n 1, 1), (1, .iconst 0, 1), (2, .aload_n 0, 1), (3, .invokevirtual 104, 3), (6, .f2d, 1), (7, .dastore, 1), (8, .goto 6, 3), (11, .astore_n 2, 1), (12, .iconst 1, 1), (13, .ireturn, 1), (14, .iconst 0, 1), (15, .ireturn, 1)]
set_option maxRecDepth 100000 in
theorem kL_undoneShare : ∀ q ∈ iL_undoneShare, decode cL_undoneShare q.1 = .ok q.2 := by decide +kernel
def iL_setWidth : List (Nat × Instr × Nat) := [(0, .aload_n 2, 1), (1, .iconst 0, 1), (2, .aload_n 0, 1), (3, .iload_n 1, 1), (4, .invokevirtual 110, 3), (7, .i2l, 1), (8, .lastore, 1), (9, .goto 6, 3), (12, .astore_n 3, 1), (13, .iconst 1, 1), (14, .ireturn, 1), (15, .iconst 0, 1), (16, .ireturn, 1)]
set_option maxRecDepth 100000 in
theorem kL_setWidth : ∀ q ∈ iL_setWidth, decode cL_setWidth q.1 = .ok q.2 := by decide +kernel
def iL_costByTrying : List (Nat × Instr × Nat) := [(0, .aload_n 1, 1), (1, .iconst 0, 1), (2, .aload_n 0, 1), (3, .invokevirtual 113, 3), (6, .i2l, 1), (7, .lastore, 1), (8, .goto 6, 3), (11, .astore_n 2, 1), (12, .iconst 1, 1), (13, .ireturn, 1), (14, .iconst 0, 1), (15, .ireturn, 1)]
set_option maxRecDepth 100000 in
theorem kL_costByTrying : ∀ q ∈ iL_costByTrying, decode cL_costByTrying q.1 = .ok q.2 := by decide +kernel
def iL_lineOf : List (Nat × Instr × Nat) := [(0, .aload_n 2, 1), (1, .iconst 0, 1), (2, .aload_n 0, 1), (3, .iload_n 1, 1), (4, .invokevirtual 116, 3), (7, .i2l, 1), (8, .lastore, 1), (9, .goto 9, 3), (12, .astore_n 3, 1), (13, .iconst 1, 1), (14, .ireturn, 1), (15, .astore_n 3, 1), (16, .iconst 2, 1), (17, .ireturn, 1), (18, .iconst 0, 1), (19, .ireturn, 1)]
set_option maxRecDepth 100000 in
theorem kL_lineOf : ∀ q ∈ iL_lineOf, decode cL_lineOf q.1 = .ok q.2 := by decide +kernel
def iL_lineWidth : List (Nat × Instr × Nat) := [(0, .aload_n 2, 1), (1, .iconst 0, 1), (2, .aload_n 0, 1), (3, .iload_n 1, 1), (4, .invokevirtual 119, 3), (7, .i2l, 1), (8, .lastore, 1), (9, .goto 9, 3), (12, .astore_n 3, 1), (13, .iconst 1, 1), (14, .ireturn, 1), (15, .astore_n 3, 1), (16, .iconst 2, 1), (17, .ireturn, 1), (18, .iconst 0, 1), (19, .ireturn, 1)]
set_option maxRecDepth 100000 in
theorem kL_lineWidth : ∀ q ∈ iL_lineWidth, decode cL_lineWidth q.1 = .ok q.2 := by decide +kernel
def iL_meanWidth : List (Nat × Instr × Nat) := [(0, .aload_n 1, 1), (1, .iconst 0, 1), (2, .aload_n 0, 1), (3, .invokevirtual 122, 3), (6, .dastore, 1), (7, .goto 6, 3), (10, .astore_n 2, 1), (11, .iconst 1, 1), (12, .ireturn, 1), (13, .iconst 0, 1), (14, .ireturn, 1)]
set_option maxRecDepth 100000 in
theorem kL_meanWidth : ∀ q ∈ iL_meanWidth, decode cL_meanWidth q.1 = .ok q.2 := by decide +kernel
end
section
def iL_law_0 : List (Nat × Instr × Nat) := [(0, .new 8, 3), (3, .dup, 1), (4, .invokespecial 126, 3), (7, .astore_n 1, 1), (8, .new 127, 3), (11, .dup, 1), (12, .invokespecial 129, 3), (15, .astore_n 2, 1), (16, .iconst 1, 1), (17, .newarray .long, 2), (19, .astore_n 3, 1), (20, .iconst 1, 1), (21, .newarray .double, 2), (23, .astore 4, 2), (25, .iconst 0, 1), (26, .istore 5, 2), (28, .iload 5, 2), (30, .aload_n 0, 1), (31, .arraylength, 1), (32, .iconst 4, 1), (33, .isub, 1), (34, .if_icmp .gt 2102, 3), (37, .aload_n 0, 1), (38, .iload 5, 2), (40, .iaload, 1), (41, .bipush 63, 2), (43, .iand, 1), (44, .tableswitch 2086 0 38 #[172, 240, 296, 340, 384, 397, 453, 509, 565, 621, 677, 721, 817, 880, 893, 949, 1005, 1061, 1124, 1137, 1181, 1244, 1300, 1344, 1412, 1480, 1524, 1580, 1636, 1691, 1757, 1813, 1826, 1839, 1852, 1896, 1952, 2008, 2073], 172), (216, .aload_n 1, 1), (217, .aload_n 0, 1), (218, .iload 5, 2), (220, .iconst 1, 1), (221, .iadd, 1), (222, .iaload, 1), (223, .aload_n 0, 1), (224, .iload 5, 2), (226, .iconst 2, 1), (227, .iadd, 1), (228, .iaload, 1), (229, .aload_n 3, 1), (230, .invokestatic 130, 3), (233, .istore 6, 2), (235, .aload_n 2, 1), (236, .aload_n 0, 1), (237, .iload 5, 2), (239, .iconst 1, 1), (240, .iadd, 1), (241, .iaload, 1), (242, .aload_n 0, 1), (243, .iload 5, 2), (245, .iconst 2, 1), (246, .iadd, 1), (247, .iaload, 1), (248, .invokevirtual 135, 3), (251, .istore 7, 2), (253, .aload_n 2, 1), (254, .invokevirtual 136, 3), (257, .iload 6, 2), (259, .if_icmp .eq 5, 3), (262, .iconst 0, 1)]
set_option maxRecDepth 100000 in
theorem kL_law_0 : ∀ q ∈ iL_law_0, decode cL_law q.1 = .ok q.2 := by decide +kernel
def iL_law_1 : List (Nat × Instr × Nat) := [(263, .ireturn, 1), (264, .iload 6, 2), (266, .ifCond .ne 15, 3), (269, .aload_n 3, 1), (270, .iconst 0, 1), (271, .laload, 1), (272, .iload 7, 2), (274, .i2l, 1), (275, .lcmp, 1), (276, .ifCond .eq 5, 3), (279, .iconst 0, 1), (280, .ireturn, 1), (281, .goto 1849, 3), (284, .aload_n 1, 1), (285, .aload_n 0, 1), (286, .iload 5, 2), (288, .iconst 1, 1), (289, .iadd, 1), (290, .iaload, 1), (291, .aload_n 3, 1), (292, .invokestatic 139, 3), (295, .istore 6, 2), (297, .aload_n 2, 1), (298, .aload_n 0, 1), (299, .iload 5, 2), (301, .iconst 1, 1), (302, .iadd, 1), (303, .iaload, 1), (304, .invokevirtual 142, 3), (307, .istore 7, 2), (309, .aload_n 2, 1), (310, .invokevirtual 136, 3), (313, .iload 6, 2), (315, .if_icmp .eq 5, 3), (318, .iconst 0, 1), (319, .ireturn, 1), (320, .iload 6, 2), (322, .ifCond .ne 15, 3), (325, .aload_n 3, 1), (326, .iconst 0, 1), (327, .laload, 1), (328, .iload 7, 2), (330, .i2l, 1), (331, .lcmp, 1), (332, .ifCond .eq 5, 3), (335, .iconst 0, 1), (336, .ireturn, 1), (337, .goto 1793, 3), (340, .aload_n 1, 1), (341, .aload_n 3, 1), (342, .invokestatic 143, 3), (345, .istore 6, 2), (347, .aload_n 2, 1), (348, .invokevirtual 146, 3), (351, .istore 7, 2), (353, .aload_n 2, 1), (354, .invokevirtual 136, 3), (357, .iload 6, 2), (359, .if_icmp .eq 5, 3), (362, .iconst 0, 1)]
set_option maxRecDepth 100000 in
theorem kL_law_1 : ∀ q ∈ iL_law_1, decode cL_law q.1 = .ok q.2 := by decide +kernel
def iL_law_2 : List (Nat × Instr × Nat) := [(363, .ireturn, 1), (364, .iload 6, 2), (366, .ifCond .ne 15, 3), (369, .aload_n 3, 1), (370, .iconst 0, 1), (371, .laload, 1), (372, .iload 7, 2), (374, .i2l, 1), (375, .lcmp, 1), (376, .ifCond .eq 5, 3), (379, .iconst 0, 1), (380, .ireturn, 1), (381, .goto 1749, 3), (384, .aload_n 1, 1), (385, .aload_n 3, 1), (386, .invokestatic 147, 3), (389, .istore 6, 2), (391, .aload_n 2, 1), (392, .invokevirtual 149, 3), (395, .istore 7, 2), (397, .aload_n 2, 1), (398, .invokevirtual 136, 3), (401, .iload 6, 2), (403, .if_icmp .eq 5, 3), (406, .iconst 0, 1), (407, .ireturn, 1), (408, .iload 6, 2), (410, .ifCond .ne 15, 3), (413, .aload_n 3, 1), (414, .iconst 0, 1), (415, .laload, 1), (416, .iload 7, 2), (418, .i2l, 1), (419, .lcmp, 1), (420, .ifCond .eq 5, 3), (423, .iconst 0, 1), (424, .ireturn, 1), (425, .goto 1705, 3), (428, .aload_n 1, 1), (429, .invokevirtual 150, 3), (432, .aload_n 2, 1), (433, .invokevirtual 153, 3), (436, .if_icmp .eq 1694, 3), (439, .iconst 0, 1), (440, .ireturn, 1), (441, .aload_n 1, 1), (442, .aload_n 0, 1), (443, .iload 5, 2), (445, .iconst 1, 1), (446, .iadd, 1), (447, .iaload, 1), (448, .aload_n 3, 1), (449, .invokestatic 154, 3), (452, .istore 6, 2), (454, .aload_n 2, 1), (455, .aload_n 0, 1), (456, .iload 5, 2), (458, .iconst 1, 1), (459, .iadd, 1), (460, .iaload, 1)]
set_option maxRecDepth 100000 in
theorem kL_law_2 : ∀ q ∈ iL_law_2, decode cL_law q.1 = .ok q.2 := by decide +kernel
def iL_law_3 : List (Nat × Instr × Nat) := [(461, .invokevirtual 156, 3), (464, .istore 7, 2), (466, .aload_n 2, 1), (467, .invokevirtual 136, 3), (470, .iload 6, 2), (472, .if_icmp .eq 5, 3), (475, .iconst 0, 1), (476, .ireturn, 1), (477, .iload 6, 2), (479, .ifCond .ne 15, 3), (482, .aload_n 3, 1), (483, .iconst 0, 1), (484, .laload, 1), (485, .iload 7, 2), (487, .i2l, 1), (488, .lcmp, 1), (489, .ifCond .eq 5, 3), (492, .iconst 0, 1), (493, .ireturn, 1), (494, .goto 1636, 3), (497, .aload_n 1, 1), (498, .aload_n 0, 1), (499, .iload 5, 2), (501, .iconst 1, 1), (502, .iadd, 1), (503, .iaload, 1), (504, .aload_n 3, 1), (505, .invokestatic 157, 3), (508, .istore 6, 2), (510, .aload_n 2, 1), (511, .aload_n 0, 1), (512, .iload 5, 2), (514, .iconst 1, 1), (515, .iadd, 1), (516, .iaload, 1), (517, .invokevirtual 159, 3), (520, .istore 7, 2), (522, .aload_n 2, 1), (523, .invokevirtual 136, 3), (526, .iload 6, 2), (528, .if_icmp .eq 5, 3), (531, .iconst 0, 1), (532, .ireturn, 1), (533, .iload 6, 2), (535, .ifCond .ne 15, 3), (538, .aload_n 3, 1), (539, .iconst 0, 1), (540, .laload, 1), (541, .iload 7, 2), (543, .i2l, 1), (544, .lcmp, 1), (545, .ifCond .eq 5, 3), (548, .iconst 0, 1), (549, .ireturn, 1), (550, .goto 1580, 3), (553, .aload_n 1, 1), (554, .aload_n 0, 1), (555, .iload 5, 2), (557, .iconst 1, 1), (558, .iadd, 1)]
set_option maxRecDepth 100000 in
theorem kL_law_3 : ∀ q ∈ iL_law_3, decode cL_law q.1 = .ok q.2 := by decide +kernel
def iL_law_4 : List (Nat × Instr × Nat) := [(559, .iaload, 1), (560, .aload_n 3, 1), (561, .invokestatic 160, 3), (564, .istore 6, 2), (566, .aload_n 2, 1), (567, .aload_n 0, 1), (568, .iload 5, 2), (570, .iconst 1, 1), (571, .iadd, 1), (572, .iaload, 1), (573, .invokevirtual 162, 3), (576, .istore 7, 2), (578, .aload_n 2, 1), (579, .invokevirtual 136, 3), (582, .iload 6, 2), (584, .if_icmp .eq 5, 3), (587, .iconst 0, 1), (588, .ireturn, 1), (589, .iload 6, 2), (591, .ifCond .ne 15, 3), (594, .aload_n 3, 1), (595, .iconst 0, 1), (596, .laload, 1), (597, .iload 7, 2), (599, .i2l, 1), (600, .lcmp, 1), (601, .ifCond .eq 5, 3), (604, .iconst 0, 1), (605, .ireturn, 1), (606, .goto 1524, 3), (609, .aload_n 1, 1), (610, .aload_n 0, 1), (611, .iload 5, 2), (613, .iconst 1, 1), (614, .iadd, 1), (615, .iaload, 1), (616, .aload_n 3, 1), (617, .invokestatic 163, 3), (620, .istore 6, 2), (622, .aload_n 2, 1), (623, .aload_n 0, 1), (624, .iload 5, 2), (626, .iconst 1, 1), (627, .iadd, 1), (628, .iaload, 1), (629, .invokevirtual 165, 3), (632, .istore 7, 2), (634, .aload_n 2, 1), (635, .invokevirtual 136, 3), (638, .iload 6, 2), (640, .if_icmp .eq 5, 3), (643, .iconst 0, 1), (644, .ireturn, 1), (645, .iload 6, 2), (647, .ifCond .ne 15, 3), (650, .aload_n 3, 1), (651, .iconst 0, 1), (652, .laload, 1), (653, .iload 7, 2), (655, .i2l, 1)]
set_option maxRecDepth 100000 in
theorem kL_law_4 : ∀ q ∈ iL_law_4, decode cL_law q.1 = .ok q.2 := by decide +kernel
def iL_law_5 : List (Nat × Instr × Nat) := [(656, .lcmp, 1), (657, .ifCond .eq 5, 3), (660, .iconst 0, 1), (661, .ireturn, 1), (662, .goto 1468, 3), (665, .aload_n 1, 1), (666, .aload_n 0, 1), (667, .iload 5, 2), (669, .iconst 1, 1), (670, .iadd, 1), (671, .iaload, 1), (672, .aload_n 3, 1), (673, .invokestatic 166, 3), (676, .istore 6, 2), (678, .aload_n 2, 1), (679, .aload_n 0, 1), (680, .iload 5, 2), (682, .iconst 1, 1), (683, .iadd, 1), (684, .iaload, 1), (685, .invokevirtual 168, 3), (688, .istore 7, 2), (690, .aload_n 2, 1), (691, .invokevirtual 136, 3), (694, .iload 6, 2), (696, .if_icmp .eq 5, 3), (699, .iconst 0, 1), (700, .ireturn, 1), (701, .iload 6, 2), (703, .ifCond .ne 15, 3), (706, .aload_n 3, 1), (707, .iconst 0, 1), (708, .laload, 1), (709, .iload 7, 2), (711, .i2l, 1), (712, .lcmp, 1), (713, .ifCond .eq 5, 3), (716, .iconst 0, 1), (717, .ireturn, 1), (718, .goto 1412, 3), (721, .aload_n 1, 1), (722, .aload_n 3, 1), (723, .invokestatic 169, 3), (726, .istore 6, 2), (728, .aload_n 2, 1), (729, .invokevirtual 171, 3), (732, .istore 7, 2), (734, .aload_n 2, 1), (735, .invokevirtual 136, 3), (738, .iload 6, 2), (740, .if_icmp .eq 5, 3), (743, .iconst 0, 1), (744, .ireturn, 1), (745, .iload 6, 2), (747, .ifCond .ne 15, 3), (750, .aload_n 3, 1), (751, .iconst 0, 1), (752, .laload, 1), (753, .iload 7, 2), (755, .i2l, 1)]
set_option maxRecDepth 100000 in
theorem kL_law_5 : ∀ q ∈ iL_law_5, decode cL_law q.1 = .ok q.2 := by decide +kernel
def iL_law_6 : List (Nat × Instr × Nat) := [(756, .lcmp, 1), (757, .ifCond .eq 5, 3), (760, .iconst 0, 1), (761, .ireturn, 1), (762, .goto 1368, 3), (765, .aload_n 1, 1), (766, .aload_n 0, 1), (767, .iload 5, 2), (769, .iconst 1, 1), (770, .iadd, 1), (771, .iaload, 1), (772, .aload_n 0, 1), (773, .iload 5, 2), (775, .iconst 2, 1), (776, .iadd, 1), (777, .iaload, 1), (778, .aload_n 0, 1), (779, .iload 5, 2), (781, .iconst 3, 1), (782, .iadd, 1), (783, .iaload, 1), (784, .ifCond .eq 7, 3), (787, .iconst 1, 1), (788, .goto 4, 3), (791, .iconst 0, 1), (792, .aload_n 3, 1), (793, .invokestatic 172, 3), (796, .istore 6, 2), (798, .aload_n 2, 1), (799, .aload_n 0, 1), (800, .iload 5, 2), (802, .iconst 1, 1), (803, .iadd, 1), (804, .iaload, 1), (805, .aload_n 0, 1), (806, .iload 5, 2), (808, .iconst 2, 1), (809, .iadd, 1), (810, .iaload, 1), (811, .aload_n 0, 1), (812, .iload 5, 2), (814, .iconst 3, 1), (815, .iadd, 1), (816, .iaload, 1), (817, .ifCond .eq 7, 3), (820, .iconst 1, 1), (821, .goto 4, 3), (824, .iconst 0, 1), (825, .invokevirtual 175, 3), (828, .istore 7, 2), (830, .aload_n 2, 1), (831, .invokevirtual 136, 3), (834, .iload 6, 2), (836, .if_icmp .eq 5, 3), (839, .iconst 0, 1), (840, .ireturn, 1), (841, .iload 6, 2), (843, .ifCond .ne 15, 3), (846, .aload_n 3, 1), (847, .iconst 0, 1)]
set_option maxRecDepth 100000 in
theorem kL_law_6 : ∀ q ∈ iL_law_6, decode cL_law q.1 = .ok q.2 := by decide +kernel
def iL_law_7 : List (Nat × Instr × Nat) := [(848, .laload, 1), (849, .iload 7, 2), (851, .i2l, 1), (852, .lcmp, 1), (853, .ifCond .eq 5, 3), (856, .iconst 0, 1), (857, .ireturn, 1), (858, .goto 1272, 3), (861, .aload_n 1, 1), (862, .aload_n 0, 1), (863, .iload 5, 2), (865, .iconst 1, 1), (866, .iadd, 1), (867, .iaload, 1), (868, .aload_n 3, 1), (869, .invokestatic 176, 3), (872, .istore 6, 2), (874, .aload_n 2, 1), (875, .aload_n 0, 1), (876, .iload 5, 2), (878, .iconst 1, 1), (879, .iadd, 1), (880, .iaload, 1), (881, .invokevirtual 178, 3), (884, .istore 7, 2), (886, .aload_n 2, 1), (887, .invokevirtual 136, 3), (890, .iload 6, 2), (892, .if_icmp .eq 5, 3), (895, .iconst 0, 1), (896, .ireturn, 1), (897, .iload 6, 2), (899, .ifCond .ne 22, 3), (902, .aload_n 3, 1), (903, .iconst 0, 1), (904, .laload, 1), (905, .iload 7, 2), (907, .ifCond .eq 7, 3), (910, .lconst 1, 1), (911, .goto 4, 3), (914, .lconst 0, 1), (915, .lcmp, 1), (916, .ifCond .eq 5, 3), (919, .iconst 0, 1), (920, .ireturn, 1), (921, .goto 1209, 3), (924, .aload_n 1, 1), (925, .invokevirtual 179, 3), (928, .aload_n 2, 1), (929, .invokevirtual 182, 3), (932, .if_icmp .eq 1198, 3), (935, .iconst 0, 1), (936, .ireturn, 1), (937, .aload_n 1, 1), (938, .aload_n 0, 1), (939, .iload 5, 2), (941, .iconst 1, 1), (942, .iadd, 1), (943, .iaload, 1), (944, .aload_n 3, 1)]
set_option maxRecDepth 100000 in
theorem kL_law_7 : ∀ q ∈ iL_law_7, decode cL_law q.1 = .ok q.2 := by decide +kernel
def iL_law_8 : List (Nat × Instr × Nat) := [(945, .invokestatic 183, 3), (948, .istore 6, 2), (950, .aload_n 2, 1), (951, .aload_n 0, 1), (952, .iload 5, 2), (954, .iconst 1, 1), (955, .iadd, 1), (956, .iaload, 1), (957, .invokevirtual 185, 3), (960, .istore 7, 2), (962, .aload_n 2, 1), (963, .invokevirtual 136, 3), (966, .iload 6, 2), (968, .if_icmp .eq 5, 3), (971, .iconst 0, 1), (972, .ireturn, 1), (973, .iload 6, 2), (975, .ifCond .ne 15, 3), (978, .aload_n 3, 1), (979, .iconst 0, 1), (980, .laload, 1), (981, .iload 7, 2), (983, .i2l, 1), (984, .lcmp, 1), (985, .ifCond .eq 5, 3), (988, .iconst 0, 1), (989, .ireturn, 1), (990, .goto 1140, 3), (993, .aload_n 1, 1), (994, .aload_n 0, 1), (995, .iload 5, 2), (997, .iconst 1, 1), (998, .iadd, 1), (999, .iaload, 1), (1000, .aload_n 3, 1), (1001, .invokestatic 186, 3), (1004, .istore 6, 2), (1006, .aload_n 2, 1), (1007, .aload_n 0, 1), (1008, .iload 5, 2), (1010, .iconst 1, 1), (1011, .iadd, 1), (1012, .iaload, 1), (1013, .invokevirtual 188, 3), (1016, .istore 7, 2), (1018, .aload_n 2, 1), (1019, .invokevirtual 136, 3), (1022, .iload 6, 2), (1024, .if_icmp .eq 5, 3), (1027, .iconst 0, 1), (1028, .ireturn, 1), (1029, .iload 6, 2), (1031, .ifCond .ne 15, 3), (1034, .aload_n 3, 1), (1035, .iconst 0, 1), (1036, .laload, 1), (1037, .iload 7, 2), (1039, .i2l, 1), (1040, .lcmp, 1), (1041, .ifCond .eq 5, 3)]
set_option maxRecDepth 100000 in
theorem kL_law_8 : ∀ q ∈ iL_law_8, decode cL_law q.1 = .ok q.2 := by decide +kernel
def iL_law_9 : List (Nat × Instr × Nat) := [(1044, .iconst 0, 1), (1045, .ireturn, 1), (1046, .goto 1084, 3), (1049, .aload_n 1, 1), (1050, .aload_n 0, 1), (1051, .iload 5, 2), (1053, .iconst 1, 1), (1054, .iadd, 1), (1055, .iaload, 1), (1056, .aload_n 3, 1), (1057, .invokestatic 189, 3), (1060, .istore 6, 2), (1062, .aload_n 2, 1), (1063, .aload_n 0, 1), (1064, .iload 5, 2), (1066, .iconst 1, 1), (1067, .iadd, 1), (1068, .iaload, 1), (1069, .invokevirtual 191, 3), (1072, .istore 7, 2), (1074, .aload_n 2, 1), (1075, .invokevirtual 136, 3), (1078, .iload 6, 2), (1080, .if_icmp .eq 5, 3), (1083, .iconst 0, 1), (1084, .ireturn, 1), (1085, .iload 6, 2), (1087, .ifCond .ne 15, 3), (1090, .aload_n 3, 1), (1091, .iconst 0, 1), (1092, .laload, 1), (1093, .iload 7, 2), (1095, .i2l, 1), (1096, .lcmp, 1), (1097, .ifCond .eq 5, 3), (1100, .iconst 0, 1), (1101, .ireturn, 1), (1102, .goto 1028, 3), (1105, .aload_n 1, 1), (1106, .aload_n 0, 1), (1107, .iload 5, 2), (1109, .iconst 1, 1), (1110, .iadd, 1), (1111, .iaload, 1), (1112, .aload_n 3, 1), (1113, .invokestatic 192, 3), (1116, .istore 6, 2), (1118, .aload_n 2, 1), (1119, .aload_n 0, 1), (1120, .iload 5, 2), (1122, .iconst 1, 1), (1123, .iadd, 1), (1124, .iaload, 1), (1125, .invokevirtual 194, 3), (1128, .istore 7, 2), (1130, .aload_n 2, 1), (1131, .invokevirtual 136, 3), (1134, .iload 6, 2), (1136, .if_icmp .eq 5, 3), (1139, .iconst 0, 1)]
set_option maxRecDepth 100000 in
theorem kL_law_9 : ∀ q ∈ iL_law_9, decode cL_law q.1 = .ok q.2 := by decide +kernel
def iL_law_10 : List (Nat × Instr × Nat) := [(1140, .ireturn, 1), (1141, .iload 6, 2), (1143, .ifCond .ne 22, 3), (1146, .aload_n 3, 1), (1147, .iconst 0, 1), (1148, .laload, 1), (1149, .iload 7, 2), (1151, .ifCond .eq 7, 3), (1154, .lconst 1, 1), (1155, .goto 4, 3), (1158, .lconst 0, 1), (1159, .lcmp, 1), (1160, .ifCond .eq 5, 3), (1163, .iconst 0, 1), (1164, .ireturn, 1), (1165, .goto 965, 3), (1168, .aload_n 1, 1), (1169, .invokevirtual 195, 3), (1172, .aload_n 2, 1), (1173, .invokevirtual 198, 3), (1176, .if_icmp .eq 954, 3), (1179, .iconst 0, 1), (1180, .ireturn, 1), (1181, .aload_n 1, 1), (1182, .aload_n 3, 1), (1183, .invokestatic 199, 3), (1186, .istore 6, 2), (1188, .aload_n 2, 1), (1189, .invokevirtual 201, 3), (1192, .istore 7, 2), (1194, .aload_n 2, 1), (1195, .invokevirtual 136, 3), (1198, .iload 6, 2), (1200, .if_icmp .eq 5, 3), (1203, .iconst 0, 1), (1204, .ireturn, 1), (1205, .iload 6, 2), (1207, .ifCond .ne 15, 3), (1210, .aload_n 3, 1), (1211, .iconst 0, 1), (1212, .laload, 1), (1213, .iload 7, 2), (1215, .i2l, 1), (1216, .lcmp, 1), (1217, .ifCond .eq 5, 3), (1220, .iconst 0, 1), (1221, .ireturn, 1), (1222, .goto 908, 3), (1225, .aload_n 1, 1), (1226, .aload_n 0, 1), (1227, .iload 5, 2), (1229, .iconst 1, 1), (1230, .iadd, 1), (1231, .iaload, 1), (1232, .aload_n 3, 1), (1233, .invokestatic 202, 3), (1236, .istore 6, 2), (1238, .aload_n 2, 1), (1239, .aload_n 0, 1), (1240, .iload 5, 2)]
set_option maxRecDepth 100000 in
theorem kL_law_10 : ∀ q ∈ iL_law_10, decode cL_law q.1 = .ok q.2 := by decide +kernel
def iL_law_11 : List (Nat × Instr × Nat) := [(1242, .iconst 1, 1), (1243, .iadd, 1), (1244, .iaload, 1), (1245, .invokevirtual 204, 3), (1248, .istore 7, 2), (1250, .aload_n 2, 1), (1251, .invokevirtual 136, 3), (1254, .iload 6, 2), (1256, .if_icmp .eq 5, 3), (1259, .iconst 0, 1), (1260, .ireturn, 1), (1261, .iload 6, 2), (1263, .ifCond .ne 22, 3), (1266, .aload_n 3, 1), (1267, .iconst 0, 1), (1268, .laload, 1), (1269, .iload 7, 2), (1271, .ifCond .eq 7, 3), (1274, .lconst 1, 1), (1275, .goto 4, 3), (1278, .lconst 0, 1), (1279, .lcmp, 1), (1280, .ifCond .eq 5, 3), (1283, .iconst 0, 1), (1284, .ireturn, 1), (1285, .goto 845, 3), (1288, .aload_n 1, 1), (1289, .aload_n 0, 1), (1290, .iload 5, 2), (1292, .iconst 1, 1), (1293, .iadd, 1), (1294, .iaload, 1), (1295, .aload_n 3, 1), (1296, .invokestatic 205, 3), (1299, .istore 6, 2), (1301, .aload_n 2, 1), (1302, .aload_n 0, 1), (1303, .iload 5, 2), (1305, .iconst 1, 1), (1306, .iadd, 1), (1307, .iaload, 1), (1308, .invokevirtual 207, 3), (1311, .istore 7, 2), (1313, .aload_n 2, 1), (1314, .invokevirtual 136, 3), (1317, .iload 6, 2), (1319, .if_icmp .eq 5, 3), (1322, .iconst 0, 1), (1323, .ireturn, 1), (1324, .iload 6, 2), (1326, .ifCond .ne 15, 3), (1329, .aload_n 3, 1), (1330, .iconst 0, 1), (1331, .laload, 1), (1332, .iload 7, 2), (1334, .i2l, 1), (1335, .lcmp, 1), (1336, .ifCond .eq 5, 3), (1339, .iconst 0, 1), (1340, .ireturn, 1)]
set_option maxRecDepth 100000 in
theorem kL_law_11 : ∀ q ∈ iL_law_11, decode cL_law q.1 = .ok q.2 := by decide +kernel
def iL_law_12 : List (Nat × Instr × Nat) := [(1341, .goto 789, 3), (1344, .aload_n 1, 1), (1345, .aload_n 3, 1), (1346, .invokestatic 208, 3), (1349, .istore 6, 2), (1351, .aload_n 2, 1), (1352, .invokevirtual 210, 3), (1355, .istore 7, 2), (1357, .aload_n 2, 1), (1358, .invokevirtual 136, 3), (1361, .iload 6, 2), (1363, .if_icmp .eq 5, 3), (1366, .iconst 0, 1), (1367, .ireturn, 1), (1368, .iload 6, 2), (1370, .ifCond .ne 15, 3), (1373, .aload_n 3, 1), (1374, .iconst 0, 1), (1375, .laload, 1), (1376, .iload 7, 2), (1378, .i2l, 1), (1379, .lcmp, 1), (1380, .ifCond .eq 5, 3), (1383, .iconst 0, 1), (1384, .ireturn, 1), (1385, .goto 745, 3), (1388, .aload_n 1, 1), (1389, .aload_n 0, 1), (1390, .iload 5, 2), (1392, .iconst 1, 1), (1393, .iadd, 1), (1394, .iaload, 1), (1395, .aload_n 0, 1), (1396, .iload 5, 2), (1398, .iconst 2, 1), (1399, .iadd, 1), (1400, .iaload, 1), (1401, .aload_n 3, 1), (1402, .invokestatic 211, 3), (1405, .istore 6, 2), (1407, .aload_n 2, 1), (1408, .aload_n 0, 1), (1409, .iload 5, 2), (1411, .iconst 1, 1), (1412, .iadd, 1), (1413, .iaload, 1), (1414, .aload_n 0, 1), (1415, .iload 5, 2), (1417, .iconst 2, 1), (1418, .iadd, 1), (1419, .iaload, 1), (1420, .invokevirtual 213, 3), (1423, .istore 7, 2), (1425, .aload_n 2, 1), (1426, .invokevirtual 136, 3), (1429, .iload 6, 2), (1431, .if_icmp .eq 5, 3), (1434, .iconst 0, 1), (1435, .ireturn, 1), (1436, .iload 6, 2)]
set_option maxRecDepth 100000 in
theorem kL_law_12 : ∀ q ∈ iL_law_12, decode cL_law q.1 = .ok q.2 := by decide +kernel
def iL_law_13 : List (Nat × Instr × Nat) := [(1438, .ifCond .ne 15, 3), (1441, .aload_n 3, 1), (1442, .iconst 0, 1), (1443, .laload, 1), (1444, .iload 7, 2), (1446, .i2l, 1), (1447, .lcmp, 1), (1448, .ifCond .eq 5, 3), (1451, .iconst 0, 1), (1452, .ireturn, 1), (1453, .goto 677, 3), (1456, .aload_n 1, 1), (1457, .aload_n 0, 1), (1458, .iload 5, 2), (1460, .iconst 1, 1), (1461, .iadd, 1), (1462, .iaload, 1), (1463, .aload_n 0, 1), (1464, .iload 5, 2), (1466, .iconst 2, 1), (1467, .iadd, 1), (1468, .iaload, 1), (1469, .aload_n 3, 1), (1470, .invokestatic 214, 3), (1473, .istore 6, 2), (1475, .aload_n 2, 1), (1476, .aload_n 0, 1), (1477, .iload 5, 2), (1479, .iconst 1, 1), (1480, .iadd, 1), (1481, .iaload, 1), (1482, .aload_n 0, 1), (1483, .iload 5, 2), (1485, .iconst 2, 1), (1486, .iadd, 1), (1487, .iaload, 1), (1488, .invokevirtual 216, 3), (1491, .istore 7, 2), (1493, .aload_n 2, 1), (1494, .invokevirtual 136, 3), (1497, .iload 6, 2), (1499, .if_icmp .eq 5, 3), (1502, .iconst 0, 1), (1503, .ireturn, 1), (1504, .iload 6, 2), (1506, .ifCond .ne 15, 3), (1509, .aload_n 3, 1), (1510, .iconst 0, 1), (1511, .laload, 1), (1512, .iload 7, 2), (1514, .i2l, 1), (1515, .lcmp, 1), (1516, .ifCond .eq 5, 3), (1519, .iconst 0, 1), (1520, .ireturn, 1), (1521, .goto 609, 3), (1524, .aload_n 1, 1), (1525, .aload_n 3, 1), (1526, .invokestatic 217, 3), (1529, .istore 6, 2)]
set_option maxRecDepth 100000 in
theorem kL_law_13 : ∀ q ∈ iL_law_13, decode cL_law q.1 = .ok q.2 := by decide +kernel
def iL_law_14 : List (Nat × Instr × Nat) := [(1531, .aload_n 2, 1), (1532, .invokevirtual 219, 3), (1535, .istore 7, 2), (1537, .aload_n 2, 1), (1538, .invokevirtual 136, 3), (1541, .iload 6, 2), (1543, .if_icmp .eq 5, 3), (1546, .iconst 0, 1), (1547, .ireturn, 1), (1548, .iload 6, 2), (1550, .ifCond .ne 15, 3), (1553, .aload_n 3, 1), (1554, .iconst 0, 1), (1555, .laload, 1), (1556, .iload 7, 2), (1558, .i2l, 1), (1559, .lcmp, 1), (1560, .ifCond .eq 5, 3), (1563, .iconst 0, 1), (1564, .ireturn, 1), (1565, .goto 565, 3), (1568, .aload_n 1, 1), (1569, .aload_n 0, 1), (1570, .iload 5, 2), (1572, .iconst 1, 1), (1573, .iadd, 1), (1574, .iaload, 1), (1575, .aload_n 3, 1), (1576, .invokestatic 220, 3), (1579, .istore 6, 2), (1581, .aload_n 2, 1), (1582, .aload_n 0, 1), (1583, .iload 5, 2), (1585, .iconst 1, 1), (1586, .iadd, 1), (1587, .iaload, 1), (1588, .invokevirtual 222, 3), (1591, .istore 7, 2), (1593, .aload_n 2, 1), (1594, .invokevirtual 136, 3), (1597, .iload 6, 2), (1599, .if_icmp .eq 5, 3), (1602, .iconst 0, 1), (1603, .ireturn, 1), (1604, .iload 6, 2), (1606, .ifCond .ne 15, 3), (1609, .aload_n 3, 1), (1610, .iconst 0, 1), (1611, .laload, 1), (1612, .iload 7, 2), (1614, .i2l, 1), (1615, .lcmp, 1), (1616, .ifCond .eq 5, 3), (1619, .iconst 0, 1), (1620, .ireturn, 1), (1621, .goto 509, 3), (1624, .aload_n 1, 1), (1625, .aload_n 0, 1), (1626, .iload 5, 2), (1628, .iconst 1, 1)]
set_option maxRecDepth 100000 in
theorem kL_law_14 : ∀ q ∈ iL_law_14, decode cL_law q.1 = .ok q.2 := by decide +kernel
def iL_law_15 : List (Nat × Instr × Nat) := [(1629, .iadd, 1), (1630, .iaload, 1), (1631, .aload_n 3, 1), (1632, .invokestatic 223, 3), (1635, .istore 6, 2), (1637, .aload_n 2, 1), (1638, .aload_n 0, 1), (1639, .iload 5, 2), (1641, .iconst 1, 1), (1642, .iadd, 1), (1643, .iaload, 1), (1644, .invokevirtual 225, 3), (1647, .istore 7, 2), (1649, .aload_n 2, 1), (1650, .invokevirtual 136, 3), (1653, .iload 6, 2), (1655, .if_icmp .eq 5, 3), (1658, .iconst 0, 1), (1659, .ireturn, 1), (1660, .iload 6, 2), (1662, .ifCond .ne 15, 3), (1665, .aload_n 3, 1), (1666, .iconst 0, 1), (1667, .laload, 1), (1668, .iload 7, 2), (1670, .i2l, 1), (1671, .lcmp, 1), (1672, .ifCond .eq 5, 3), (1675, .iconst 0, 1), (1676, .ireturn, 1), (1677, .goto 453, 3), (1680, .aload_n 1, 1), (1681, .aload_n 0, 1), (1682, .iload 5, 2), (1684, .iconst 1, 1), (1685, .iadd, 1), (1686, .iaload, 1), (1687, .aload_n 3, 1), (1688, .invokestatic 226, 3), (1691, .istore 6, 2), (1693, .aload_n 2, 1), (1694, .aload_n 0, 1), (1695, .iload 5, 2), (1697, .iconst 1, 1), (1698, .iadd, 1), (1699, .iaload, 1), (1700, .invokevirtual 228, 3), (1703, .lstore 7, 2), (1705, .aload_n 2, 1), (1706, .invokevirtual 136, 3), (1709, .iload 6, 2), (1711, .if_icmp .eq 5, 3), (1714, .iconst 0, 1), (1715, .ireturn, 1), (1716, .iload 6, 2), (1718, .ifCond .ne 14, 3), (1721, .aload_n 3, 1), (1722, .iconst 0, 1), (1723, .laload, 1), (1724, .lload 7, 2)]
set_option maxRecDepth 100000 in
theorem kL_law_15 : ∀ q ∈ iL_law_15, decode cL_law q.1 = .ok q.2 := by decide +kernel
def iL_law_16 : List (Nat × Instr × Nat) := [(1726, .lcmp, 1), (1727, .ifCond .eq 5, 3), (1730, .iconst 0, 1), (1731, .ireturn, 1), (1732, .goto 398, 3), (1735, .aload_n 1, 1), (1736, .aload 4, 2), (1738, .invokestatic 229, 3), (1741, .istore 6, 2), (1743, .aload_n 2, 1), (1744, .invokevirtual 232, 3), (1747, .fstore 7, 2), (1749, .aload_n 2, 1), (1750, .invokevirtual 136, 3), (1753, .iload 6, 2), (1755, .if_icmp .eq 5, 3), (1758, .iconst 0, 1), (1759, .ireturn, 1), (1760, .iload 6, 2), (1762, .ifCond .ne 36, 3), (1765, .aload 4, 2), (1767, .iconst 0, 1), (1768, .daload, 1), (1769, .fload 7, 2), (1771, .f2d, 1), (1772, .dcmp .l, 1), (1773, .ifCond .eq 25, 3), (1776, .aload 4, 2), (1778, .iconst 0, 1), (1779, .daload, 1), (1780, .aload 4, 2), (1782, .iconst 0, 1), (1783, .daload, 1), (1784, .dcmp .l, 1), (1785, .ifCond .eq 11, 3), (1788, .fload 7, 2), (1790, .fload 7, 2), (1792, .fcmp .l, 1), (1793, .ifCond .ne 5, 3), (1796, .iconst 0, 1), (1797, .ireturn, 1), (1798, .goto 332, 3), (1801, .aload_n 1, 1), (1802, .aload_n 0, 1), (1803, .iload 5, 2), (1805, .iconst 1, 1), (1806, .iadd, 1), (1807, .iaload, 1), (1808, .aload_n 3, 1), (1809, .invokestatic 233, 3), (1812, .istore 6, 2), (1814, .aload_n 2, 1), (1815, .aload_n 0, 1), (1816, .iload 5, 2), (1818, .iconst 1, 1), (1819, .iadd, 1), (1820, .iaload, 1), (1821, .invokevirtual 235, 3), (1824, .istore 7, 2), (1826, .aload_n 2, 1)]
set_option maxRecDepth 100000 in
theorem kL_law_16 : ∀ q ∈ iL_law_16, decode cL_law q.1 = .ok q.2 := by decide +kernel
def iL_law_17 : List (Nat × Instr × Nat) := [(1827, .invokevirtual 136, 3), (1830, .iload 6, 2), (1832, .if_icmp .eq 5, 3), (1835, .iconst 0, 1), (1836, .ireturn, 1), (1837, .iload 6, 2), (1839, .ifCond .ne 15, 3), (1842, .aload_n 3, 1), (1843, .iconst 0, 1), (1844, .laload, 1), (1845, .iload 7, 2), (1847, .i2l, 1), (1848, .lcmp, 1), (1849, .ifCond .eq 5, 3), (1852, .iconst 0, 1), (1853, .ireturn, 1), (1854, .goto 276, 3), (1857, .aload_n 1, 1), (1858, .invokevirtual 236, 3), (1861, .aload_n 2, 1), (1862, .invokevirtual 239, 3), (1865, .if_icmp .eq 265, 3), (1868, .iconst 0, 1), (1869, .ireturn, 1), (1870, .aload_n 1, 1), (1871, .invokevirtual 240, 3), (1874, .aload_n 2, 1), (1875, .invokevirtual 244, 3), (1878, .if_icmp .eq 252, 3), (1881, .iconst 0, 1), (1882, .ireturn, 1), (1883, .aload_n 1, 1), (1884, .invokevirtual 245, 3), (1887, .aload_n 2, 1), (1888, .invokevirtual 248, 3), (1891, .if_icmp .eq 239, 3), (1894, .iconst 0, 1), (1895, .ireturn, 1), (1896, .aload_n 1, 1), (1897, .aload_n 3, 1), (1898, .invokestatic 249, 3), (1901, .istore 6, 2), (1903, .aload_n 2, 1), (1904, .invokevirtual 251, 3), (1907, .istore 7, 2), (1909, .aload_n 2, 1), (1910, .invokevirtual 136, 3), (1913, .iload 6, 2), (1915, .if_icmp .eq 5, 3), (1918, .iconst 0, 1), (1919, .ireturn, 1), (1920, .iload 6, 2), (1922, .ifCond .ne 15, 3), (1925, .aload_n 3, 1), (1926, .iconst 0, 1), (1927, .laload, 1), (1928, .iload 7, 2), (1930, .i2l, 1), (1931, .lcmp, 1), (1932, .ifCond .eq 5, 3)]
set_option maxRecDepth 100000 in
theorem kL_law_17 : ∀ q ∈ iL_law_17, decode cL_law q.1 = .ok q.2 := by decide +kernel
def iL_law_18 : List (Nat × Instr × Nat) := [(1935, .iconst 0, 1), (1936, .ireturn, 1), (1937, .goto 193, 3), (1940, .aload_n 1, 1), (1941, .aload_n 0, 1), (1942, .iload 5, 2), (1944, .iconst 1, 1), (1945, .iadd, 1), (1946, .iaload, 1), (1947, .aload_n 3, 1), (1948, .invokestatic 252, 3), (1951, .istore 6, 2), (1953, .aload_n 2, 1), (1954, .aload_n 0, 1), (1955, .iload 5, 2), (1957, .iconst 1, 1), (1958, .iadd, 1), (1959, .iaload, 1), (1960, .invokevirtual 254, 3), (1963, .istore 7, 2), (1965, .aload_n 2, 1), (1966, .invokevirtual 136, 3), (1969, .iload 6, 2), (1971, .if_icmp .eq 5, 3), (1974, .iconst 0, 1), (1975, .ireturn, 1), (1976, .iload 6, 2), (1978, .ifCond .ne 15, 3), (1981, .aload_n 3, 1), (1982, .iconst 0, 1), (1983, .laload, 1), (1984, .iload 7, 2), (1986, .i2l, 1), (1987, .lcmp, 1), (1988, .ifCond .eq 5, 3), (1991, .iconst 0, 1), (1992, .ireturn, 1), (1993, .goto 137, 3), (1996, .aload_n 1, 1), (1997, .aload_n 0, 1), (1998, .iload 5, 2), (2000, .iconst 1, 1), (2001, .iadd, 1), (2002, .iaload, 1), (2003, .aload_n 3, 1), (2004, .invokestatic 255, 3), (2007, .istore 6, 2), (2009, .aload_n 2, 1), (2010, .aload_n 0, 1), (2011, .iload 5, 2), (2013, .iconst 1, 1), (2014, .iadd, 1), (2015, .iaload, 1), (2016, .invokevirtual 257, 3), (2019, .istore 7, 2), (2021, .aload_n 2, 1), (2022, .invokevirtual 136, 3), (2025, .iload 6, 2), (2027, .if_icmp .eq 5, 3), (2030, .iconst 0, 1)]
set_option maxRecDepth 100000 in
theorem kL_law_18 : ∀ q ∈ iL_law_18, decode cL_law q.1 = .ok q.2 := by decide +kernel
def iL_law_19 : List (Nat × Instr × Nat) := [(2031, .ireturn, 1), (2032, .iload 6, 2), (2034, .ifCond .ne 15, 3), (2037, .aload_n 3, 1), (2038, .iconst 0, 1), (2039, .laload, 1), (2040, .iload 7, 2), (2042, .i2l, 1), (2043, .lcmp, 1), (2044, .ifCond .eq 5, 3), (2047, .iconst 0, 1), (2048, .ireturn, 1), (2049, .goto 81, 3), (2052, .aload_n 1, 1), (2053, .aload 4, 2), (2055, .invokestatic 258, 3), (2058, .istore 6, 2), (2060, .aload_n 2, 1), (2061, .invokevirtual 260, 3), (2064, .dstore 7, 2), (2066, .aload_n 2, 1), (2067, .invokevirtual 136, 3), (2070, .iload 6, 2), (2072, .if_icmp .eq 5, 3), (2075, .iconst 0, 1), (2076, .ireturn, 1), (2077, .iload 6, 2), (2079, .ifCond .ne 35, 3), (2082, .aload 4, 2), (2084, .iconst 0, 1), (2085, .daload, 1), (2086, .dload 7, 2), (2088, .dcmp .l, 1), (2089, .ifCond .eq 25, 3), (2092, .aload 4, 2), (2094, .iconst 0, 1), (2095, .daload, 1), (2096, .aload 4, 2), (2098, .iconst 0, 1), (2099, .daload, 1), (2100, .dcmp .l, 1), (2101, .ifCond .eq 11, 3), (2104, .dload 7, 2), (2106, .dload 7, 2), (2108, .dcmp .l, 1), (2109, .ifCond .ne 5, 3), (2112, .iconst 0, 1), (2113, .ireturn, 1), (2114, .goto 16, 3), (2117, .aload_n 1, 1), (2118, .invokevirtual 261, 3), (2121, .aload_n 2, 1), (2122, .invokevirtual 264, 3), (2125, .if_icmp .eq 5, 3), (2128, .iconst 0, 1), (2129, .ireturn, 1), (2130, .iinc 5 4, 3), (2133, .goto (-2105), 3), (2136, .iconst 1, 1), (2137, .ireturn, 1)]
set_option maxRecDepth 100000 in
theorem kL_law_19 : ∀ q ∈ iL_law_19, decode cL_law q.1 = .ok q.2 := by decide +kernel
def iL_law : List (Nat × Instr × Nat) := iL_law_0 ++ (iL_law_1 ++ (iL_law_2 ++ (iL_law_3 ++ (iL_law_4 ++ (iL_law_5 ++ (iL_law_6 ++ (iL_law_7 ++ (iL_law_8 ++ (iL_law_9 ++ (iL_law_10 ++ (iL_law_11 ++ (iL_law_12 ++ (iL_law_13 ++ (iL_law_14 ++ (iL_law_15 ++ (iL_law_16 ++ (iL_law_17 ++ (iL_law_18 ++ (iL_law_19)))))))))))))))))))
theorem kL_law : ∀ q ∈ iL_law, decode cL_law q.1 = .ok q.2 := List.forall_mem_append.mpr ⟨kL_law_0, List.forall_mem_append.mpr ⟨kL_law_1, List.forall_mem_append.mpr ⟨kL_law_2, List.forall_mem_append.mpr ⟨kL_law_3, List.forall_mem_append.mpr ⟨kL_law_4, List.forall_mem_append.mpr ⟨kL_law_5, List.forall_mem_append.mpr ⟨kL_law_6, List.forall_mem_append.mpr ⟨kL_law_7, List.forall_mem_append.mpr ⟨kL_law_8, List.forall_mem_append.mpr ⟨kL_law_9, List.forall_mem_append.mpr ⟨kL_law_10, List.forall_mem_append.mpr ⟨kL_law_11, List.forall_mem_append.mpr ⟨kL_law_12, List.forall_mem_append.mpr ⟨kL_law_13, List.forall_mem_append.mpr ⟨kL_law_14, List.forall_mem_append.mpr ⟨kL_law_15, List.forall_mem_append.mpr ⟨kL_law_16, List.forall_mem_append.mpr ⟨kL_law_17, List.forall_mem_append.mpr ⟨kL_law_18, kL_law_19⟩⟩⟩⟩⟩⟩⟩⟩⟩⟩⟩⟩⟩⟩⟩⟩⟩⟩⟩
end
section
/-! THE SMALL MACHINE: the bytecode run over numbers. A value is its kind (0 int, 1 reference, 2 long, 3 float, 4 double, 9 nothing known) with its number; a reference is the number of its cell, -1 null, -2 and below arrays that are only read. A state: what each cell is (kind, class, length), what it holds, how many cells and slots were made. -/
abbrev zV : Type := Nat × Int
abbrev zW : Type := Nat → Nat → Int
abbrev zLE : Type := Nat × Nat × Nat
abbrev zS : Type := List zLE × zW × Nat × Nat
/-- a method: name, bytes, instructions, locals, what it returns, its table, its class's number -/
abbrev zM : Type := MethodName × ByteArray × List (Nat × Instr × Nat) × Nat × Option FieldType × List (Nat × Nat × Nat × Nat) × Nat
abbrev zR : Type := (Option zV ⊕ String) × zS
abbrev zRo : Type := Int → Option (Nat × (Nat → Int))
def zget : List (Nat × Instr × Nat) → Nat → Option (Instr × Nat)
  | [], _ => none
  | q :: r, k => bif Nat.beq q.1 k then some q.2 else zget r k
def zi32 (z : Int) : Prop := -2147483648 ≤ z ∧ z < 2147483648
def zi64 (z : Int) : Prop := -9223372036854775808 ≤ z ∧ z < 9223372036854775808
def zw32 (z : Int) : Int := Int.bmod z 4294967296
def zw64 (z : Int) : Int := Int.bmod z 18446744073709551616
def zup (w : zW) (a j : Nat) (v : Int) : zW := fun i k => if i = a ∧ k = j then v else w i k
def znew (S : zS) (e : zLE) (f : Nat → Int) : zS := (S.1 ++ [e], fun i k => if i = S.1.length then f k else S.2.1 i k, S.2.2.1 + 1, S.2.2.2 + e.2.2)
def zset (S : zS) (a j : Nat) (v : Int) : zS := (S.1, zup S.2.1 a j v, S.2.2.1, S.2.2.2)
def zput (ls : List zV) (i : Nat) (v : zV) : List zV :=
  match i with
  | 0 => ls.set 0 v
  | k + 1 => match ls[k]? with
    | some (2, _) => (ls.set (k + 1) v).set k (9, 0)
    | some (4, _) => (ls.set (k + 1) v).set k (9, 0)
    | _ => ls.set (k + 1) v
def zput2 (ls : List zV) (i : Nat) (v : zV) : List zV := (zput ls i v).set (i + 1) (9, 0)
/-- the value that an instruction pushes, where it needs nothing of the stack -/
def zpush (con : Nat → Option Int) (i : Instr) (len : Nat) (ls : List zV) : Option zV :=
  match i, len with
  | .iconst n, 1 => if -1 ≤ n ∧ n ≤ 5 then some (0, n) else none
  | .bipush n, 2 => if -128 ≤ n ∧ n < 128 then some (0, n) else none
  | .sipush n, 3 => if -32768 ≤ n ∧ n < 32768 then some (0, n) else none
  | .lconst n, 1 => some (2, (n.val : Int))
  | .fconst n, 1 => if n.val = 0 then some (3, (FP.fconst0.toNat : Int)) else none
  | .dconst n, 1 => if n.val = 0 then some (4, (FP.dconst0.toNat : Int)) else none
  | .aconst_null, 1 => some (1, -1)
  | .ldc k, 2 => match con k with | some v => some (0, v) | none => none
  | .ldc_w k, 3 => match con k with | some v => some (0, v) | none => none
  | .iload_n k, 1 => match ls[k.val]? with | some (0, v) => some (0, v) | _ => none
  | .iload k, 2 => match ls[k]? with | some (0, v) => some (0, v) | _ => none
  | .aload_n k, 1 => match ls[k.val]? with | some (1, v) => some (1, v) | _ => none
  | .aload k, 2 => match ls[k]? with | some (1, v) => some (1, v) | _ => none
  | .lload_n k, 1 => match ls[k.val]? with | some (2, v) => some (2, v) | _ => none
  | .lload k, 2 => match ls[k]? with | some (2, v) => some (2, v) | _ => none
  | .fload_n k, 1 => match ls[k.val]? with | some (3, v) => some (3, v) | _ => none
  | .fload k, 2 => match ls[k]? with | some (3, v) => some (3, v) | _ => none
  | .dload_n k, 1 => match ls[k.val]? with | some (4, v) => some (4, v) | _ => none
  | .dload k, 2 => match ls[k]? with | some (4, v) => some (4, v) | _ => none
  | _, _ => none
/-- what goes into the locals -/
def zstore (i : Instr) (len : Nat) (ls st : List zV) : Option (List zV × List zV) :=
  match i, len, st with
  | .istore_n k, 1, (0, v) :: st => if k.val < ls.length then some (zput ls k.val (0, v), st) else none
  | .istore k, 2, (0, v) :: st => if k < ls.length then some (zput ls k (0, v), st) else none
  | .astore_n k, 1, (1, v) :: st => if k.val < ls.length then some (zput ls k.val (1, v), st) else none
  | .astore k, 2, (1, v) :: st => if k < ls.length then some (zput ls k (1, v), st) else none
  | .fstore_n k, 1, (3, v) :: st => if k.val < ls.length then some (zput ls k.val (3, v), st) else none
  | .fstore k, 2, (3, v) :: st => if k < ls.length then some (zput ls k (3, v), st) else none
  | .lstore_n k, 1, (2, v) :: st => if k.val + 1 < ls.length then some (zput2 ls k.val (2, v), st) else none
  | .lstore k, 2, (2, v) :: st => if k + 1 < ls.length then some (zput2 ls k (2, v), st) else none
  | .dstore_n k, 1, (4, v) :: st => if k.val + 1 < ls.length then some (zput2 ls k.val (4, v), st) else none
  | .dstore k, 2, (4, v) :: st => if k + 1 < ls.length then some (zput2 ls k (4, v), st) else none
  | .iinc k n, 3, st => match ls[k]? with | some (0, v) => some (zput ls k (0, zw32 (v + n)), st) | _ => none
  | _, _, _ => none
def zn32 (r : UInt32) : Bool := decide (r &&& 0x7fffffff ≤ 0x7f800000)
def zn64 (r : UInt64) : Bool := decide (r &&& 0x7fffffffffffffff ≤ 0x7ff0000000000000)
def zcat1 (v : zV) : Prop := v.1 = 0 ∨ v.1 = 1 ∨ v.1 = 3
/-- what happens on the stack alone -/
def zarith (mth : Nat → Nat) (i : Instr) (len : Nat) (st : List zV) : Option (List zV) :=
  match i, len, st with
  | .iadd, 1, (0, b) :: (0, a) :: st => some ((0, zw32 (a + b)) :: st)
  | .isub, 1, (0, b) :: (0, a) :: st => some ((0, zw32 (a - b)) :: st)
  | .imul, 1, (0, b) :: (0, a) :: st => some ((0, zw32 (a * b)) :: st)
  | .iand, 1, (0, b) :: (0, a) :: st => some ((0, (Int32.ofInt a &&& Int32.ofInt b).toInt) :: st)
  | .idiv, 1, (0, b) :: (0, a) :: st => if 0 < b then some ((0, a.tdiv b) :: st) else none
  | .ladd, 1, (2, b) :: (2, a) :: st => some ((2, zw64 (a + b)) :: st)
  | .lcmp, 1, (2, b) :: (2, a) :: st => some ((0, if a < b then -1 else if a = b then 0 else 1) :: st)
  | .i2l, 1, (0, a) :: st => some ((2, a) :: st)
  | .i2f, 1, (0, a) :: st => some ((3, ((FP.i2f (Int32.ofInt a)).toNat : Int)) :: st)
  | .l2f, 1, (2, a) :: st => some ((3, ((FP.l2f (Int64.ofInt a)).toNat : Int)) :: st)
  | .i2d, 1, (0, a) :: st => some ((4, ((FP.i2d (Int32.ofInt a)).toNat : Int)) :: st)
  | .f2d, 1, (3, a) :: st => if zn64 (FP.f2d (UInt32.ofNat a.toNat)) = true then some ((4, ((FP.f2d (UInt32.ofNat a.toNat)).toNat : Int)) :: st) else none
  | .fdiv, 1, (3, b) :: (3, a) :: st => if zn32 (FP.fdiv (UInt32.ofNat a.toNat) (UInt32.ofNat b.toNat)) = true then some ((3, ((FP.fdiv (UInt32.ofNat a.toNat) (UInt32.ofNat b.toNat)).toNat : Int)) :: st) else none
  | .ddiv, 1, (4, b) :: (4, a) :: st => if zn64 (FP.ddiv (UInt64.ofNat a.toNat) (UInt64.ofNat b.toNat)) = true then some ((4, ((FP.ddiv (UInt64.ofNat a.toNat) (UInt64.ofNat b.toNat)).toNat : Int)) :: st) else none
  | .fcmp op, 1, (3, b) :: (3, a) :: st => some ((0, (Op.cmpValue (FP.fcmp (UInt32.ofNat a.toNat) (UInt32.ofNat b.toNat)) op).toInt) :: st)
  | .dcmp op, 1, (4, b) :: (4, a) :: st => some ((0, (Op.cmpValue (FP.dcmp (UInt64.ofNat a.toNat) (UInt64.ofNat b.toNat)) op).toInt) :: st)
  | .dup, 1, (t, a) :: st => if t = 0 ∨ t = 1 then some ((t, a) :: (t, a) :: st) else none
  | .dup2, 1, (0, b) :: (1, a) :: st => some ((0, b) :: (1, a) :: (0, b) :: (1, a) :: st)
  | .pop, 1, (t, _) :: st => if t = 0 ∨ t = 1 then some st else none
  | .invokestatic k, 3, (0, b) :: (0, a) :: st => if st.length ≤ 50 then (if mth k = 1 then some ((0, if a < b then b else a) :: st) else if mth k = 2 then some ((0, if a < b then a else b) :: st) else none) else none
  | .invokespecial k, 3, (1, o) :: st => if mth k = 3 ∧ 0 ≤ o ∧ st.length ≤ 50 then some st else none
  | _, _, _ => none
def zc0 (c : ClassFile.Cond) (a : Int) : Bool := match c with
  | .eq => decide (a = 0) | .ne => !decide (a = 0) | .lt => decide (a < 0) | .ge => !decide (a < 0) | .gt => decide (0 < a) | .le => !decide (0 < a)
def zc2 (c : ClassFile.Cond) (a b : Int) : Bool := match c with
  | .eq => decide (a = b) | .ne => !decide (a = b) | .lt => decide (a < b) | .ge => !decide (a < b) | .gt => decide (b < a) | .le => !decide (b < a)
def zoff (pc : Nat) (off : Int) (b : Bool) (st : List zV) : Option (Nat × List zV) := if 0 ≤ (pc : Int) + off then some (bif b then ((pc : Int) + off).toNat else pc + 3, st) else none
/-- where it goes on -/
def zjump (i : Instr) (len pc : Nat) (st : List zV) : Option (Nat × List zV) :=
  match i, len, st with
  | .goto off, 3, st => zoff pc off true st
  | .ifCond c off, 3, (0, a) :: st => zoff pc off (zc0 c a) st
  | .if_icmp c off, 3, (0, b) :: (0, a) :: st => zoff pc off (zc2 c a b) st
  | .ifnull off, 3, (1, a) :: st => zoff pc off (decide (a = -1)) st
  | .tableswitch d lo hi offs, _, (0, a) :: st =>
    if a < lo ∨ hi < a then (if 0 ≤ (pc : Int) + d then some (((pc : Int) + d).toNat, st) else none)
    else match offs[(a - lo).toNat]? with
      | some off => if 0 ≤ (pc : Int) + off then some (((pc : Int) + off).toNat, st) else none
      | none => none
  | _, _, _ => none
/-- the end -/
def zend (ret : Option FieldType) (i : Instr) (len : Nat) (st : List zV) : Option (Option zV) :=
  match i, len, st, ret with
  | .ireturn, 1, [(0, v)], some .int => some (some (0, v))
  | .ireturn, 1, [(0, v)], some .boolean => if v = 0 ∨ v = 1 then some (some (0, v)) else none
  | .ireturn, 1, [(0, v)], some .char => if 0 ≤ v ∧ v < 65536 then some (some (0, v)) else none
  | .lreturn, 1, [(2, v)], some .long => some (some (2, v))
  | .freturn, 1, [(3, v)], some .float => some (some (3, v))
  | .dreturn, 1, [(4, v)], some .double => some (some (4, v))
  | .areturn, 1, [(1, v)], some (.object _) => some (some (1, v))
  | .return_, 1, [], none => some none
  | _, _, _, _ => none
/-- an array's cell: its length, if it is of that kind and the place is in it -/
def zarr (S : zS) (k : Nat) (a j : Int) : Option (Nat × Nat) :=
  if 0 ≤ a ∧ 0 ≤ j then match S.1[a.toNat]? with
    | some e => if e.1 = k ∧ j < (e.2.2 : Int) then some (a.toNat, j.toNat) else none
    | none => none
  else none
/-- an object's cell: of that class, with that field -/
def zobj (S : zS) (o : Int) (c k : Nat) : Option Nat :=
  if 0 ≤ o then match S.1[o.toNat]? with
    | some e => if e.1 = 0 ∧ e.2.1 = c ∧ k < e.2.2 then some o.toNat else none
    | none => none
  else none
def zdef (t : Nat) : Int := if t = 1 then -1 else 0
/-- what reads or writes cells; fld: the field that an entry names (class, place, kind, boolean, final), cls: the class that it names (number, fields), fty: the kinds of its fields, stc: the array that a static holds -/
def zheap (fld : Nat → Option (Nat × Nat × Nat × Bool × Bool)) (cls : Nat → Option (Nat × Nat)) (fty : Nat → Nat → Nat) (ref : Nat → Bool) (stc : Nat → Option Int) (ctor : Bool) (ro : zRo) (i : Instr) (len : Nat) (st : List zV) (S : zS) : Option (List zV × zS) :=
  match i, len, st with
  | .getfield k, 3, (1, o) :: st => match fld k with
    | some f => match zobj S o f.1 f.2.1 with | some n => some ((f.2.2.1, S.2.1 n f.2.1) :: st, S) | none => none
    | none => none
  | .putfield k, 3, (t, v) :: (1, o) :: st => match fld k with
    | some f => if t = f.2.2.1 ∧ (f.2.2.2.1 = true → v = 0 ∨ v = 1) ∧ (f.2.2.2.2 = true → ctor = true) then match zobj S o f.1 f.2.1 with | some n => some (st, zset S n f.2.1 v) | none => none else none
    | none => none
  | .iaload, 1, (0, j) :: (1, a) :: st => match zarr S 1 a j with
    | some q => some ((0, S.2.1 q.1 q.2) :: st, S)
    | none => if a < -1 then match ro a with
      | some r => if 0 ≤ j ∧ j < (r.1 : Int) then some ((0, r.2 j.toNat) :: st, S) else none
      | none => none else none
  | .caload, 1, (0, j) :: (1, a) :: st => match zarr S 2 a j with | some q => some ((0, S.2.1 q.1 q.2) :: st, S) | none => none
  | .baload, 1, (0, j) :: (1, a) :: st => match zarr S 3 a j with | some q => some ((0, S.2.1 q.1 q.2) :: st, S) | none => none
  | .laload, 1, (0, j) :: (1, a) :: st => match zarr S 4 a j with | some q => some ((2, S.2.1 q.1 q.2) :: st, S) | none => none
  | .daload, 1, (0, j) :: (1, a) :: st => match zarr S 5 a j with | some q => some ((4, S.2.1 q.1 q.2) :: st, S) | none => none
  | .aaload, 1, (0, j) :: (1, a) :: st => match zarr S 6 a j with | some q => some ((1, S.2.1 q.1 q.2) :: st, S) | none => none
  | .iastore, 1, (0, v) :: (0, j) :: (1, a) :: st => match zarr S 1 a j with | some q => some (st, zset S q.1 q.2 v) | none => none
  | .castore, 1, (0, v) :: (0, j) :: (1, a) :: st => if 0 ≤ v ∧ v < 65536 then match zarr S 2 a j with | some q => some (st, zset S q.1 q.2 v) | none => none else none
  | .bastore, 1, (0, v) :: (0, j) :: (1, a) :: st => if v = 0 ∨ v = 1 then match zarr S 3 a j with | some q => some (st, zset S q.1 q.2 v) | none => none else none
  | .lastore, 1, (2, v) :: (0, j) :: (1, a) :: st => match zarr S 4 a j with | some q => some (st, zset S q.1 q.2 v) | none => none
  | .dastore, 1, (4, v) :: (0, j) :: (1, a) :: st => match zarr S 5 a j with | some q => some (st, zset S q.1 q.2 v) | none => none
  | .aastore, 1, (1, v) :: (0, j) :: (1, a) :: st => match zarr S 6 a j with
    | some q => match zobj S v 1 0 with | some _ => some (st, zset S q.1 q.2 v) | none => none
    | none => none
  | .arraylength, 1, (1, a) :: st => if 0 ≤ a then match S.1[a.toNat]? with
      | some e => if 1 ≤ e.1 ∧ e.1 ≤ 6 then some ((0, (e.2.2 : Int)) :: st, S) else none
      | none => none
    else if a < -1 then match ro a with | some r => some ((0, (r.1 : Int)) :: st, S) | none => none else none
  | .newarray t, 2, (0, n) :: st => if 0 ≤ n ∧ n < 1000 then match t with
      | .int => some ((1, (S.1.length : Int)) :: st, znew S (1, 0, n.toNat) (fun _ => 0))
      | .char => some ((1, (S.1.length : Int)) :: st, znew S (2, 0, n.toNat) (fun _ => 0))
      | .boolean => some ((1, (S.1.length : Int)) :: st, znew S (3, 0, n.toNat) (fun _ => 0))
      | .long => some ((1, (S.1.length : Int)) :: st, znew S (4, 0, n.toNat) (fun _ => 0))
      | .double => some ((1, (S.1.length : Int)) :: st, znew S (5, 0, n.toNat) (fun _ => 0))
      | _ => none
    else none
  | .anewarray k, 3, (0, n) :: st => if ref k = true ∧ 0 ≤ n ∧ n < 1000 then some ((1, (S.1.length : Int)) :: st, znew S (6, 0, n.toNat) (fun _ => -1)) else none
  | .new k, 3, st => match cls k with
    | some c => some ((1, (S.1.length : Int)) :: st, znew S (0, c.1, c.2) (fun j => zdef (fty c.1 j)))
    | none => none
  | .getstatic k, 3, st => match stc k with | some r => some ((1, r) :: st, S) | none => none
  | _, _, _ => none
/-- 'throw new E("text")', seen at its first instruction: the class, the entries that the text and the constructor have, whether the text's is wide -/
def zthr (exn : Nat → Option String) (t : List (Nat × Instr × Nat)) (pc : Nat) (i : Instr) (len : Nat) : Option (String × Nat × Nat × Nat × Bool) :=
  match i, len with
  | .new k, 3 => match exn k with
    | some E => match zget t (pc + 3), zget t (pc + 4) with
      | some (.dup, 1), some (.ldc is, 2) => match zget t (pc + 6), zget t (pc + 9) with
        | some (.invokespecial ic, 3), some (.athrow, 1) => some (E, k, is, ic, false)
        | _, _ => none
      | some (.dup, 1), some (.ldc_w is, 3) => match zget t (pc + 7), zget t (pc + 10) with
        | some (.invokespecial ic, 3), some (.athrow, 1) => some (E, k, is, ic, true)
        | _, _ => none
      | _, _ => none
    | none => none
  | _, _ => none
/-- the first row of a table that takes E at pc; the rows ahead name things that E isn't -/
def zhand (nm : Nat → Option String) (ca : List String) (nc : List (String × String)) (pc : Nat) (E : String) : List (Nat × Nat × Nat × Nat) → Option Nat
  | [] => none
  | q :: r => if q.1 ≤ pc ∧ pc < q.2.1 then match nm q.2.2.2 with
      | some N => if N = E then (if ca.contains E = true ∧ q.2.2.2 ≠ 0 then some q.2.2.1 else none) else if nc.contains (E, N) = true ∧ q.2.2.2 ≠ 0 then zhand nm ca nc pc E r else none
      | none => none
    else zhand nm ca nc pc E r
/-- the caught thing is stored, and never read -/
def zcatch (t : List (Nat × Instr × Nat)) (h : Nat) (ls : List zV) : Option (Nat × List zV) := match zget t h with
  | some (.astore_n k, 1) => if k.val < ls.length then some (h + 1, zput ls k.val (9, 0)) else none
  | some (.astore k, 2) => if k < ls.length then some (h + 2, zput ls k (9, 0)) else none
  | _ => none
def zplain (v : zV) : Bool := v.1 == 0 || v.1 == 1
/-- the locals at a method's start -/
def zargs (n : Nat) (as : List zV) : List zV := as ++ List.replicate (n - as.length) (9, 0)
end
section
def mX0_init : zM := (yX0_init, cX0_init, iX0_init, 1, none, [], 0)
def mX0_sum : zM := (yX0_sum, cX0_sum, iX0_sum, 1, (some FieldType.int), [], 0)
def mX0_holds : zM := (yX0_holds, cX0_holds, iX0_holds, 2, (some FieldType.boolean), [], 0)
def mX0_choose : zM := (yX0_choose, cX0_choose, iX0_choose, 5, none, [], 0)
def mX0_hasClash : zM := (yX0_hasClash, cX0_hasClash, iX0_hasClash, 5, (some FieldType.boolean), [], 0)
def mX0_sumUp : zM := (yX0_sumUp, cX0_sumUp, iX0_sumUp, 3, none, [], 0)
def mX0_sumWith : zM := (yX0_sumWith, cX0_sumWith, iX0_sumWith, 4, (some FieldType.int), [], 0)
def mX0_isWorthTaking : zM := (yX0_isWorthTaking, cX0_isWorthTaking, iX0_isWorthTaking, 3, (some FieldType.boolean), [], 0)
def mX1_init : zM := (yX1_init, cX1_init, iX1_init, 1, none, [], 1)
def mX1_start : zM := (yX1_start, cX1_start, iX1_start, 3, none, [], 1)
def mX1_noteFix : zM := (yX1_noteFix, cX1_noteFix, iX1_noteFix, 2, none, [], 1)
def mX1_takeBack : zM := (yX1_takeBack, cX1_takeBack, iX1_takeBack, 5, none, [], 1)
def mX2_init : zM := (yX2_init, cX2_init, iX2_init, 2, none, [], 2)
def mX2_count : zM := (yX2_count, cX2_count, iX2_count, 1, (some FieldType.int), [], 2)
def mX2_forget : zM := (yX2_forget, cX2_forget, iX2_forget, 1, none, [], 2)
def mX2_keep : zM := (yX2_keep, cX2_keep, iX2_keep, 3, none, [], 2)
def mX2_noteFix : zM := (yX2_noteFix, cX2_noteFix, iX2_noteFix, 3, none, [], 2)
def mX2_takeBack : zM := (yX2_takeBack, cX2_takeBack, iX2_takeBack, 4, none, [], 2)
def mX2_newestDeed : zM := (yX2_newestDeed, cX2_newestDeed, iX2_newestDeed, 1, (some (FieldType.object "LintPress$Deed")), [], 2)
def mX3_init : zM := (yX3_init, cX3_init, iX3_init, 1, none, [], 3)
def mX3_count : zM := (yX3_count, cX3_count, iX3_count, 1, (some FieldType.int), [], 3)
def mX3_rule : zM := (yX3_rule, cX3_rule, iX3_rule, 2, (some FieldType.int), [], 3)
def mX3_first : zM := (yX3_first, cX3_first, iX3_first, 2, (some FieldType.int), [], 3)
def mX3_last : zM := (yX3_last, cX3_last, iX3_last, 2, (some FieldType.int), [], 3)
def mX3_gain : zM := (yX3_gain, cX3_gain, iX3_gain, 2, (some FieldType.int), [], 3)
def mX3_fixable : zM := (yX3_fixable, cX3_fixable, iX3_fixable, 3, (some FieldType.int), [], 3)
def mX3_search : zM := (yX3_search, cX3_search, iX3_search, 5, none, [], 3)
def mX3_ruleOfPair : zM := (yX3_ruleOfPair, cX3_ruleOfPair, iX3_ruleOfPair, 4, (some FieldType.int), [], 3)
def mX3_isNameInBlock : zM := (yX3_isNameInBlock, cX3_isNameInBlock, iX3_isNameInBlock, 2, (some FieldType.boolean), [], 3)
def mX3_note : zM := (yX3_note, cX3_note, iX3_note, 8, none, [], 3)
def mX4_init : zM := (yX4_init, cX4_init, iX4_init, 1, none, [], 4)
def mX4_lines : zM := (yX4_lines, cX4_lines, iX4_lines, 1, (some FieldType.int), [], 4)
def mX4_least : zM := (yX4_least, cX4_least, iX4_least, 1, (some FieldType.int), [], 4)
def mX4_divide : zM := (yX4_divide, cX4_divide, iX4_divide, 5, none, [], 4)
def mX4_lineHolding : zM := (yX4_lineHolding, cX4_lineHolding, iX4_lineHolding, 3, (some FieldType.int), [], 4)
def mX4_widthOfLine : zM := (yX4_widthOfLine, cX4_widthOfLine, iX4_widthOfLine, 5, (some FieldType.int), [], 4)
def mX4_sumOfCosts : zM := (yX4_sumOfCosts, cX4_sumOfCosts, iX4_sumOfCosts, 5, (some FieldType.int), [], 4)
def mX4_isSameAs : zM := (yX4_isSameAs, cX4_isSameAs, iX4_isSameAs, 4, (some FieldType.boolean), [], 4)
def mX4_chooseLineFrom : zM := (yX4_chooseLineFrom, cX4_chooseLineFrom, iX4_chooseLineFrom, 10, none, [], 4)
def mX5_init : zM := (yX5_init, cX5_init, iX5_init, 2, none, [], 5)
def mX5_weightFor : zM := (yX5_weightFor, cX5_weightFor, iX5_weightFor, 2, (some FieldType.int), [], 5)
def mX5_undoneFor : zM := (yX5_undoneFor, cX5_undoneFor, iX5_undoneFor, 2, (some FieldType.int), [], 5)
def mX5_allFixed : zM := (yX5_allFixed, cX5_allFixed, iX5_allFixed, 1, (some FieldType.int), [], 5)
def mX5_allUndone : zM := (yX5_allUndone, cX5_allUndone, iX5_allUndone, 3, (some FieldType.int), [], 5)
def mX5_rankFor : zM := (yX5_rankFor, cX5_rankFor, iX5_rankFor, 5, (some FieldType.int), [], 5)
def mX5_reward : zM := (yX5_reward, cX5_reward, iX5_reward, 2, none, [], 5)
def mX5_punish : zM := (yX5_punish, cX5_punish, iX5_punish, 3, none, [], 5)
def mX6_init : zM := (yX6_init, cX6_init, iX6_init, 1, none, [], 6)
def mX6_size : zM := (yX6_size, cX6_size, iX6_size, 1, (some FieldType.int), [], 6)
def mX6_kindAt : zM := (yX6_kindAt, cX6_kindAt, iX6_kindAt, 2, (some FieldType.char), [], 6)
def mX6_nameAt : zM := (yX6_nameAt, cX6_nameAt, iX6_nameAt, 2, (some FieldType.int), [], 6)
def mX6_lengthAt : zM := (yX6_lengthAt, cX6_lengthAt, iX6_lengthAt, 2, (some FieldType.int), [], 6)
def mX6_pinnedAt : zM := (yX6_pinnedAt, cX6_pinnedAt, iX6_pinnedAt, 2, (some FieldType.boolean), [], 6)
def mX6_setPinned : zM := (yX6_setPinned, cX6_setPinned, iX6_setPinned, 3, none, [], 6)
def mX6_widthAt : zM := (yX6_widthAt, cX6_widthAt, iX6_widthAt, 2, (some FieldType.int), [], 6)
def mX6_openAhead : zM := (yX6_openAhead, cX6_openAhead, iX6_openAhead, 4, (some FieldType.int), [], 6)
def mX6_depthAt : zM := (yX6_depthAt, cX6_depthAt, iX6_depthAt, 2, (some FieldType.int), [], 6)
def mX6_isNamed : zM := (yX6_isNamed, cX6_isNamed, iX6_isNamed, 3, (some FieldType.boolean), [], 6)
def mX6_timesOf : zM := (yX6_timesOf, cX6_timesOf, iX6_timesOf, 4, (some FieldType.int), [], 6)
def mX6_hasPinned : zM := (yX6_hasPinned, cX6_hasPinned, iX6_hasPinned, 3, (some FieldType.boolean), [], 6)
def mX6_allMovable : zM := (yX6_allMovable, cX6_allMovable, iX6_allMovable, 5, (some FieldType.boolean), [], 6)
def mX6_canBreakBehind : zM := (yX6_canBreakBehind, cX6_canBreakBehind, iX6_canBreakBehind, 3, (some FieldType.boolean), [], 6)
def mX6_add : zM := (yX6_add, cX6_add, iX6_add, 4, none, [], 6)
def mX6_replaceName : zM := (yX6_replaceName, cX6_replaceName, iX6_replaceName, 4, none, [], 6)
def mX6_takeAway : zM := (yX6_takeAway, cX6_takeAway, iX6_takeAway, 3, none, [], 6)
def mX6_carry : zM := (yX6_carry, cX6_carry, iX6_carry, 8, none, [], 6)
def mX6_joinWithNext : zM := (yX6_joinWithNext, cX6_joinWithNext, iX6_joinWithNext, 3, none, [], 6)
def mX6_copyFrom : zM := (yX6_copyFrom, cX6_copyFrom, iX6_copyFrom, 3, none, [], 6)
def mX6_copyEntry : zM := (yX6_copyEntry, cX6_copyEntry, iX6_copyEntry, 4, none, [], 6)
def mX6_put : zM := (yX6_put, cX6_put, iX6_put, 6, none, [], 6)
def mX7_init : zM := (yX7_init, cX7_init, iX7_init, 1, none, [], 7)
def mX7_addName : zM := (yX7_addName, cX7_addName, iX7_addName, 3, (some FieldType.int), [], 7)
def mX7_addComment : zM := (yX7_addComment, cX7_addComment, iX7_addComment, 2, (some FieldType.int), [], 7)
def mX7_begin : zM := (yX7_begin, cX7_begin, iX7_begin, 1, (some FieldType.int), [], 7)
def mX7_end : zM := (yX7_end, cX7_end, iX7_end, 1, (some FieldType.int), [], 7)
def mX7_entries : zM := (yX7_entries, cX7_entries, iX7_entries, 1, (some FieldType.int), [], 7)
def mX7_kindOf : zM := (yX7_kindOf, cX7_kindOf, iX7_kindOf, 2, (some FieldType.char), [], 7)
def mX7_nameOf : zM := (yX7_nameOf, cX7_nameOf, iX7_nameOf, 2, (some FieldType.int), [], 7)
def mX7_widthOf : zM := (yX7_widthOf, cX7_widthOf, iX7_widthOf, 2, (some FieldType.int), [], 7)
def mX7_depthOf : zM := (yX7_depthOf, cX7_depthOf, iX7_depthOf, 2, (some FieldType.int), [], 7)
def mX7_occurrences : zM := (yX7_occurrences, cX7_occurrences, iX7_occurrences, 2, (some FieldType.int), [], 7)
def mX7_commonest : zM := (yX7_commonest, cX7_commonest, iX7_commonest, 5, (some FieldType.int), [], 7)
def mX7_pin : zM := (yX7_pin, cX7_pin, iX7_pin, 6, (some FieldType.int), [], 7)
def mX7_isPinned : zM := (yX7_isPinned, cX7_isPinned, iX7_isPinned, 2, (some FieldType.boolean), [], 7)
def mX7_findings : zM := (yX7_findings, cX7_findings, iX7_findings, 1, (some FieldType.int), [], 7)
def mX7_ruleOf : zM := (yX7_ruleOf, cX7_ruleOf, iX7_ruleOf, 2, (some FieldType.int), [], 7)
def mX7_firstOf : zM := (yX7_firstOf, cX7_firstOf, iX7_firstOf, 2, (some FieldType.int), [], 7)
def mX7_lastOf : zM := (yX7_lastOf, cX7_lastOf, iX7_lastOf, 2, (some FieldType.int), [], 7)
def mX7_canFix : zM := (yX7_canFix, cX7_canFix, iX7_canFix, 2, (some FieldType.boolean), [], 7)
def mX7_best : zM := (yX7_best, cX7_best, iX7_best, 1, (some FieldType.int), [], 7)
def mX7_bestByTrying : zM := (yX7_bestByTrying, cX7_bestByTrying, iX7_bestByTrying, 1, (some FieldType.int), [], 7)
def mX7_isInBest : zM := (yX7_isInBest, cX7_isInBest, iX7_isInBest, 2, (some FieldType.boolean), [], 7)
def mX7_fix : zM := (yX7_fix, cX7_fix, iX7_fix, 2, (some FieldType.int), [], 7)
def mX7_fixBest : zM := (yX7_fixBest, cX7_fixBest, iX7_fixBest, 3, (some FieldType.int), [], 7)
def mX7_rename : zM := (yX7_rename, cX7_rename, iX7_rename, 4, (some FieldType.int), [], 7)
def mX7_move : zM := (yX7_move, cX7_move, iX7_move, 3, (some FieldType.int), [], 7)
def mX7_undo : zM := (yX7_undo, cX7_undo, iX7_undo, 1, (some FieldType.int), [], 7)
def mX7_weight : zM := (yX7_weight, cX7_weight, iX7_weight, 2, (some FieldType.int), [], 7)
def mX7_ruleAt : zM := (yX7_ruleAt, cX7_ruleAt, iX7_ruleAt, 3, (some FieldType.int), [], 7)
def mX7_undone : zM := (yX7_undone, cX7_undone, iX7_undone, 2, (some FieldType.long), [], 7)
def mX7_undoneShare : zM := (yX7_undoneShare, cX7_undoneShare, iX7_undoneShare, 2, (some FieldType.float), [], 7)
def mX7_setWidth : zM := (yX7_setWidth, cX7_setWidth, iX7_setWidth, 3, (some FieldType.int), [], 7)
def mX7_layOut : zM := (yX7_layOut, cX7_layOut, iX7_layOut, 1, (some FieldType.int), [], 7)
def mX7_isLaidOut : zM := (yX7_isLaidOut, cX7_isLaidOut, iX7_isLaidOut, 1, (some FieldType.boolean), [], 7)
def mX7_cost : zM := (yX7_cost, cX7_cost, iX7_cost, 1, (some FieldType.int), [], 7)
def mX7_costByTrying : zM := (yX7_costByTrying, cX7_costByTrying, iX7_costByTrying, 1, (some FieldType.int), [], 7)
def mX7_lineOf : zM := (yX7_lineOf, cX7_lineOf, iX7_lineOf, 2, (some FieldType.int), [], 7)
def mX7_lineWidth : zM := (yX7_lineWidth, cX7_lineWidth, iX7_lineWidth, 2, (some FieldType.int), [], 7)
def mX7_meanWidth : zM := (yX7_meanWidth, cX7_meanWidth, iX7_meanWidth, 5, (some FieldType.double), [], 7)
def mX7_isTidy : zM := (yX7_isTidy, cX7_isTidy, iX7_isTidy, 1, (some FieldType.boolean), [], 7)
def mX7_needName : zM := (yX7_needName, cX7_needName, iX7_needName, 1, none, [], 7)
def mX7_needLength : zM := (yX7_needLength, cX7_needLength, iX7_needLength, 1, none, [], 7)
def mX7_needRule : zM := (yX7_needRule, cX7_needRule, iX7_needRule, 1, none, [], 7)
def mX7_needEntry : zM := (yX7_needEntry, cX7_needEntry, iX7_needEntry, 2, none, [], 7)
def mX7_needFinding : zM := (yX7_needFinding, cX7_needFinding, iX7_needFinding, 2, none, [], 7)
def mX7_needLayout : zM := (yX7_needLayout, cX7_needLayout, iX7_needLayout, 1, none, [], 7)
def mX7_append : zM := (yX7_append, cX7_append, iX7_append, 4, (some FieldType.int), [], 7)
def mX7_startDeed : zM := (yX7_startDeed, cX7_startDeed, iX7_startDeed, 1, none, [], 7)
def mX7_chooseBest : zM := (yX7_chooseBest, cX7_chooseBest, iX7_chooseBest, 1, none, [], 7)
def mX7_applyFix : zM := (yX7_applyFix, cX7_applyFix, iX7_applyFix, 4, none, [], 7)
def mX7_shownIsLikeTried : zM := (yX7_shownIsLikeTried, cX7_shownIsLikeTried, iX7_shownIsLikeTried, 1, (some FieldType.boolean), [], 7)
def mX7_costOfLine : zM := (yX7_costOfLine, cX7_costOfLine, iX7_costOfLine, 3, (some FieldType.int), [], 7)
def mX7_leastByTrying : zM := (yX7_leastByTrying, cX7_leastByTrying, iX7_leastByTrying, 8, (some FieldType.int), [], 7)
def mX7_mostByTrying : zM := (yX7_mostByTrying, cX7_mostByTrying, iX7_mostByTrying, 5, (some FieldType.int), [], 7)
def mX7_read : zM := (yX7_read, cX7_read, iX7_read, 2, (some FieldType.int), [], 7)
def mX7_write : zM := (yX7_write, cX7_write, iX7_write, 3, none, [], 7)
def mX7_readFlag : zM := (yX7_readFlag, cX7_readFlag, iX7_readFlag, 2, (some FieldType.boolean), [], 7)
def mX7_writeFlag : zM := (yX7_writeFlag, cX7_writeFlag, iX7_writeFlag, 3, none, [], 7)
def mX8_init : zM := (yX8_init, cX8_init, iX8_init, 1, none, [], 8)
def mX8_thrown : zM := (yX8_thrown, cX8_thrown, iX8_thrown, 1, (some FieldType.int), [], 8)
def mX8_in : zM := (yX8_in, cX8_in, iX8_in, 3, (some FieldType.boolean), [], 8)
def mX8_fails : zM := (yX8_fails, cX8_fails, iX8_fails, 3, (some FieldType.boolean), [], 8)
def mX8_noEntry : zM := (yX8_noEntry, cX8_noEntry, iX8_noEntry, 2, (some FieldType.boolean), [], 8)
def mX8_isName : zM := (yX8_isName, cX8_isName, iX8_isName, 1, (some FieldType.boolean), [], 8)
def mX8_add : zM := (yX8_add, cX8_add, iX8_add, 4, (some FieldType.int), [], 8)
def mX8_depth : zM := (yX8_depth, cX8_depth, iX8_depth, 4, (some FieldType.int), [], 8)
def mX8_open : zM := (yX8_open, cX8_open, iX8_open, 3, (some FieldType.int), [], 8)
def mX8_addName : zM := (yX8_addName, cX8_addName, iX8_addName, 3, (some FieldType.int), [], 8)
def mX8_addComment : zM := (yX8_addComment, cX8_addComment, iX8_addComment, 2, (some FieldType.int), [], 8)
def mX8_begin : zM := (yX8_begin, cX8_begin, iX8_begin, 1, (some FieldType.int), [], 8)
def mX8_end : zM := (yX8_end, cX8_end, iX8_end, 1, (some FieldType.int), [], 8)
def mX8_entries : zM := (yX8_entries, cX8_entries, iX8_entries, 1, (some FieldType.int), [], 8)
def mX8_kindOf : zM := (yX8_kindOf, cX8_kindOf, iX8_kindOf, 2, (some FieldType.char), [], 8)
def mX8_nameOf : zM := (yX8_nameOf, cX8_nameOf, iX8_nameOf, 2, (some FieldType.int), [], 8)
def mX8_wide : zM := (yX8_wide, cX8_wide, iX8_wide, 2, (some FieldType.int), [], 8)
def mX8_widthOf : zM := (yX8_widthOf, cX8_widthOf, iX8_widthOf, 2, (some FieldType.int), [], 8)
def mX8_depthOf : zM := (yX8_depthOf, cX8_depthOf, iX8_depthOf, 2, (some FieldType.int), [], 8)
def mX8_occurs : zM := (yX8_occurs, cX8_occurs, iX8_occurs, 4, (some FieldType.int), [], 8)
def mX8_occurrences : zM := (yX8_occurrences, cX8_occurrences, iX8_occurrences, 2, (some FieldType.int), [], 8)
def mX8_commonest : zM := (yX8_commonest, cX8_commonest, iX8_commonest, 3, (some FieldType.int), [], 8)
def mX8_pin : zM := (yX8_pin, cX8_pin, iX8_pin, 6, (some FieldType.int), [], 8)
def mX8_isPinned : zM := (yX8_isPinned, cX8_isPinned, iX8_isPinned, 2, (some FieldType.boolean), [], 8)
def mX8_are : zM := (yX8_are, cX8_are, iX8_are, 4, (some FieldType.boolean), [], 8)
def mX8_find : zM := (yX8_find, cX8_find, iX8_find, 4, none, [], 8)
def mX8_fixable : zM := (yX8_fixable, cX8_fixable, iX8_fixable, 4, (some FieldType.boolean), [], 8)
def mX8_look : zM := (yX8_look, cX8_look, iX8_look, 4, none, [], 8)
def mX8_findings : zM := (yX8_findings, cX8_findings, iX8_findings, 1, (some FieldType.int), [], 8)
def mX8_noFinding : zM := (yX8_noFinding, cX8_noFinding, iX8_noFinding, 2, (some FieldType.boolean), [], 8)
def mX8_ruleOf : zM := (yX8_ruleOf, cX8_ruleOf, iX8_ruleOf, 2, (some FieldType.int), [], 8)
def mX8_firstOf : zM := (yX8_firstOf, cX8_firstOf, iX8_firstOf, 2, (some FieldType.int), [], 8)
def mX8_lastOf : zM := (yX8_lastOf, cX8_lastOf, iX8_lastOf, 2, (some FieldType.int), [], 8)
def mX8_canFix : zM := (yX8_canFix, cX8_canFix, iX8_canFix, 2, (some FieldType.boolean), [], 8)
def mX8_fixables : zM := (yX8_fixables, cX8_fixables, iX8_fixables, 3, (some FieldType.int), [], 8)
def mX8_best : zM := (yX8_best, cX8_best, iX8_best, 1, (some FieldType.int), [], 8)
def mX8_bestByTrying : zM := (yX8_bestByTrying, cX8_bestByTrying, iX8_bestByTrying, 1, (some FieldType.int), [], 8)
def mX8_isInBest : zM := (yX8_isInBest, cX8_isInBest, iX8_isInBest, 2, (some FieldType.boolean), [], 8)
def mX8_keep : zM := (yX8_keep, cX8_keep, iX8_keep, 3, none, [], 8)
def mX8_put : zM := (yX8_put, cX8_put, iX8_put, 3, none, [], 8)
def mX8_remove : zM := (yX8_remove, cX8_remove, iX8_remove, 3, none, [], 8)
def mX8_change : zM := (yX8_change, cX8_change, iX8_change, 7, none, [], 8)
def mX8_fixes : zM := (yX8_fixes, cX8_fixes, iX8_fixes, 5, none, [], 8)
def mX8_fix : zM := (yX8_fix, cX8_fix, iX8_fix, 2, (some FieldType.int), [], 8)
def mX8_fixBest : zM := (yX8_fixBest, cX8_fixBest, iX8_fixBest, 3, (some FieldType.int), [], 8)
def mX8_rename : zM := (yX8_rename, cX8_rename, iX8_rename, 6, (some FieldType.int), [], 8)
def mX8_move : zM := (yX8_move, cX8_move, iX8_move, 8, (some FieldType.int), [], 8)
def mX8_undo : zM := (yX8_undo, cX8_undo, iX8_undo, 3, (some FieldType.int), [], 8)
def mX8_isRule : zM := (yX8_isRule, cX8_isRule, iX8_isRule, 1, (some FieldType.boolean), [], 8)
def mX8_weight : zM := (yX8_weight, cX8_weight, iX8_weight, 2, (some FieldType.int), [], 8)
def mX8_ruleAt : zM := (yX8_ruleAt, cX8_ruleAt, iX8_ruleAt, 5, (some FieldType.int), [], 8)
def mX8_undone : zM := (yX8_undone, cX8_undone, iX8_undone, 2, (some FieldType.long), [], 8)
def mX8_undoneShare : zM := (yX8_undoneShare, cX8_undoneShare, iX8_undoneShare, 3, (some FieldType.float), [], 8)
def mX8_setWidth : zM := (yX8_setWidth, cX8_setWidth, iX8_setWidth, 3, (some FieldType.int), [], 8)
def mX8_span : zM := (yX8_span, cX8_span, iX8_span, 5, (some FieldType.int), [], 8)
def mX8_costs : zM := (yX8_costs, cX8_costs, iX8_costs, 5, (some FieldType.int), [], 8)
def mX8_measure : zM := (yX8_measure, cX8_measure, iX8_measure, 4, none, [], 8)
def mX8_layOut : zM := (yX8_layOut, cX8_layOut, iX8_layOut, 5, (some FieldType.int), [], 8)
def mX8_isLaidOut : zM := (yX8_isLaidOut, cX8_isLaidOut, iX8_isLaidOut, 1, (some FieldType.boolean), [], 8)
def mX8_cost : zM := (yX8_cost, cX8_cost, iX8_cost, 1, (some FieldType.int), [], 8)
def mX8_costByTrying : zM := (yX8_costByTrying, cX8_costByTrying, iX8_costByTrying, 1, (some FieldType.int), [], 8)
def mX8_lineOf : zM := (yX8_lineOf, cX8_lineOf, iX8_lineOf, 2, (some FieldType.int), [], 8)
def mX8_lineWidth : zM := (yX8_lineWidth, cX8_lineWidth, iX8_lineWidth, 4, (some FieldType.int), [], 8)
def mX8_meanWidth : zM := (yX8_meanWidth, cX8_meanWidth, iX8_meanWidth, 3, (some FieldType.double), [], 8)
def mX8_isTidy : zM := (yX8_isTidy, cX8_isTidy, iX8_isTidy, 1, (some FieldType.boolean), [], 8)
def mL_addName : zM := (yL_addName, cL_addName, iL_addName, 5, (some FieldType.int), [(0, 10, 13, 13), (0, 10, 17, 15)], 9)
def mL_addComment : zM := (yL_addComment, cL_addComment, iL_addComment, 4, (some FieldType.int), [(0, 9, 12, 13), (0, 9, 15, 15)], 9)
def mL_begin : zM := (yL_begin, cL_begin, iL_begin, 3, (some FieldType.int), [(0, 8, 11, 15)], 9)
def mL_end : zM := (yL_end, cL_end, iL_end, 3, (some FieldType.int), [(0, 8, 11, 15)], 9)
def mL_kindOf : zM := (yL_kindOf, cL_kindOf, iL_kindOf, 4, (some FieldType.int), [(0, 9, 12, 32)], 9)
def mL_nameOf : zM := (yL_nameOf, cL_nameOf, iL_nameOf, 4, (some FieldType.int), [(0, 9, 12, 32), (0, 9, 15, 15)], 9)
def mL_widthOf : zM := (yL_widthOf, cL_widthOf, iL_widthOf, 4, (some FieldType.int), [(0, 9, 12, 32)], 9)
def mL_depthOf : zM := (yL_depthOf, cL_depthOf, iL_depthOf, 4, (some FieldType.int), [(0, 9, 12, 32)], 9)
def mL_occurrences : zM := (yL_occurrences, cL_occurrences, iL_occurrences, 4, (some FieldType.int), [(0, 9, 12, 13)], 9)
def mL_commonest : zM := (yL_commonest, cL_commonest, iL_commonest, 3, (some FieldType.int), [(0, 8, 11, 49)], 9)
def mL_pin : zM := (yL_pin, cL_pin, iL_pin, 6, (some FieldType.int), [(0, 12, 15, 32), (0, 12, 19, 13)], 9)
def mL_isPinned : zM := (yL_isPinned, cL_isPinned, iL_isPinned, 4, (some FieldType.int), [(0, 16, 19, 32)], 9)
def mL_ruleOf : zM := (yL_ruleOf, cL_ruleOf, iL_ruleOf, 4, (some FieldType.int), [(0, 9, 12, 49)], 9)
def mL_firstOf : zM := (yL_firstOf, cL_firstOf, iL_firstOf, 4, (some FieldType.int), [(0, 9, 12, 49)], 9)
def mL_lastOf : zM := (yL_lastOf, cL_lastOf, iL_lastOf, 4, (some FieldType.int), [(0, 9, 12, 49)], 9)
def mL_canFix : zM := (yL_canFix, cL_canFix, iL_canFix, 4, (some FieldType.int), [(0, 16, 19, 49)], 9)
def mL_bestByTrying : zM := (yL_bestByTrying, cL_bestByTrying, iL_bestByTrying, 3, (some FieldType.int), [(0, 8, 11, 74)], 9)
def mL_isInBest : zM := (yL_isInBest, cL_isInBest, iL_isInBest, 4, (some FieldType.int), [(0, 16, 19, 49)], 9)
def mL_fix : zM := (yL_fix, cL_fix, iL_fix, 4, (some FieldType.int), [(0, 9, 12, 49), (0, 9, 15, 74)], 9)
def mL_fixBest : zM := (yL_fixBest, cL_fixBest, iL_fixBest, 3, (some FieldType.int), [(0, 8, 11, 15)], 9)
def mL_rename : zM := (yL_rename, cL_rename, iL_rename, 5, (some FieldType.int), [(0, 10, 13, 13), (0, 10, 17, 49), (0, 10, 21, 74)], 9)
def mL_move : zM := (yL_move, cL_move, iL_move, 5, (some FieldType.int), [(0, 10, 13, 32), (0, 10, 17, 13), (0, 10, 21, 74)], 9)
def mL_undo : zM := (yL_undo, cL_undo, iL_undo, 3, (some FieldType.int), [(0, 8, 11, 15)], 9)
def mL_weight : zM := (yL_weight, cL_weight, iL_weight, 4, (some FieldType.int), [(0, 9, 12, 13)], 9)
def mL_ruleAt : zM := (yL_ruleAt, cL_ruleAt, iL_ruleAt, 4, (some FieldType.int), [(0, 9, 12, 49)], 9)
def mL_undone : zM := (yL_undone, cL_undone, iL_undone, 4, (some FieldType.int), [(0, 8, 11, 13)], 9)
def mL_undoneShare : zM := (yL_undoneShare, cL_undoneShare, iL_undoneShare, 3, (some FieldType.int), [(0, 8, 11, 108)], 9)
def mL_setWidth : zM := (yL_setWidth, cL_setWidth, iL_setWidth, 4, (some FieldType.int), [(0, 9, 12, 13)], 9)
def mL_costByTrying : zM := (yL_costByTrying, cL_costByTrying, iL_costByTrying, 3, (some FieldType.int), [(0, 8, 11, 74)], 9)
def mL_lineOf : zM := (yL_lineOf, cL_lineOf, iL_lineOf, 4, (some FieldType.int), [(0, 9, 12, 32), (0, 9, 15, 15)], 9)
def mL_lineWidth : zM := (yL_lineWidth, cL_lineWidth, iL_lineWidth, 4, (some FieldType.int), [(0, 9, 12, 15), (0, 9, 15, 49)], 9)
def mL_meanWidth : zM := (yL_meanWidth, cL_meanWidth, iL_meanWidth, 3, (some FieldType.int), [(0, 7, 10, 108)], 9)
def mL_law : zM := (yL_law, cL_law, iL_law, 9, (some FieldType.boolean), [], 9)
def zconL0 : List (Nat × Int) := []
def zconL1 : List (Nat × Int) := []
def zconL2 : List (Nat × Int) := []
def zconL3 : List (Nat × Int) := []
def zconL4 : List (Nat × Int) := [(58, 1000000000)]
def zconL5 : List (Nat × Int) := []
def zconL6 : List (Nat × Int) := []
def zconL7 : List (Nat × Int) := [(335, 1000000000)]
def zconL8 : List (Nat × Int) := [(166, 1000000000)]
def zconL9 : List (Nat × Int) := []
def zconL : List (List (Nat × Int)) := [zconL0, zconL1, zconL2, zconL3, zconL4, zconL5, zconL6, zconL7, zconL8, zconL9]
def zexnL0 : List (Nat × String) := []
def zexnL1 : List (Nat × String) := []
def zexnL2 : List (Nat × String) := []
def zexnL3 : List (Nat × String) := []
def zexnL4 : List (Nat × String) := []
def zexnL5 : List (Nat × String) := []
def zexnL6 : List (Nat × String) := []
def zexnL7 : List (Nat × String) := [(84, "java/lang/IllegalStateException"), (109, "java/util/NoSuchElementException"), (114, "java/lang/IllegalArgumentException"), (158, "java/lang/UnsupportedOperationException"), (240, "java/lang/ArithmeticException"), (294, "java/lang/IndexOutOfBoundsException")]
def zexnL8 : List (Nat × String) := []
def zexnL9 : List (Nat × String) := [(13, "java/lang/IllegalArgumentException"), (15, "java/lang/IllegalStateException"), (32, "java/lang/IndexOutOfBoundsException"), (49, "java/util/NoSuchElementException"), (74, "java/lang/UnsupportedOperationException"), (108, "java/lang/ArithmeticException")]
def zexnL : List (List (Nat × String)) := [zexnL0, zexnL1, zexnL2, zexnL3, zexnL4, zexnL5, zexnL6, zexnL7, zexnL8, zexnL9]
def zstrL0 : List (Nat × String) := []
def zstrL1 : List (Nat × String) := []
def zstrL2 : List (Nat × String) := []
def zstrL3 : List (Nat × String) := []
def zstrL4 : List (Nat × String) := []
def zstrL5 : List (Nat × String) := []
def zstrL6 : List (Nat × String) := []
def zstrL7 : List (Nat × String) := [(86, "no block is open"), (98, "the entry is no name"), (111, "there is no name"), (116, "the last entry is ahead of the first one"), (160, "too many findings can be fixed"), (174, "the finding cannot be fixed"), (182, "no finding can be fixed"), (184, "both names are the same"), (186, "the name does not occur"), (191, "the name is pinned, or the new one occurs"), (197, "both places are the same"), (212, "an entry there is pinned, a beginning or an end"), (218, "no deed can be undone"), (232, "there is no such rank"), (242, "nothing was fixed"), (248, "the width is out of range"), (260, "there are too many entries"), (272, "there is no such line"), (278, "there are no entries"), (288, "the name is out of range"), (290, "the length is out of range"), (292, "there is no such rule"), (296, "there is no such entry"), (299, "there is no such finding"), (301, "the text is not laid out"), (303, "there are as many entries as there can be")]
def zstrL8 : List (Nat × String) := []
def zstrL9 : List (Nat × String) := []
def zstrL : List (List (Nat × String)) := [zstrL0, zstrL1, zstrL2, zstrL3, zstrL4, zstrL5, zstrL6, zstrL7, zstrL8, zstrL9]
def zxicL0 : List (Nat × String) := []
def zxicL1 : List (Nat × String) := []
def zxicL2 : List (Nat × String) := []
def zxicL3 : List (Nat × String) := []
def zxicL4 : List (Nat × String) := []
def zxicL5 : List (Nat × String) := []
def zxicL6 : List (Nat × String) := []
def zxicL7 : List (Nat × String) := [(88, "java/lang/IllegalStateException"), (113, "java/util/NoSuchElementException"), (118, "java/lang/IllegalArgumentException"), (162, "java/lang/UnsupportedOperationException"), (244, "java/lang/ArithmeticException"), (298, "java/lang/IndexOutOfBoundsException")]
def zxicL8 : List (Nat × String) := []
def zxicL9 : List (Nat × String) := []
def zxicL : List (List (Nat × String)) := [zxicL0, zxicL1, zxicL2, zxicL3, zxicL4, zxicL5, zxicL6, zxicL7, zxicL8, zxicL9]
def zfldL0 : List (Nat × (Nat × Nat × Nat × Bool × Bool)) := [(9, 0, 0, 1, false, true), (15, 0, 1, 1, false, true)]
def zfldL1 : List (Nat × (Nat × Nat × Nat × Bool × Bool)) := [(12, 1, 0, 1, false, true), (18, 1, 1, 1, false, true)]
def zfldL2 : List (Nat × (Nat × Nat × Nat × Bool × Bool)) := [(11, 2, 0, 1, false, true), (17, 2, 1, 0, false, false), (21, 2, 2, 0, false, false)]
def zfldL3 : List (Nat × (Nat × Nat × Nat × Bool × Bool)) := [(9, 3, 0, 1, false, true), (15, 3, 1, 1, false, true), (18, 3, 2, 1, false, true), (21, 3, 3, 1, false, true), (24, 3, 4, 0, false, false)]
def zfldL4 : List (Nat × (Nat × Nat × Nat × Bool × Bool)) := [(9, 4, 0, 1, false, true), (15, 4, 1, 1, false, true), (18, 4, 2, 1, false, true), (21, 4, 3, 0, false, false)]
def zfldL5 : List (Nat × (Nat × Nat × Nat × Bool × Bool)) := [(9, 5, 0, 1, false, true), (15, 5, 1, 1, false, true), (18, 5, 2, 0, false, false)]
def zfldL6 : List (Nat × (Nat × Nat × Nat × Bool × Bool)) := [(9, 6, 0, 1, false, true), (15, 6, 1, 1, false, true), (19, 6, 2, 1, false, true), (22, 6, 3, 1, false, true), (26, 6, 4, 0, false, false)]
def zfldL7 : List (Nat × (Nat × Nat × Nat × Bool × Bool)) := [(10, 7, 0, 1, false, true), (19, 7, 1, 1, false, true), (26, 7, 2, 1, false, true), (33, 7, 3, 1, false, true), (40, 7, 4, 1, false, true), (47, 7, 5, 1, false, true), (51, 7, 6, 1, false, true), (54, 7, 7, 0, false, false), (58, 7, 8, 0, true, false)]
def zfldL8 : List (Nat × (Nat × Nat × Nat × Bool × Bool)) := [(7, 8, 2, 1, false, true), (13, 8, 3, 1, false, true), (17, 8, 4, 1, false, true), (20, 8, 5, 1, false, true), (24, 8, 6, 0, false, false), (28, 8, 7, 1, false, true), (31, 8, 8, 1, false, true), (35, 8, 11, 1, false, true), (38, 8, 13, 1, false, true), (41, 8, 14, 1, false, true), (44, 8, 15, 1, false, true), (47, 8, 16, 1, false, true), (50, 8, 17, 1, false, true), (53, 8, 18, 1, false, true), (56, 8, 20, 1, false, true), (59, 8, 21, 1, false, true), (62, 8, 22, 1, false, true), (65, 8, 23, 1, false, true), (68, 8, 24, 1, false, true), (71, 8, 25, 1, false, true), (74, 8, 0, 0, false, false), (77, 8, 1, 0, false, false), (84, 8, 12, 0, false, false), (87, 8, 10, 0, true, false), (120, 8, 19, 0, false, false), (154, 8, 9, 2, false, false)]
def zfldL9 : List (Nat × (Nat × Nat × Nat × Bool × Bool)) := []
def zfldL : List (List (Nat × (Nat × Nat × Nat × Bool × Bool))) := [zfldL0, zfldL1, zfldL2, zfldL3, zfldL4, zfldL5, zfldL6, zfldL7, zfldL8, zfldL9]
def zclsL0 : List (Nat × (Nat × Nat)) := []
def zclsL1 : List (Nat × (Nat × Nat)) := [(9, 6, 5)]
def zclsL2 : List (Nat × (Nat × Nat)) := [(9, 1, 2)]
def zclsL3 : List (Nat × (Nat × Nat)) := []
def zclsL4 : List (Nat × (Nat × Nat)) := []
def zclsL5 : List (Nat × (Nat × Nat)) := []
def zclsL6 : List (Nat × (Nat × Nat)) := []
def zclsL7 : List (Nat × (Nat × Nat)) := [(7, 6, 5), (16, 5, 3), (23, 2, 3), (30, 3, 5), (37, 0, 2), (44, 4, 4)]
def zclsL8 : List (Nat × (Nat × Nat)) := []
def zclsL9 : List (Nat × (Nat × Nat)) := [(8, 7, 9), (127, 8, 26)]
def zclsL : List (List (Nat × (Nat × Nat))) := [zclsL0, zclsL1, zclsL2, zclsL3, zclsL4, zclsL5, zclsL6, zclsL7, zclsL8, zclsL9]
def zmthL0 : List (Nat × Nat) := [(3, 3), (64, 1)]
def zmthL1 : List (Nat × Nat) := [(3, 3)]
def zmthL2 : List (Nat × Nat) := [(3, 3), (25, 2)]
def zmthL3 : List (Nat × Nat) := [(3, 3), (78, 2)]
def zmthL4 : List (Nat × Nat) := [(3, 3)]
def zmthL5 : List (Nat × Nat) := [(3, 3), (40, 2)]
def zmthL6 : List (Nat × Nat) := [(3, 3), (76, 2)]
def zmthL7 : List (Nat × Nat) := [(1, 3), (199, 2), (205, 1)]
def zmthL8 : List (Nat × Nat) := [(1, 3)]
def zmthL9 : List (Nat × Nat) := []
def zmthL : List (List (Nat × Nat)) := [zmthL0, zmthL1, zmthL2, zmthL3, zmthL4, zmthL5, zmthL6, zmthL7, zmthL8, zmthL9]
def zstcL0 : List (Nat × Int) := []
def zstcL1 : List (Nat × Int) := []
def zstcL2 : List (Nat × Int) := []
def zstcL3 : List (Nat × Int) := []
def zstcL4 : List (Nat × Int) := []
def zstcL5 : List (Nat × Int) := [(22, -2)]
def zstcL6 : List (Nat × Int) := []
def zstcL7 : List (Nat × Int) := []
def zstcL8 : List (Nat × Int) := []
def zstcL9 : List (Nat × Int) := []
def zstcL : List (List (Nat × Int)) := [zstcL0, zstcL1, zstcL2, zstcL3, zstcL4, zstcL5, zstcL6, zstcL7, zstcL8, zstcL9]
def zftyL : List (List Nat) := [[1, 1], [1, 1], [1, 0, 0], [1, 1, 1, 1, 0], [1, 1, 1, 0], [1, 1, 0], [1, 1, 1, 1, 0], [1, 1, 1, 1, 1, 1, 1, 0, 0], [0, 0, 1, 1, 1, 1, 0, 1, 1, 2, 0, 1, 0, 1, 1, 1, 1, 1, 1, 0, 1, 1, 1, 1, 1, 1]]
def zcallL0 : List (Nat × Nat × Nat × zM) := [(19, 2, 2, mX7_read), (23, 2, 2, mX7_readFlag), (27, 0, 2, mX0_sumUp), (31, 0, 1, mX3_count), (37, 0, 2, mX3_first), (41, 0, 3, mX0_isWorthTaking), (45, 2, 3, mX7_writeFlag), (49, 0, 2, mX3_last), (52, 0, 2, mX0_holds), (56, 2, 3, mX7_write), (60, 0, 3, mX0_sumWith), (70, 0, 2, mX3_gain)]
def zcallL1 : List (Nat × Nat × Nat × zM) := [(11, 4, 1, mX6_init), (22, 0, 2, mX6_copyFrom), (26, 2, 3, mX7_write), (30, 2, 2, mX7_read), (34, 0, 2, mX5_punish)]
def zcallL2 : List (Nat × Nat × Nat × zM) := [(24, 4, 1, mX1_init), (31, 0, 1, mX2_newestDeed), (35, 0, 2, mX1_start), (39, 0, 2, mX1_noteFix), (43, 0, 3, mX1_takeBack)]
def zcallL3 : List (Nat × Nat × Nat × zM) := [(28, 2, 2, mX7_read), (32, 0, 2, mX3_gain), (36, 0, 1, mX6_size), (42, 1, 2, mX3_ruleOfPair), (46, 0, 6, mX3_note), (50, 1, 2, mX3_isNameInBlock), (54, 0, 2, mX6_kindAt), (58, 0, 2, mX6_nameAt), (61, 0, 3, mX6_isNamed), (65, 0, 2, mX6_pinnedAt), (69, 2, 3, mX7_write), (73, 0, 2, mX5_weightFor)]
def zcallL4 : List (Nat × Nat × Nat × zM) := [(25, 2, 2, mX7_read), (29, 0, 1, mX6_size), (35, 2, 3, mX7_write), (39, 0, 4, mX4_chooseLineFrom), (43, 0, 2, mX6_widthAt), (47, 0, 3, mX4_widthOfLine), (51, 2, 3, mX7_costOfLine), (55, 0, 2, mX4_lineHolding), (59, 0, 2, mX6_canBreakBehind)]
def zcallL5 : List (Nat × Nat × Nat × zM) := [(25, 2, 2, mX7_read), (29, 2, 3, mX7_write), (33, 0, 2, mX5_undoneFor), (37, 0, 2, mX5_weightFor)]
def zcallL6 : List (Nat × Nat × Nat × zM) := [(30, 2, 2, mX7_read), (34, 2, 2, mX7_readFlag), (38, 2, 3, mX7_writeFlag), (42, 0, 2, mX6_kindAt), (46, 0, 2, mX6_lengthAt), (50, 0, 2, mX6_openAhead), (53, 0, 2, mX6_nameAt), (56, 0, 3, mX6_isNamed), (60, 0, 2, mX6_pinnedAt), (64, 0, 6, mX6_put), (68, 2, 3, mX7_write), (72, 0, 4, mX6_copyEntry), (82, 0, 2, mX6_takeAway)]
def zcallL7 : List (Nat × Nat × Nat × zM) := [(9, 4, 1, mX6_init), (18, 3, 1, mX5_init), (25, 3, 1, mX2_init), (32, 4, 1, mX3_init), (39, 4, 1, mX0_init), (46, 4, 1, mX4_init), (62, 1, 1, mX7_needName), (66, 1, 1, mX7_needLength), (69, 0, 4, mX7_append), (73, 0, 2, mX6_depthAt), (77, 0, 1, mX6_size), (81, 0, 2, mX6_openAhead), (91, 0, 2, mX7_needEntry), (94, 0, 2, mX6_kindAt), (100, 0, 2, mX6_nameAt), (103, 0, 2, mX6_widthAt), (106, 0, 2, mX6_timesOf), (119, 0, 2, mX6_pinnedAt), (123, 0, 3, mX6_setPinned), (127, 0, 3, mX3_search), (131, 0, 1, mX3_count), (134, 0, 2, mX7_needFinding), (137, 0, 2, mX3_rule), (140, 0, 2, mX3_first), (143, 0, 2, mX3_last), (146, 0, 2, mX3_gain), (149, 0, 1, mX7_chooseBest), (152, 0, 1, mX0_sum), (155, 0, 1, mX3_fixable), (163, 1, 3, mX7_mostByTrying), (167, 0, 2, mX0_choose), (171, 0, 2, mX0_holds), (176, 0, 1, mX7_startDeed), (179, 0, 2, mX7_applyFix), (188, 0, 2, mX6_hasPinned), (193, 0, 3, mX6_replaceName), (208, 0, 3, mX6_allMovable), (214, 0, 3, mX6_carry), (217, 0, 1, mX2_count), (220, 0, 3, mX2_takeBack), (223, 1, 1, mX7_needRule), (226, 0, 2, mX5_weightFor), (229, 0, 2, mX5_rankFor), (234, 0, 2, mX5_undoneFor), (237, 0, 1, mX5_allFixed), (245, 0, 1, mX5_allUndone), (250, 0, 3, mX4_divide), (254, 0, 1, mX4_lines), (257, 0, 1, mX4_least), (262, 1, 3, mX7_leastByTrying), (266, 0, 1, mX7_needLayout), (269, 0, 2, mX4_lineHolding), (274, 0, 3, mX4_widthOfLine), (280, 0, 1, mX7_shownIsLikeTried), (284, 0, 2, mX0_hasClash), (305, 0, 4, mX6_add), (309, 0, 1, mX2_forget), (312, 0, 2, mX2_keep), (316, 0, 2, mX6_takeAway), (319, 0, 2, mX6_joinWithNext), (322, 0, 2, mX5_reward), (325, 0, 2, mX2_noteFix), (328, 0, 3, mX4_sumOfCosts), (331, 0, 3, mX4_isSameAs), (336, 0, 2, mX6_canBreakBehind), (339, 1, 3, mX7_costOfLine)]
def zcallL8 : List (Nat × Nat × Nat × zM) := [(80, 1, 3, mX8_in), (91, 1, 1, mX8_isName), (95, 0, 3, mX8_fails), (99, 0, 4, mX8_add), (103, 0, 2, mX8_depth), (107, 0, 1, mX8_open), (111, 0, 2, mX8_noEntry), (114, 0, 2, mX8_wide), (117, 0, 2, mX8_occurs), (123, 0, 4, mX8_are), (127, 0, 4, mX8_find), (131, 0, 2, mX8_fixable), (134, 0, 1, mX8_look), (137, 0, 2, mX8_noFinding), (140, 0, 1, mX8_fixables), (143, 0, 3, mX8_put), (147, 0, 3, mX8_change), (150, 0, 2, mX8_remove), (158, 0, 1, mX8_keep), (161, 0, 2, mX8_fixes), (163, 1, 1, mX8_isRule), (167, 0, 3, mX8_span), (171, 0, 3, mX8_costs), (174, 0, 1, mX8_measure)]
def zcallL9 : List (Nat × Nat × Nat × zM) := [(7, 0, 3, mX7_addName), (17, 0, 2, mX7_addComment), (21, 0, 1, mX7_begin), (25, 0, 1, mX7_end), (28, 0, 2, mX7_kindOf), (34, 0, 2, mX7_nameOf), (37, 0, 2, mX7_widthOf), (40, 0, 2, mX7_depthOf), (43, 0, 2, mX7_occurrences), (46, 0, 1, mX7_commonest), (51, 0, 4, mX7_pin), (55, 0, 2, mX7_isPinned), (59, 0, 2, mX7_ruleOf), (62, 0, 2, mX7_firstOf), (65, 0, 2, mX7_lastOf), (68, 0, 2, mX7_canFix), (71, 0, 1, mX7_bestByTrying), (76, 0, 2, mX7_isInBest), (79, 0, 2, mX7_fix), (82, 0, 1, mX7_fixBest), (85, 0, 3, mX7_rename), (88, 0, 3, mX7_move), (91, 0, 1, mX7_undo), (94, 0, 2, mX7_weight), (97, 0, 2, mX7_ruleAt), (100, 0, 2, mX7_undone), (104, 0, 1, mX7_undoneShare), (110, 0, 2, mX7_setWidth), (113, 0, 1, mX7_costByTrying), (116, 0, 2, mX7_lineOf), (119, 0, 2, mX7_lineWidth), (122, 0, 1, mX7_meanWidth), (126, 3, 1, mX7_init), (129, 3, 1, mX8_init), (130, 5, 4, mL_addName), (135, 0, 3, mX8_addName), (136, 0, 1, mX8_thrown), (139, 5, 3, mL_addComment), (142, 0, 2, mX8_addComment), (143, 5, 2, mL_begin), (146, 0, 1, mX8_begin), (147, 5, 2, mL_end), (149, 0, 1, mX8_end), (150, 0, 1, mX7_entries), (153, 0, 1, mX8_entries), (154, 5, 3, mL_kindOf), (156, 0, 2, mX8_kindOf), (157, 5, 3, mL_nameOf), (159, 0, 2, mX8_nameOf), (160, 5, 3, mL_widthOf), (162, 0, 2, mX8_widthOf), (163, 5, 3, mL_depthOf), (165, 0, 2, mX8_depthOf), (166, 5, 3, mL_occurrences), (168, 0, 2, mX8_occurrences), (169, 5, 2, mL_commonest), (171, 0, 1, mX8_commonest), (172, 5, 5, mL_pin), (175, 0, 4, mX8_pin), (176, 5, 3, mL_isPinned), (178, 0, 2, mX8_isPinned), (179, 0, 1, mX7_findings), (182, 0, 1, mX8_findings), (183, 5, 3, mL_ruleOf), (185, 0, 2, mX8_ruleOf), (186, 5, 3, mL_firstOf), (188, 0, 2, mX8_firstOf), (189, 5, 3, mL_lastOf), (191, 0, 2, mX8_lastOf), (192, 5, 3, mL_canFix), (194, 0, 2, mX8_canFix), (195, 0, 1, mX7_best), (198, 0, 1, mX8_best), (199, 5, 2, mL_bestByTrying), (201, 0, 1, mX8_bestByTrying), (202, 5, 3, mL_isInBest), (204, 0, 2, mX8_isInBest), (205, 5, 3, mL_fix), (207, 0, 2, mX8_fix), (208, 5, 2, mL_fixBest), (210, 0, 1, mX8_fixBest), (211, 5, 4, mL_rename), (213, 0, 3, mX8_rename), (214, 5, 4, mL_move), (216, 0, 3, mX8_move), (217, 5, 2, mL_undo), (219, 0, 1, mX8_undo), (220, 5, 3, mL_weight), (222, 0, 2, mX8_weight), (223, 5, 3, mL_ruleAt), (225, 0, 2, mX8_ruleAt), (226, 5, 3, mL_undone), (228, 0, 2, mX8_undone), (229, 5, 2, mL_undoneShare), (232, 0, 1, mX8_undoneShare), (233, 5, 3, mL_setWidth), (235, 0, 2, mX8_setWidth), (236, 0, 1, mX7_layOut), (239, 0, 1, mX8_layOut), (240, 0, 1, mX7_isLaidOut), (244, 0, 1, mX8_isLaidOut), (245, 0, 1, mX7_cost), (248, 0, 1, mX8_cost), (249, 5, 2, mL_costByTrying), (251, 0, 1, mX8_costByTrying), (252, 5, 3, mL_lineOf), (254, 0, 2, mX8_lineOf), (255, 5, 3, mL_lineWidth), (257, 0, 2, mX8_lineWidth), (258, 5, 2, mL_meanWidth), (260, 0, 1, mX8_meanWidth), (261, 0, 1, mX7_isTidy), (264, 0, 1, mX8_isTidy)]
def zcallL : List (List (Nat × Nat × Nat × zM)) := [zcallL0, zcallL1, zcallL2, zcallL3, zcallL4, zcallL5, zcallL6, zcallL7, zcallL8, zcallL9]
def zlook {α : Type} : List (Nat × α) → Nat → Option α
  | [], _ => none
  | q :: r, k => bif Nat.beq q.1 k then some q.2 else zlook r k
def ztab {α : Type} (l : List (List (Nat × α))) (c k : Nat) : Option α := match l[c]? with
  | some r => zlook r k
  | none => none
def zcon (c k : Nat) : Option Int := ztab zconL c k
def zexn (c k : Nat) : Option String := ztab zexnL c k
def zstr (c k : Nat) : Option String := ztab zstrL c k
def zxic (c k : Nat) : Option String := ztab zxicL c k
def zfld (c k : Nat) : Option (Nat × Nat × Nat × Bool × Bool) := ztab zfldL c k
def zcls (c k : Nat) : Option (Nat × Nat) := ztab zclsL c k
def zmth (c k : Nat) : Nat := match ztab zmthL c k with | some n => n | none => 0
def zstc (c k : Nat) : Option Int := ztab zstcL c k
def zcall (c k : Nat) : Option (Nat × Nat × zM) := ztab zcallL c k
def zfty (c k : Nat) : Nat := match zftyL[c]? with | some r => (match r[k]? with | some t => t | none => 0) | none => 0
def zref (c k : Nat) : Bool := match ztab zclsL c k with | some q => q.1 == 1 | none => false
def zCA : List String := ["java/lang/ArithmeticException", "java/lang/IllegalArgumentException", "java/lang/IllegalStateException", "java/lang/IndexOutOfBoundsException", "java/lang/UnsupportedOperationException", "java/util/NoSuchElementException"]
def zNC : List (String × String) := [("java/lang/IllegalStateException", "java/lang/IllegalArgumentException"), ("java/lang/IndexOutOfBoundsException", "java/lang/IllegalArgumentException"), ("java/util/NoSuchElementException", "java/lang/IllegalArgumentException"), ("java/lang/UnsupportedOperationException", "java/lang/IllegalArgumentException"), ("java/lang/ArithmeticException", "java/lang/IllegalArgumentException"), ("java/lang/IllegalArgumentException", "java/lang/IllegalStateException"), ("java/lang/IndexOutOfBoundsException", "java/lang/IllegalStateException"), ("java/util/NoSuchElementException", "java/lang/IllegalStateException"), ("java/lang/UnsupportedOperationException", "java/lang/IllegalStateException"), ("java/lang/ArithmeticException", "java/lang/IllegalStateException"), ("java/lang/IllegalArgumentException", "java/lang/IndexOutOfBoundsException"), ("java/lang/IllegalStateException", "java/lang/IndexOutOfBoundsException"), ("java/util/NoSuchElementException", "java/lang/IndexOutOfBoundsException"), ("java/lang/UnsupportedOperationException", "java/lang/IndexOutOfBoundsException"), ("java/lang/ArithmeticException", "java/lang/IndexOutOfBoundsException"), ("java/lang/IllegalArgumentException", "java/util/NoSuchElementException"), ("java/lang/IllegalStateException", "java/util/NoSuchElementException"), ("java/lang/IndexOutOfBoundsException", "java/util/NoSuchElementException"), ("java/lang/UnsupportedOperationException", "java/util/NoSuchElementException"), ("java/lang/ArithmeticException", "java/util/NoSuchElementException"), ("java/lang/IllegalArgumentException", "java/lang/UnsupportedOperationException"), ("java/lang/IllegalStateException", "java/lang/UnsupportedOperationException"), ("java/lang/IndexOutOfBoundsException", "java/lang/UnsupportedOperationException"), ("java/util/NoSuchElementException", "java/lang/UnsupportedOperationException"), ("java/lang/ArithmeticException", "java/lang/UnsupportedOperationException"), ("java/lang/IllegalArgumentException", "java/lang/ArithmeticException"), ("java/lang/IllegalStateException", "java/lang/ArithmeticException"), ("java/lang/IndexOutOfBoundsException", "java/lang/ArithmeticException"), ("java/util/NoSuchElementException", "java/lang/ArithmeticException"), ("java/lang/UnsupportedOperationException", "java/lang/ArithmeticException")]
def zTX : List (String × Nat × String) := [(RX7, 288, "the name is out of range"), (RX7, 290, "the length is out of range"), (RX7, 303, "there are as many entries as there can be"), (RX7, 86, "no block is open"), (RX7, 296, "there is no such entry"), (RX7, 98, "the entry is no name"), (RX7, 111, "there is no name"), (RX7, 116, "the last entry is ahead of the first one"), (RX7, 299, "there is no such finding"), (RX7, 160, "too many findings can be fixed"), (RX7, 174, "the finding cannot be fixed"), (RX7, 182, "no finding can be fixed"), (RX7, 184, "both names are the same"), (RX7, 186, "the name does not occur"), (RX7, 191, "the name is pinned, or the new one occurs"), (RX7, 197, "both places are the same"), (RX7, 212, "an entry there is pinned, a beginning or an end"), (RX7, 218, "no deed can be undone"), (RX7, 292, "there is no such rule"), (RX7, 232, "there is no such rank"), (RX7, 242, "nothing was fixed"), (RX7, 248, "the width is out of range"), (RX7, 260, "there are too many entries"), (RX7, 301, "the text is not laid out"), (RX7, 272, "there is no such line"), (RX7, 278, "there are no entries")]
def zNW : List Cond := [(Cond.methodLinkNest "LintPress" (9 : Nat) ({ cls := "LintPress$Text", name := "<init>", desc := "()V" } : MethodName) "LintPress"), (Cond.fieldLinkNest "LintPress$Rules" (22 : Nat) "LintPress" "FIRST_WEIGHTS" "[I" "LintPress"), (Cond.methodLinkNest "LintPress$Rules" (25 : Nat) ({ cls := "LintPress", name := "read", desc := "([II)I" } : MethodName) "LintPress"), (Cond.methodLinkNest "LintPress$Rules" (29 : Nat) ({ cls := "LintPress", name := "write", desc := "([III)V" } : MethodName) "LintPress"), (Cond.methodLinkNest "LintPress$Deeds" (24 : Nat) ({ cls := "LintPress$Deed", name := "<init>", desc := "()V" } : MethodName) "LintPress"), (Cond.methodLinkNest "LintPress$Deed" (11 : Nat) ({ cls := "LintPress$Text", name := "<init>", desc := "()V" } : MethodName) "LintPress"), (Cond.methodLinkNest "LintPress" (32 : Nat) ({ cls := "LintPress$Findings", name := "<init>", desc := "()V" } : MethodName) "LintPress"), (Cond.methodLinkNest "LintPress" (39 : Nat) ({ cls := "LintPress$BestSet", name := "<init>", desc := "()V" } : MethodName) "LintPress"), (Cond.methodLinkNest "LintPress" (46 : Nat) ({ cls := "LintPress$Layout", name := "<init>", desc := "()V" } : MethodName) "LintPress"), (Cond.methodLinkNest "LintPress$Text" (30 : Nat) ({ cls := "LintPress", name := "read", desc := "([II)I" } : MethodName) "LintPress"), (Cond.methodLinkNest "LintPress$Text" (34 : Nat) ({ cls := "LintPress", name := "readFlag", desc := "([ZI)Z" } : MethodName) "LintPress"), (Cond.methodLinkNest "LintPress$Findings" (69 : Nat) ({ cls := "LintPress", name := "write", desc := "([III)V" } : MethodName) "LintPress"), (Cond.methodLinkNest "LintPress$BestSet" (56 : Nat) ({ cls := "LintPress", name := "write", desc := "([III)V" } : MethodName) "LintPress"), (Cond.methodLinkNest "LintPress$BestSet" (19 : Nat) ({ cls := "LintPress", name := "read", desc := "([II)I" } : MethodName) "LintPress"), (Cond.methodLinkNest "LintPress$Findings" (28 : Nat) ({ cls := "LintPress", name := "read", desc := "([II)I" } : MethodName) "LintPress"), (Cond.methodLinkNest "LintPress$BestSet" (45 : Nat) ({ cls := "LintPress", name := "writeFlag", desc := "([ZIZ)V" } : MethodName) "LintPress"), (Cond.methodLinkNest "LintPress$Layout" (35 : Nat) ({ cls := "LintPress", name := "write", desc := "([III)V" } : MethodName) "LintPress"), (Cond.methodLinkNest "LintPress$Layout" (51 : Nat) ({ cls := "LintPress", name := "costOfLine", desc := "(IIZ)I" } : MethodName) "LintPress"), (Cond.methodLinkNest "LintPress$Layout" (25 : Nat) ({ cls := "LintPress", name := "read", desc := "([II)I" } : MethodName) "LintPress"), (Cond.methodLinkNest "LintPress$BestSet" (23 : Nat) ({ cls := "LintPress", name := "readFlag", desc := "([ZI)Z" } : MethodName) "LintPress"), (Cond.castable "java/lang/IllegalArgumentException" "java/lang/IllegalArgumentException"), (Cond.declares ({ cls := "java/lang/RuntimeException", name := "<init>", desc := "()V" } : MethodName)), (Cond.declares ({ cls := "java/lang/RuntimeException", name := "<init>", desc := "(Ljava/lang/String;)V" } : MethodName)), (Cond.declares ({ cls := "java/lang/Exception", name := "<init>", desc := "()V" } : MethodName)), (Cond.declares ({ cls := "java/lang/Exception", name := "<init>", desc := "(Ljava/lang/String;)V" } : MethodName)), (Cond.declares ({ cls := "java/lang/Throwable", name := "<init>", desc := "()V" } : MethodName)), (Cond.declares ({ cls := "java/lang/Throwable", name := "<init>", desc := "(Ljava/lang/String;)V" } : MethodName)), (Cond.castable "java/lang/IllegalStateException" "java/lang/IllegalStateException"), (Cond.methodLinkNest "LintPress$Text" (68 : Nat) ({ cls := "LintPress", name := "write", desc := "([III)V" } : MethodName) "LintPress"), (Cond.methodLinkNest "LintPress$Text" (38 : Nat) ({ cls := "LintPress", name := "writeFlag", desc := "([ZIZ)V" } : MethodName) "LintPress"), (Cond.castable "java/lang/ArrayIndexOutOfBoundsException" "java/lang/ArrayIndexOutOfBoundsException"), (Cond.declares ({ cls := "java/lang/IndexOutOfBoundsException", name := "<init>", desc := "()V" } : MethodName)), (Cond.declares ({ cls := "java/lang/IndexOutOfBoundsException", name := "<init>", desc := "(Ljava/lang/String;)V" } : MethodName)), (Cond.castable "java/lang/IndexOutOfBoundsException" "java/lang/IndexOutOfBoundsException"), (Cond.castable "java/util/NoSuchElementException" "java/util/NoSuchElementException"), (Cond.castable "java/lang/UnsupportedOperationException" "java/lang/UnsupportedOperationException"), (Cond.methodLinkNest "LintPress$Deed" (26 : Nat) ({ cls := "LintPress", name := "write", desc := "([III)V" } : MethodName) "LintPress"), (Cond.methodLinkNest "LintPress$Deed" (30 : Nat) ({ cls := "LintPress", name := "read", desc := "([II)I" } : MethodName) "LintPress"), (Cond.castable "java/lang/ArithmeticException" "java/lang/ArithmeticException"), (Cond.castable "java/lang/ArrayIndexOutOfBoundsException" "java/lang/IndexOutOfBoundsException"), (Cond.castable "LintPress" "java/lang/Object"), (Cond.castable "LintPress$Text" "java/lang/Object"), (Cond.castable "LintPress$Rules" "java/lang/Object"), (Cond.castable "LintPress$Deeds" "java/lang/Object"), (Cond.castable "LintPress$Deed" "java/lang/Object"), (Cond.castable "LintPress$Findings" "java/lang/Object"), (Cond.castable "LintPress$BestSet" "java/lang/Object"), (Cond.castable "LintPress$Layout" "java/lang/Object"), (Cond.castable "LintPressModel" "java/lang/Object"), (Cond.castable "java/lang/IllegalArgumentException" "java/lang/Object"), (Cond.castable "java/lang/IllegalStateException" "java/lang/Object"), (Cond.castable "java/lang/ArrayIndexOutOfBoundsException" "java/lang/Object"), (Cond.castable "java/lang/IndexOutOfBoundsException" "java/lang/Object"), (Cond.castable "java/util/NoSuchElementException" "java/lang/Object"), (Cond.castable "java/lang/UnsupportedOperationException" "java/lang/Object"), (Cond.castable "java/lang/ArithmeticException" "java/lang/Object"), (Cond.castable "java/lang/Throwable" "java/lang/Object"), (Cond.castable "java/lang/String" "java/lang/Object")]
end
section
abbrev zMt (M : zM) : List (Nat × Instr × Nat) := M.2.2.1
abbrev zMl (M : zM) : Nat := M.2.2.2.1
abbrev zMr (M : zM) : Option FieldType := M.2.2.2.2.1
abbrev zMh (M : zM) : List (Nat × Nat × Nat × Nat) := M.2.2.2.2.2.1
abbrev zMk (M : zM) : Nat := M.2.2.2.2.2.2
/-- an instruction that calls: how (0 virtual, 1 static, 2 static of a nest mate, 3 constructor, 4 constructor of a nest mate, 5 static with a table), how many values it takes, what -/
def zinv (c : Nat) (i : Instr) (len : Nat) : Option (Nat × Nat × zM) :=
  match i, len with
  | .invokevirtual k, 3 => match zcall c k with
    | some q => if q.1 = 0 then some q else none
    | none => none
  | .invokestatic k, 3 => match zcall c k with
    | some q => if q.1 = 1 ∨ q.1 = 2 ∨ q.1 = 5 then some q else none
    | none => none
  | .invokespecial k, 3 => match zcall c k with
    | some q => if q.1 = 3 ∨ q.1 = 4 then some q else none
    | none => none
  | _, _ => none
/-- the receiver, where there is one -/
def zrecv (S : zS) (kd : Nat) (c : Nat) (as : List zV) : Bool :=
  bif kd == 0 || kd == 3 || kd == 4 then (match as with
    | (1, o) :: _ => (zobj S o c 0).isSome || (decide (0 ≤ o) && (match S.1[o.toNat]? with | some e => e.1 == 0 && e.2.1 == c | none => false))
    | _ => false) else true
def zrun (ro : zRo) : Nat → Nat → zM → Nat → List zV → List zV → zS → Option zR
  | 0, _, _, _, _, _, _ => none
  | n + 1, d, M, pc, ls, st, S =>
    match zget (zMt M) pc with
    | none => none
    | some q =>
    match zpush (zcon (zMk M)) q.1 q.2 ls with
    | some v => zrun ro n d M (pc + q.2) ls (v :: st) S
    | none =>
    match zstore q.1 q.2 ls st with
    | some r => zrun ro n d M (pc + q.2) r.1 r.2 S
    | none =>
    match zarith (zmth (zMk M)) q.1 q.2 st with
    | some r => zrun ro n d M (pc + q.2) ls r S
    | none =>
    match zjump q.1 q.2 pc st with
    | some r => zrun ro n d M r.1 ls r.2 S
    | none =>
    match zend (zMr M) q.1 q.2 st with
    | some v => some (.inl v, S)
    | none =>
    match zthr (zexn (zMk M)) (zMt M) pc q.1 q.2 with
    | some r => if (zstr (zMk M) r.2.2.1).isSome = true ∧ zxic (zMk M) r.2.2.2.1 = some r.1 ∧ (zMh M).isEmpty = true ∧ st.length ≤ 50 then some (.inr r.1, (S.1, S.2.1, S.2.2.1 + 1, S.2.2.2 + 6)) else none
    | none =>
    match zheap (zfld (zMk M)) (zcls (zMk M)) zfty (zref (zMk M)) (zstc (zMk M)) (M.1.name == "<init>") ro q.1 q.2 st S with
    | some r => zrun ro n d M (pc + q.2) ls r.1 r.2
    | none =>
    match d, zinv (zMk M) q.1 q.2 with
    | d' + 1, some r =>
      bif decide (r.2.1 ≤ st.length) && (st.take r.2.1).all zplain && decide (r.2.1 ≤ zMl r.2.2) && (st.drop r.2.1).all zplain && decide ((st.drop r.2.1).length ≤ 8) && zrecv S r.1 (zMk r.2.2) (st.take r.2.1).reverse then
        match zrun ro n d' r.2.2 0 (zargs (zMl r.2.2) (st.take r.2.1).reverse) [] S with
        | some (.inl (some v), S1) => zrun ro n (d' + 1) M (pc + 3) ls (v :: st.drop r.2.1) S1
        | some (.inl none, S1) => zrun ro n (d' + 1) M (pc + 3) ls (st.drop r.2.1) S1
        | some (.inr E, S1) => if r.1 = 0 ∨ r.1 = 1 then
            (match zhand (zexn (zMk M)) zCA zNC pc E (zMh M) with
            | some h => (match zcatch (zMt M) h ls with
              | some r2 => zrun ro n (d' + 1) M r2.1 r2.2 [] S1
              | none => none)
            | none => if (zMh M).isEmpty = true then some (.inr E, S1) else none) else none
        | none => none
      else none
    | _, _ => none
end
section
/-! what the small machine's values are on the machine, and the steps that need no heap -/
def zrf (ad : Int → Nat) (z : Int) : Option Nat := if z = -1 then none else some (ad z)
def zval (ad : Int → Nat) (v : zV) : Value := match v.1 with
  | 0 => .int (Int32.ofInt v.2)
  | 1 => va_rf (zrf ad v.2)
  | 2 => .long (Int64.ofInt v.2)
  | 3 => .float (UInt32.ofNat v.2.toNat)
  | 4 => .double (UInt64.ofNat v.2.toNat)
  | _ => .null
/-- a value that is in its range, a reference that lies among n cells (or is null, or one of the two arrays that are only read) -/
def zok (n : Nat) (v : zV) : Prop := match v.1 with
  | 0 => zi32 v.2
  | 1 => v.2 = -1 ∨ v.2 = -2 ∨ v.2 = -3 ∨ (0 ≤ v.2 ∧ v.2 < n)
  | 2 => zi64 v.2
  | 3 => 0 ≤ v.2 ∧ v.2 < 4294967296
  | 4 => 0 ≤ v.2 ∧ v.2 < 18446744073709551616
  | 9 => True
  | _ => False
theorem zok_mono {n m : Nat} {v : zV} (h : zok n v) (hnm : n ≤ m) : zok m v := by
  obtain ⟨t, z⟩ := v
  match t, h with
  | 0, h => exact h
  | 1, h => simp only [zok] at h ⊢; omega
  | 2, h => exact h
  | 3, h => exact h
  | 4, h => exact h
  | 5, h => exact h
  | 6, h => exact h
  | 7, h => exact h
  | 8, h => exact h
  | 9, h => exact h
  | k + 10, h => exact h
/-- two places for the cells that agree on the first n -/
def zag (n : Nat) (ad ad' : Int → Nat) : Prop := ∀ z : Int, z < n → ad' z = ad z
theorem zval_ag {n : Nat} {ad ad' : Int → Nat} {v : zV} (h : zok n v) (ha : zag n ad ad') : zval ad' v = zval ad v := by
  obtain ⟨t, z⟩ := v
  unfold zval
  match t, h with
  | 0, _ => rfl
  | 1, h =>
    show va_rf (zrf ad' z) = va_rf (zrf ad z)
    unfold zrf
    split
    · rfl
    · rw [ha z (by simp only [zok] at h; omega)]
  | 2, _ => rfl
  | 3, _ => rfl
  | 4, _ => rfl
  | 5, _ => rfl
  | 6, _ => rfl
  | 7, _ => rfl
  | 8, _ => rfl
  | 9, _ => rfl
  | k + 10, _ => rfl
theorem zcatv (ad : Int → Nat) (v : zV) : (zval ad v).category = if v.1 = 2 ∨ v.1 = 4 then 2 else 1 := by
  obtain ⟨t, z⟩ := v
  unfold zval
  match t with
  | 0 => rfl
  | 1 => show (va_rf (zrf ad z)).category = 1; unfold zrf; split <;> rfl
  | 2 => rfl
  | 3 => rfl
  | 4 => rfl
  | 5 => rfl
  | 6 => rfl
  | 7 => rfl
  | 8 => rfl
  | 9 => rfl
  | k + 10 => simp [Value.category]
/-- the locals that are known -/
def zlo (ad : Int → Nat) (ls : List zV) : List (Nat × Value) := (List.range ls.length).filterMap (fun j => match ls[j]? with
  | some v => if v.1 = 9 then none else some (j, zval ad v)
  | none => none)
theorem zlo_mem {ad : Int → Nat} {ls : List zV} {q : Nat × Value} : q ∈ zlo ad ls ↔ ∃ v, ls[q.1]? = some v ∧ v.1 ≠ 9 ∧ q.2 = zval ad v := by
  unfold zlo
  rw [List.mem_filterMap]
  constructor
  · rintro ⟨j, hj, h⟩
    split at h
    · rename_i v hv
      split at h
      · cases h
      · cases h; exact ⟨v, hv, by assumption, rfl⟩
    · cases h
  · rintro ⟨v, h1, h2, h3⟩
    refine ⟨q.1, List.mem_range.mpr (List.getElem?_eq_some_iff.mp h1).1, ?_⟩
    rw [h1]
    simp [h2, ← h3]
theorem zlo_at {ad : Int → Nat} {ls : List zV} {lsC : Array Slot} {n i : Nat} {v : zV} (h : lv_has lsC n (zlo ad ls)) (hi : ls[i]? = some v) (h9 : v.1 ≠ 9) : lsC[i]? = some (.val (zval ad v)) :=
  h.2.2 (i, zval ad v) (zlo_mem.mpr ⟨v, hi, h9, rfl⟩)
theorem zlo_sub {lsC : Array Slot} {n : Nat} {l l' : List (Nat × Value)} (h : lv_has lsC n l) (hs : ∀ q ∈ l', q ∈ l) : lv_has lsC n l' := ⟨h.1, h.2.1, fun q hq => h.2.2 q (hs q hq)⟩
theorem zput_len (ls : List zV) (i : Nat) (v : zV) : (zput ls i v).length = ls.length := by
  unfold zput
  split
  · simp
  · split <;> simp
theorem zput_get {ls : List zV} {i j : Nat} {v w : zV} (h : (zput ls i v)[j]? = some w) (h9 : w.1 ≠ 9) : (j = i ∧ w = v) ∨ (j ≠ i ∧ ls[j]? = some w ∧ ¬ (j + 1 = i ∧ (w.1 = 2 ∨ w.1 = 4))) := by
  have key : ∀ k : Nat, (ls.set k v)[j]? = some w → (j = k ∧ w = v) ∨ (j ≠ k ∧ ls[j]? = some w) := by
    intro k hk
    by_cases hj : k = j
    · subst hj
      by_cases hl : k < ls.length
      · rw [List.getElem?_set_self hl] at hk; cases hk; exact Or.inl ⟨rfl, rfl⟩
      · rw [List.getElem?_eq_none (by simp; omega)] at hk; cases hk
    · rw [List.getElem?_set_ne hj] at hk; exact Or.inr ⟨fun e => hj e.symm, hk⟩
  have key2 : ∀ k x, ((ls.set (k + 1) v).set k (9, x))[j]? = some w → (j = k + 1 ∧ w = v) ∨ (j ≠ k + 1 ∧ j ≠ k ∧ ls[j]? = some w) := by
    intro k x hk
    by_cases hj : k = j
    · subst hj
      by_cases hl : k < (ls.set (k + 1) v).length
      · rw [List.getElem?_set_self hl] at hk; cases hk; exact absurd rfl h9
      · rw [List.getElem?_eq_none (by simp at hl ⊢; omega)] at hk; cases hk
    · rw [List.getElem?_set_ne hj] at hk
      rcases key (k + 1) hk with ⟨a, b⟩ | ⟨a, b⟩
      · exact Or.inl ⟨a, b⟩
      · exact Or.inr ⟨a, fun e => hj e.symm, b⟩
  unfold zput at h
  split at h
  · rcases key 0 h with ⟨a, b⟩ | ⟨a, b⟩
    · exact Or.inl ⟨a, b⟩
    · exact Or.inr ⟨a, b, by omega⟩
  · rename_i k
    split at h
    · rcases key2 k 0 h with ⟨a, b⟩ | ⟨a, b, c⟩
      · exact Or.inl ⟨a, b⟩
      · exact Or.inr ⟨a, c, by omega⟩
    · rcases key2 k 0 h with ⟨a, b⟩ | ⟨a, b, c⟩
      · exact Or.inl ⟨a, b⟩
      · exact Or.inr ⟨a, c, by omega⟩
    · rename_i n2 n4
      rcases key (k + 1) h with ⟨a, b⟩ | ⟨a, b⟩
      · exact Or.inl ⟨a, b⟩
      · refine Or.inr ⟨a, b, ?_⟩
        rintro ⟨e, e2⟩
        have hj : j = k := by omega
        subst hj
        rcases e2 with e2 | e2
        · exact n2 w.2 (by rw [b]; exact congrArg some (Prod.ext e2 rfl))
        · exact n4 w.2 (by rw [b]; exact congrArg some (Prod.ext e2 rfl))
theorem zput_has {ad : Int → Nat} {ls : List zV} {lsC : Array Slot} {n i : Nat} {v : zV} (h : lv_has lsC n ((i, zval ad v) :: (zlo ad ls).filter (fun q => !(q.1 == i) && !(q.1 + 1 == i && q.2.category == 2)))) : lv_has lsC n (zlo ad (zput ls i v)) := by
  refine zlo_sub h (fun q hq => ?_)
  obtain ⟨w, h1, h2, h3⟩ := zlo_mem.mp hq
  rcases zput_get h1 h2 with ⟨a, b⟩ | ⟨a, b, c⟩
  · exact List.mem_cons.mpr (Or.inl (Prod.ext a (by rw [h3, b])))
  · refine List.mem_cons.mpr (Or.inr (List.mem_filter.mpr ⟨zlo_mem.mpr ⟨w, b, h2, h3⟩, ?_⟩))
    rw [h3, zcatv]
    simp only [Bool.and_eq_true, Bool.not_eq_true', beq_eq_false_iff_ne, ne_eq, Bool.and_eq_false_iff]
    refine ⟨a, ?_⟩
    by_cases e : q.1 + 1 = i
    · right
      rw [if_neg (fun e2 => c ⟨e, e2⟩)]
      decide
    · exact Or.inl e
theorem zput2_get {ls : List zV} {i j : Nat} {v w : zV} (h : (zput2 ls i v)[j]? = some w) (h9 : w.1 ≠ 9) : j ≠ i + 1 ∧ (zput ls i v)[j]? = some w := by
  unfold zput2 at h
  by_cases hj : i + 1 = j
  · subst hj
    by_cases hl : i + 1 < (zput ls i v).length
    · rw [List.getElem?_set_self hl] at h; cases h; exact absurd rfl h9
    · rw [List.getElem?_eq_none (by simp at hl ⊢; omega)] at h; cases h
  · rw [List.getElem?_set_ne hj] at h
    exact ⟨fun e => hj e.symm, h⟩
theorem zput2_len (ls : List zV) (i : Nat) (v : zV) : (zput2 ls i v).length = ls.length := by
  unfold zput2; rw [List.length_set, zput_len]
theorem zput2_has {ad : Int → Nat} {ls : List zV} {lsC : Array Slot} {n i : Nat} {v : zV} (h : lv_has lsC n ((i, zval ad v) :: (zlo ad ls).filter (fun q => !(q.1 == i) && (!(q.1 == i + 1) && !(q.1 + 1 == i && q.2.category == 2))))) : lv_has lsC n (zlo ad (zput2 ls i v)) := by
  refine zlo_sub h (fun q hq => ?_)
  obtain ⟨w, h1, h2, h3⟩ := zlo_mem.mp hq
  obtain ⟨hne, h1⟩ := zput2_get h1 h2
  rcases zput_get h1 h2 with ⟨a, b⟩ | ⟨a, b, c⟩
  · exact List.mem_cons.mpr (Or.inl (Prod.ext a (by rw [h3, b])))
  · refine List.mem_cons.mpr (Or.inr (List.mem_filter.mpr ⟨zlo_mem.mpr ⟨w, b, h2, h3⟩, ?_⟩))
    rw [h3, zcatv]
    simp only [Bool.and_eq_true, Bool.not_eq_true', beq_eq_false_iff_ne, ne_eq, Bool.and_eq_false_iff]
    refine ⟨a, hne, ?_⟩
    by_cases e : q.1 + 1 = i
    · right
      rw [if_neg (fun e2 => c ⟨e, e2⟩)]
      decide
    · exact Or.inl e
/-- the known locals are in their ranges -/
def zoks (n : Nat) (l : List zV) : Prop := ∀ v ∈ l, zok n v
theorem zoks_put {n i : Nat} {ls : List zV} {v : zV} (h : zoks n ls) (hv : zok n v) : zoks n (zput ls i v) := by
  intro w hw
  by_cases h9 : w.1 = 9
  · obtain ⟨t, z⟩ := w; subst h9; trivial
  · obtain ⟨j, hj⟩ := List.getElem?_of_mem hw
    rcases zput_get hj h9 with ⟨-, b⟩ | ⟨-, b, -⟩
    · rw [b]; exact hv
    · exact h w (List.mem_of_getElem? b)
theorem zoks_put2 {n i : Nat} {ls : List zV} {v : zV} (h : zoks n ls) (hv : zok n v) : zoks n (zput2 ls i v) := by
  intro w hw
  by_cases h9 : w.1 = 9
  · obtain ⟨t, z⟩ := w; subst h9; trivial
  · obtain ⟨j, hj⟩ := List.getElem?_of_mem hw
    exact zoks_put (i := i) h hv w (List.mem_of_getElem? (zput2_get hj h9).2)
-- numbers
theorem zI32 {z : Int} (h : zi32 z) : (Int32.ofInt z).toInt = z := Int32.toInt_ofInt_of_le (by unfold zi32 at h; omega) (by unfold zi32 at h; omega)
theorem zI64 {z : Int} (h : zi64 z) : (Int64.ofInt z).toInt = z := Int64.toInt_ofInt_of_le (by unfold zi64 at h; omega) (by unfold zi64 at h; omega)
theorem zi32_wrap (z : Int) : zi32 (zw32 z) := by unfold zi32 zw32; have := @Int.bmod_lt z 4294967296 (by decide); have := @Int.le_bmod z 4294967296 (by decide); omega
theorem zi64_wrap (z : Int) : zi64 (zw64 z) := by unfold zi64 zw64; have := @Int.bmod_lt z 18446744073709551616 (by decide); have := @Int.le_bmod z 18446744073709551616 (by decide); omega
theorem zofw32 (z : Int) : Int32.ofInt (zw32 z) = Int32.ofInt z := by
  apply Int32.toInt_inj.mp
  rw [zI32 (zi32_wrap z), Int32.toInt_ofInt]
  rfl
theorem zofw64 (z : Int) : Int64.ofInt (zw64 z) = Int64.ofInt z := by
  apply Int64.toInt_inj.mp
  rw [zI64 (zi64_wrap z), Int64.toInt_ofInt]
  rfl
theorem zi32_toInt (x : Int32) : zi32 x.toInt := ⟨by have := x.le_toInt; omega, by have := x.toInt_lt; omega⟩
theorem zi8 {n : Int} (h1 : -128 ≤ n) (h2 : n < 128) : (Int8.ofInt n).toInt32 = Int32.ofInt n := by
  apply Int32.toInt_inj.mp
  rw [Int8.toInt_toInt32, Int8.toInt_ofInt_of_le (by omega) (by omega), zI32 ⟨by omega, by omega⟩]
theorem zi16 {n : Int} (h1 : -32768 ≤ n) (h2 : n < 32768) : (Int16.ofInt n).toInt32 = Int32.ofInt n := by
  apply Int32.toInt_inj.mp
  rw [Int16.toInt_toInt32, Int16.toInt_ofInt_of_le (by omega) (by omega), zI32 ⟨by omega, by omega⟩]
theorem zclamp {z : Int} (h0 : 0 ≤ z) (h : z < 2147483648) : (Int32.ofInt z).toNatClampNeg = z.toNat := by
  show (Int32.ofInt z).toInt.toNat = _
  rw [zI32 ⟨by omega, by omega⟩]
theorem zvpin {z : Int} {n : Nat} (h0 : 0 ≤ z) (h : z < n) (h2 : z < 2147483648) : vp_in (Int32.ofInt z) n := by
  rw [vp_in_iff, zI32 ⟨by omega, by omega⟩]
  exact ⟨h0, h⟩
theorem zu32 (x : UInt32) : UInt32.ofNat ((x.toNat : Int).toNat) = x := by simp
theorem zu64 (x : UInt64) : UInt64.ofNat ((x.toNat : Int).toNat) = x := by simp
theorem zltI {a b : Int} (ha : zi32 a) (hb : zi32 b) : Int32.ofInt a < Int32.ofInt b ↔ a < b := by rw [Int32.lt_iff_toInt_lt, zI32 ha, zI32 hb]
theorem zleI {a b : Int} (ha : zi32 a) (hb : zi32 b) : Int32.ofInt a ≤ Int32.ofInt b ↔ a ≤ b := by rw [Int32.le_iff_toInt_le, zI32 ha, zI32 hb]
theorem zeqI {a b : Int} (ha : zi32 a) (hb : zi32 b) : Int32.ofInt a = Int32.ofInt b ↔ a = b := by rw [← Int32.toInt_inj, zI32 ha, zI32 hb]
end
section
/-! the steps that need no heap, on the machine -/
section
variable {p : Program} {l : Launch} {e : Env} {R : Room} {s : State} {m : MethodId} {args : Array Value} {below : List Frame} {meth : Method} {c : Code} {H : Heap} {locs : List Loc} {cells slots : Nat} {Q : State → Prop}
variable {cc : ByteArray} {pc n : Nat} {lsC : Array Slot} {rest : List Value} {ad : Int → Nat} {ls st : List zV}
theorem zs_push {con : Nat → Option Int} (hx : p.tables.exec = Jvm.exec) (hb : c.code = cc) (hown : ∃ own, s.vm.findClass own = some m.cls ∧ ∀ k v, con k = some v → (Cond.constant own k (Int32.ofInt v)).before args s = true ∧ zi32 v) {i : Instr} {len : Nat} {v : zV} (h : zpush con i len ls = some v) (hL : lv_has lsC ls.length (zlo ad ls)) (hd : decode cc pc = .ok (i, len)) (hok : zoks n ls)
    (k : zok n v → W p l e R s m args below meth c H locs cells slots Q (F0 m (pc + len) lsC (zval ad v :: rest))) : W p l e R s m args below meth c H locs cells slots Q (F0 m pc lsC rest) := by
  obtain ⟨own, hown, hcon⟩ := hown
  unfold zpush at h
  split at h
  · split at h
    · cases h; exact lv_iconst hx hb hd rfl (k ⟨by omega, by omega⟩)
    · cases h
  · split at h
    · rename_i h2; cases h; exact lv_bipush hx hb hd (zi8 h2.1 h2.2) (k ⟨by omega, by omega⟩)
    · cases h
  · split at h
    · rename_i h2; cases h; exact lv_sipush hx hb hd (zi16 h2.1 h2.2) (k ⟨by omega, by omega⟩)
    · cases h
  · cases h; exact lv_lconst hx hb hd (by rw [← Int64.ofInt_eq_ofNat]) (k ⟨by omega, by omega⟩)
  · split at h
    · rename_i n0 h2; cases h
      have e0 : n0 = 0 := Fin.ext h2
      subst e0
      refine lv_fconst0 hx hb hd ?_
      have k := k ⟨by omega, by have := (FP.fconst0).toNat_lt; omega⟩
      simp only [zval, zu32] at k
      exact k
    · cases h
  · split at h
    · rename_i n0 h2; cases h
      have e0 : n0 = 0 := Fin.ext h2
      subst e0
      refine lv_dconst0 hx hb hd ?_
      have k := k ⟨by omega, by have := (FP.dconst0).toNat_lt; omega⟩
      simp only [zval, zu64] at k
      exact k
    · cases h
  · cases h; exact lv_null hx hb hd (k (Or.inl rfl))
  · split at h
    · rename_i v0 h2; cases h; exact lv_ldc hx hb hown (hcon _ _ h2).1 hd (k (hcon _ _ h2).2)
    · cases h
  · split at h
    · rename_i v0 h2; cases h; exact lv_ldcw hx hb hown (hcon _ _ h2).1 hd (k (hcon _ _ h2).2)
    · cases h
  · split at h
    · rename_i v0 h2; cases h; exact lv_iload_n hx hb hd rfl (zlo_at hL h2 (by simp)) (k (hok _ (List.mem_of_getElem? h2)))
    · cases h
  · split at h
    · rename_i v0 h2; cases h; exact lv_iload hx hb hd (zlo_at hL h2 (by simp)) (k (hok _ (List.mem_of_getElem? h2)))
    · cases h
  · split at h
    · rename_i v0 h2; cases h
      have g1 := zlo_at hL h2 (by simp)
      have k := k (hok _ (List.mem_of_getElem? h2))
      simp only [zval, zrf] at g1 k
      split at g1
      · simp only [*, if_true] at k; exact lv_aload_nN hx hb hd rfl g1 k
      · simp only [*, if_false] at k; exact lv_aload_n hx hb hd rfl g1 k
    · cases h
  · split at h
    · rename_i v0 h2; cases h
      have g1 := zlo_at hL h2 (by simp)
      have k := k (hok _ (List.mem_of_getElem? h2))
      simp only [zval, zrf] at g1 k
      split at g1
      · simp only [*, if_true] at k; exact lv_aloadN hx hb hd g1 k
      · simp only [*, if_false] at k; exact lv_aload hx hb hd g1 k
    · cases h
  · split at h
    · rename_i v0 h2; cases h; exact lv_lload_n hx hb hd rfl (zlo_at hL h2 (by simp)) (k (hok _ (List.mem_of_getElem? h2)))
    · cases h
  · split at h
    · rename_i v0 h2; cases h; exact lv_lload hx hb hd (zlo_at hL h2 (by simp)) (k (hok _ (List.mem_of_getElem? h2)))
    · cases h
  · split at h
    · rename_i v0 h2; cases h; exact lv_fload_n hx hb hd rfl (zlo_at hL h2 (by simp)) (k (hok _ (List.mem_of_getElem? h2)))
    · cases h
  · split at h
    · rename_i v0 h2; cases h; exact lv_fload hx hb hd (zlo_at hL h2 (by simp)) (k (hok _ (List.mem_of_getElem? h2)))
    · cases h
  · split at h
    · rename_i v0 h2; cases h; exact lv_dload_n hx hb hd rfl (zlo_at hL h2 (by simp)) (k (hok _ (List.mem_of_getElem? h2)))
    · cases h
  · split at h
    · rename_i v0 h2; cases h; exact lv_dload hx hb hd (zlo_at hL h2 (by simp)) (k (hok _ (List.mem_of_getElem? h2)))
    · cases h
  · cases h
theorem zs_store (hx : p.tables.exec = Jvm.exec) (hb : c.code = cc) {i : Instr} {len : Nat} {r : List zV × List zV} (h : zstore i len ls st = some r) (hL : lv_has lsC ls.length (zlo ad ls)) (hd : decode cc pc = .ok (i, len)) (hok : zoks n ls) (hos : zoks n st)
    (k : ∀ lsC' : Array Slot, lv_has lsC' r.1.length (zlo ad r.1) → zoks n r.1 → zoks n r.2 → W p l e R s m args below meth c H locs cells slots Q (F0 m (pc + len) lsC' (r.2.map (zval ad)))) : W p l e R s m args below meth c H locs cells slots Q (F0 m pc lsC (st.map (zval ad))) := by
  unfold zstore at h
  split at h
  · split at h
    · rename_i h2; cases h
      have ho := List.forall_mem_cons.mp hos
      exact lv_istore_n hx hb hd rfl hL h2 rfl (fun l' hl' => k l' (by rw [zput_len]; exact zput_has (v := (0, _)) hl') (zoks_put hok ho.1) ho.2)
    · cases h
  · split at h
    · rename_i h2; cases h
      have ho := List.forall_mem_cons.mp hos
      exact lv_istore hx hb hd hL h2 rfl (fun l' hl' => k l' (by rw [zput_len]; exact zput_has (v := (0, _)) hl') (zoks_put hok ho.1) ho.2)
    · cases h
  · split at h
    · rename_i h2; cases h
      have ho := List.forall_mem_cons.mp hos
      rename_i v0 st0
      show W p l e R s m args below meth c H locs cells slots Q (F0 m pc lsC (va_rf (zrf ad v0) :: st0.map (zval ad)))
      have key : ∀ x, zrf ad v0 = x → W p l e R s m args below meth c H locs cells slots Q (F0 m pc lsC (va_rf x :: st0.map (zval ad))) := by
        intro x hx2
        cases x with
        | none => exact lv_astore_nN hx hb hd rfl hL h2 rfl (fun l' hl' => k l' (by rw [zput_len]; exact zput_has (v := (1, v0)) (by simp only [zval, hx2]; exact hl')) (zoks_put hok ho.1) ho.2)
        | some y => exact lv_astore_n hx hb hd rfl hL h2 rfl (fun l' hl' => k l' (by rw [zput_len]; exact zput_has (v := (1, v0)) (by simp only [zval, hx2]; exact hl')) (zoks_put hok ho.1) ho.2)
      exact key _ rfl
    · cases h
  · split at h
    · rename_i h2; cases h
      have ho := List.forall_mem_cons.mp hos
      rename_i v0 st0
      show W p l e R s m args below meth c H locs cells slots Q (F0 m pc lsC (va_rf (zrf ad v0) :: st0.map (zval ad)))
      have key : ∀ x, zrf ad v0 = x → W p l e R s m args below meth c H locs cells slots Q (F0 m pc lsC (va_rf x :: st0.map (zval ad))) := by
        intro x hx2
        cases x with
        | none => exact lv_astoreN hx hb hd hL h2 rfl (fun l' hl' => k l' (by rw [zput_len]; exact zput_has (v := (1, v0)) (by simp only [zval, hx2]; exact hl')) (zoks_put hok ho.1) ho.2)
        | some y => exact lv_astore hx hb hd hL h2 rfl (fun l' hl' => k l' (by rw [zput_len]; exact zput_has (v := (1, v0)) (by simp only [zval, hx2]; exact hl')) (zoks_put hok ho.1) ho.2)
      exact key _ rfl
    · cases h
  · split at h
    · rename_i h2; cases h
      have ho := List.forall_mem_cons.mp hos
      exact lv_fstore_n hx hb hd rfl hL h2 rfl (fun l' hl' => k l' (by rw [zput_len]; exact zput_has (v := (3, _)) hl') (zoks_put hok ho.1) ho.2)
    · cases h
  · split at h
    · rename_i h2; cases h
      have ho := List.forall_mem_cons.mp hos
      exact lv_fstore hx hb hd hL h2 rfl (fun l' hl' => k l' (by rw [zput_len]; exact zput_has (v := (3, _)) hl') (zoks_put hok ho.1) ho.2)
    · cases h
  · split at h
    · rename_i h2; cases h
      have ho := List.forall_mem_cons.mp hos
      exact lv_lstore_n hx hb hd rfl hL h2 rfl (fun l' hl' => k l' (by rw [zput2_len]; exact zput2_has (v := (2, _)) hl') (zoks_put2 hok ho.1) ho.2)
    · cases h
  · split at h
    · rename_i h2; cases h
      have ho := List.forall_mem_cons.mp hos
      exact lv_lstore hx hb hd hL h2 rfl (fun l' hl' => k l' (by rw [zput2_len]; exact zput2_has (v := (2, _)) hl') (zoks_put2 hok ho.1) ho.2)
    · cases h
  · split at h
    · rename_i h2; cases h
      have ho := List.forall_mem_cons.mp hos
      exact lv_dstore_n hx hb hd rfl hL h2 rfl (fun l' hl' => k l' (by rw [zput2_len]; exact zput2_has (v := (4, _)) hl') (zoks_put2 hok ho.1) ho.2)
    · cases h
  · split at h
    · rename_i h2; cases h
      have ho := List.forall_mem_cons.mp hos
      exact lv_dstore hx hb hd hL h2 rfl (fun l' hl' => k l' (by rw [zput2_len]; exact zput2_has (v := (4, _)) hl') (zoks_put2 hok ho.1) ho.2)
    · cases h
  · rename_i st0 k0 n0
    split at h
    · rename_i v0 h2; cases h
      obtain ⟨kk, hkk⟩ := List.getElem?_of_mem (zlo_mem (ad := ad) (ls := ls) (q := (k0, Value.int (Int32.ofInt v0))) |>.mpr ⟨(0, v0), h2, by simp, rfl⟩)
      refine lv_iinc (v := Int32.ofInt (zw32 (v0 + n0))) hx hb hd hL hkk (by rw [zofw32, Int32.ofInt_add]) (List.getElem?_eq_some_iff.mp h2).1 rfl (fun l' hl' => k l' (by rw [zput_len]; exact zput_has (v := (0, _)) hl') (zoks_put hok (zi32_wrap _)) hos)
    · cases h
  · cases h
end
section
variable {p : Program} {l : Launch} {e : Env} {R : Room} {s : State} {m : MethodId} {args : Array Value} {below : List Frame} {meth : Method} {c : Code} {H : Heap} {locs : List Loc} {cells slots : Nat} {Q : State → Prop}
variable {cc : ByteArray} {pc n : Nat} {lsC : Array Slot} {rest : List Value} {ad : Int → Nat} {ls st : List zV}
theorem zok3 (x : UInt32) : zok n (3, (x.toNat : Int)) := by
  show 0 ≤ (x.toNat : Int) ∧ (x.toNat : Int) < 4294967296
  have := UInt32.toNat_lt x
  omega
theorem zok4 (x : UInt64) : zok n (4, (x.toNat : Int)) := by
  show 0 ≤ (x.toNat : Int) ∧ (x.toNat : Int) < 18446744073709551616
  have := UInt64.toNat_lt x
  omega
theorem zn32_of {x : UInt32} (h : zn32 x = true) : vf_n32 x := by unfold zn32 at h; unfold vf_n32; exact of_decide_eq_true h
theorem zn64_of {x : UInt64} (h : zn64 x = true) : vf_n64 x := by unfold zn64 at h; unfold vf_n64; exact of_decide_eq_true h
theorem zsumcat (ad : Int → Nat) (st : List zV) : ((st.map (zval ad)).map fun v => v.category).sum ≤ 2 * st.length := by
  induction st with
  | nil => simp
  | cons v t ih =>
    simp only [List.map_cons, List.sum_cons, List.length_cons]
    have : (zval ad v).category ≤ 2 := by rw [zcatv]; split <;> omega
    omega
theorem zs_arith (hx : p.tables.exec = Jvm.exec) (hb : c.code = cc) {mth : Nat → Nat} (hml : c.maxLocals = lsC.size)
    (hm : ∃ own, s.vm.findClass own = some m.cls ∧ ∀ k,
      (mth k = 1 → (Cond.methodLink own k Lib.Math.max.name).before args s = true ∧ (Cond.static Lib.Math.max.name).before args s = true ∧ (Cond.initialized "java/lang/Math").before args s = true ∧ (Cond.code Lib.Math.max.name Lib.Math.max.code 2 (some .int)).before args s = true) ∧
      (mth k = 2 → (Cond.methodLink own k Lib.Math.min.name).before args s = true ∧ (Cond.static Lib.Math.min.name).before args s = true ∧ (Cond.initialized "java/lang/Math").before args s = true ∧ (Cond.code Lib.Math.min.name Lib.Math.min.code 2 (some .int)).before args s = true) ∧
      (mth k = 3 → (Cond.methodLink own k Lib.objectInit).before args s = true ∧ (Cond.instanceMethod Lib.objectInit).before args s = true ∧ (Cond.code Lib.objectInit ⟨#[0xb1]⟩ 1 none).before args s = true))
    (hf : 1 ≤ R.frames) (hlo : 200 ≤ R.locals) (hcl : cells ≤ R.cells) (hsl : slots ≤ R.slots)
    {i : Instr} {len : Nat} {r : List zV} (h : zarith mth i len st = some r) (hd : decode cc pc = .ok (i, len)) (hos : zoks n st)
    (k : zoks n r → W p l e R s m args below meth c H locs cells slots Q (F0 m (pc + len) lsC (r.map (zval ad)))) : W p l e R s m args below meth c H locs cells slots Q (F0 m pc lsC (st.map (zval ad))) := by
  obtain ⟨own, hown, hm⟩ := hm
  unfold zarith at h
  split at h
  · cases h
    have ho := (List.forall_mem_cons.mp (List.forall_mem_cons.mp hos).2).2
    refine lv_iadd hx hb hd ?_
    have k := k (List.forall_mem_cons.mpr ⟨zi32_wrap _, ho⟩)
    rw [List.map_cons, show ∀ z, zval ad (0, z) = .int (Int32.ofInt z) from fun _ => rfl, zofw32, Int32.ofInt_add] at k
    exact k
  · cases h
    have ho := (List.forall_mem_cons.mp (List.forall_mem_cons.mp hos).2).2
    refine lv_isub hx hb hd ?_
    have k := k (List.forall_mem_cons.mpr ⟨zi32_wrap _, ho⟩)
    rw [List.map_cons, show ∀ z, zval ad (0, z) = .int (Int32.ofInt z) from fun _ => rfl, zofw32, Int32.ofInt_sub] at k
    exact k
  · cases h
    have ho := (List.forall_mem_cons.mp (List.forall_mem_cons.mp hos).2).2
    refine lv_imul hx hb hd ?_
    have k := k (List.forall_mem_cons.mpr ⟨zi32_wrap _, ho⟩)
    rw [List.map_cons, show ∀ z, zval ad (0, z) = .int (Int32.ofInt z) from fun _ => rfl, zofw32, Int32.ofInt_mul] at k
    exact k
  · cases h
    have ho := (List.forall_mem_cons.mp (List.forall_mem_cons.mp hos).2).2
    refine lv_iand hx hb hd ?_
    have k := k (List.forall_mem_cons.mpr ⟨zi32_toInt _, ho⟩)
    rw [List.map_cons, show ∀ z, zval ad (0, z) = .int (Int32.ofInt z) from fun _ => rfl, Int32.ofInt_toInt] at k
    exact k
  · split at h
    · rename_i b0 a0 st0 h2; cases h
      have ho1 := List.forall_mem_cons.mp hos
      have ho2 := List.forall_mem_cons.mp ho1.2
      have hb0 : zi32 b0 := ho1.1
      have ha0 : zi32 a0 := ho2.1
      have hq : zi32 (a0.tdiv b0) := by
        unfold zi32 at *
        have h3 := Int.natAbs_tdiv_le_natAbs a0 b0
        rcases Int.le_total 0 a0 with h4 | h4
        · have := Int.tdiv_nonneg h4 (Int.le_of_lt h2)
          omega
        · have h5 := Int.tdiv_nonneg (show 0 ≤ -a0 by omega) (Int.le_of_lt h2)
          rw [Int.neg_tdiv] at h5
          omega
      refine lv_idiv hx hb hd (fun e => ?_) ?_
      · have := congrArg Int32.toInt e
        rw [zI32 hb0] at this
        have h0 : (0 : Int32).toInt = 0 := rfl
        omega
      · have k := k (List.forall_mem_cons.mpr ⟨hq, ho2.2⟩)
        rw [List.map_cons, show ∀ z, zval ad (0, z) = .int (Int32.ofInt z) from fun _ => rfl] at k
        have e1 : Int32.ofInt (a0.tdiv b0) = Int32.ofInt a0 / Int32.ofInt b0 := by
          apply Int32.toInt_inj.mp
          rw [Int32.toInt_div_of_ne_right _ _ (fun e => ?_), zI32 hq, zI32 ha0, zI32 hb0]
          have := congrArg Int32.toInt e
          rw [zI32 hb0] at this
          have h0 : (-1 : Int32).toInt = -1 := rfl
          omega
        rw [e1] at k
        exact k
    · cases h
  · cases h
    have ho := (List.forall_mem_cons.mp (List.forall_mem_cons.mp hos).2).2
    refine lv_ladd hx hb hd ?_
    have k := k (List.forall_mem_cons.mpr ⟨zi64_wrap _, ho⟩)
    rw [List.map_cons, show ∀ z, zval ad (2, z) = .long (Int64.ofInt z) from fun _ => rfl, zofw64, Int64.ofInt_add] at k
    exact k
  · rename_i b0 a0 st0
    cases h
    have ho1 := List.forall_mem_cons.mp hos
    have ho2 := List.forall_mem_cons.mp ho1.2
    refine W.lcmp hx hb hd ?_
    have k := k (List.forall_mem_cons.mpr ⟨by show zi32 _; unfold zi32; split <;> (try split) <;> omega, ho2.2⟩)
    have e1 : lg_cmp (Int64.ofInt a0) (Int64.ofInt b0) = Int32.ofInt (if a0 < b0 then -1 else if a0 = b0 then 0 else 1) := by
      have g1 : zi64 a0 := ho2.1
      have g2 : zi64 b0 := ho1.1
      unfold lg_cmp
      simp only [gt_iff_lt, Int64.lt_iff_toInt_lt, ← Int64.toInt_inj, zI64 g1, zI64 g2]
      by_cases c1 : a0 < b0
      · rw [if_neg (by omega), if_neg (by omega), if_pos c1]; rfl
      · by_cases c2 : a0 = b0
        · rw [if_neg (by omega), if_pos c2, if_neg c1, if_pos c2]; rfl
        · rw [if_pos (by omega), if_neg c1, if_neg c2]; rfl
    rw [e1]
    exact k
  · rename_i a0 st0
    cases h
    have ho1 := List.forall_mem_cons.mp hos
    have g1 : zi32 a0 := ho1.1
    refine lv_i2l hx hb hd (v := Int64.ofInt a0) ?_ (k (List.forall_mem_cons.mpr ⟨⟨by unfold zi32 at g1; omega, by unfold zi32 at g1; omega⟩, ho1.2⟩))
    apply Int64.toInt_inj.mp
    rw [Int32.toInt_toInt64, zI32 g1, zI64 ⟨by unfold zi32 at g1; omega, by unfold zi32 at g1; omega⟩]
  · cases h
    have ho1 := List.forall_mem_cons.mp hos
    refine lv_i2f hx hb hd ?_
    have k := k (List.forall_mem_cons.mpr ⟨zok3 _, ho1.2⟩)
    rw [List.map_cons, show ∀ z, zval ad (3, z) = .float (UInt32.ofNat z.toNat) from fun _ => rfl, zu32] at k
    exact k
  · cases h
    have ho1 := List.forall_mem_cons.mp hos
    refine lv_l2f hx hb hd ?_
    have k := k (List.forall_mem_cons.mpr ⟨zok3 _, ho1.2⟩)
    rw [List.map_cons, show ∀ z, zval ad (3, z) = .float (UInt32.ofNat z.toNat) from fun _ => rfl, zu32] at k
    exact k
  · cases h
    have ho1 := List.forall_mem_cons.mp hos
    refine lv_i2d hx hb hd ?_
    have k := k (List.forall_mem_cons.mpr ⟨zok4 _, ho1.2⟩)
    rw [List.map_cons, show ∀ z, zval ad (4, z) = .double (UInt64.ofNat z.toNat) from fun _ => rfl, zu64] at k
    exact k
  · split at h
    · rename_i h2
      cases h
      have ho1 := List.forall_mem_cons.mp hos
      refine lv_f2d hx hb hd (zn64_of h2) ?_
      have k := k (List.forall_mem_cons.mpr ⟨zok4 _, ho1.2⟩)
      rw [List.map_cons, show ∀ z, zval ad (4, z) = .double (UInt64.ofNat z.toNat) from fun _ => rfl, zu64] at k
      exact k
    · cases h
  · split at h
    · rename_i h2
      cases h
      have ho1 := List.forall_mem_cons.mp hos
      have ho2 := List.forall_mem_cons.mp ho1.2
      refine lv_fdiv hx hb hd (zn32_of h2) ?_
      have k := k (List.forall_mem_cons.mpr ⟨zok3 _, ho2.2⟩)
      rw [List.map_cons, show ∀ z, zval ad (3, z) = .float (UInt32.ofNat z.toNat) from fun _ => rfl, zu32] at k
      exact k
    · cases h
  · split at h
    · rename_i h2
      cases h
      have ho1 := List.forall_mem_cons.mp hos
      have ho2 := List.forall_mem_cons.mp ho1.2
      refine lv_ddiv hx hb hd (zn64_of h2) ?_
      have k := k (List.forall_mem_cons.mpr ⟨zok4 _, ho2.2⟩)
      rw [List.map_cons, show ∀ z, zval ad (4, z) = .double (UInt64.ofNat z.toNat) from fun _ => rfl, zu64] at k
      exact k
    · cases h
  · cases h
    have ho := (List.forall_mem_cons.mp (List.forall_mem_cons.mp hos).2).2
    refine lv_fcmp hx hb hd ?_
    have k := k (List.forall_mem_cons.mpr ⟨zi32_toInt _, ho⟩)
    rw [List.map_cons, show ∀ z, zval ad (0, z) = .int (Int32.ofInt z) from fun _ => rfl, Int32.ofInt_toInt] at k
    exact k
  · cases h
    have ho := (List.forall_mem_cons.mp (List.forall_mem_cons.mp hos).2).2
    refine lv_dcmp hx hb hd ?_
    have k := k (List.forall_mem_cons.mpr ⟨zi32_toInt _, ho⟩)
    rw [List.map_cons, show ∀ z, zval ad (0, z) = .int (Int32.ofInt z) from fun _ => rfl, Int32.ofInt_toInt] at k
    exact k
  · split at h
    · rename_i t0 a0 st0 h2
      cases h
      have ho1 := List.forall_mem_cons.mp hos
      exact lv_dup hx hb hd (by rw [zcatv, if_neg]; simp only []; omega) (k (List.forall_mem_cons.mpr ⟨ho1.1, List.forall_mem_cons.mpr ⟨ho1.1, ho1.2⟩⟩))
    · cases h
  · cases h
    have ho1 := List.forall_mem_cons.mp hos
    have ho2 := List.forall_mem_cons.mp ho1.2
    exact lv_dup2_11 hx hb hd (by rw [zcatv, if_neg]; simp) (by rw [zcatv, if_neg]; simp) (k (List.forall_mem_cons.mpr ⟨ho1.1, List.forall_mem_cons.mpr ⟨ho2.1, hos⟩⟩))
  · split at h
    · rename_i t0 a0 st0 h2
      cases h
      have ho1 := List.forall_mem_cons.mp hos
      exact lv_pop hx hb hd (by rw [zcatv, if_neg]; simp only []; omega) (k ho1.2)
    · cases h
  · rename_i k0 b0 a0 st0
    have ho1 := List.forall_mem_cons.mp hos
    have ho2 := List.forall_mem_cons.mp ho1.2
    have g1 : zi32 b0 := ho1.1
    have g2 : zi32 a0 := ho2.1
    have hc9 := zsumcat ad st0
    split at h
    · rename_i hlen
      split at h
      · rename_i h2
        cases h
        obtain ⟨q1, q2, q3, q4⟩ := (hm k0).1 h2
        refine va_mmax hx hb hml hown q1 q2 q3 q4 hf (by omega) hcl hsl hd ?_
        have k := k (List.forall_mem_cons.mpr ⟨by show zi32 _; split <;> assumption, ho2.2⟩)
        rw [List.map_cons, show ∀ z, zval ad (0, z) = .int (Int32.ofInt z) from fun _ => rfl] at k
        by_cases c1 : a0 < b0
        · rw [if_pos ((zltI g2 g1).mpr c1)]; rw [if_pos c1] at k; exact k
        · rw [if_neg (fun q => c1 ((zltI g2 g1).mp q))]; rw [if_neg c1] at k; exact k
      · split at h
        · rename_i h2
          cases h
          obtain ⟨q1, q2, q3, q4⟩ := (hm k0).2.1 h2
          refine va_mmin hx hb hml hown q1 q2 q3 q4 hf (by omega) hcl hsl hd ?_
          have k := k (List.forall_mem_cons.mpr ⟨by show zi32 _; split <;> assumption, ho2.2⟩)
          rw [List.map_cons, show ∀ z, zval ad (0, z) = .int (Int32.ofInt z) from fun _ => rfl] at k
          by_cases c1 : a0 < b0
          · rw [if_pos c1] at k
            first
              | (rw [if_pos ((zltI g2 g1).mpr c1)]; exact k)
              | (rw [if_neg (fun q => absurd ((zltI g1 g2).mp q) (by omega))]; exact k)
              | (rw [if_pos ((zleI g2 g1).mpr (by omega))]; exact k)
          · rw [if_neg c1] at k
            first
              | (rw [if_neg (fun q => c1 ((zltI g2 g1).mp q))]; exact k)
              | (by_cases c2 : b0 < a0
                 · rw [if_pos ((zltI g1 g2).mpr c2)]; exact k
                 · rw [if_neg (fun q => c2 ((zltI g1 g2).mp q))]
                   have e9 : a0 = b0 := by omega
                   rw [e9]; exact k)
              | (by_cases c2 : a0 ≤ b0
                 · rw [if_pos ((zleI g2 g1).mpr c2)]
                   have e9 : a0 = b0 := by omega
                   rw [e9]; exact k
                 · rw [if_neg (fun q => c2 ((zleI g2 g1).mp q))]; exact k)
        · cases h
    · cases h
  · rename_i k0 o0 st0
    have hc9 := zsumcat ad st0
    split at h
    · rename_i h2
      have h := Option.some.inj h
      subst h
      obtain ⟨q1, q2, q3⟩ := (hm k0).2.2 h2.1
      have ho1 := List.forall_mem_cons.mp hos
      have e1 : zval ad (1, o0) = .ref (ad o0) := by
        show va_rf (zrf ad o0) = _
        unfold zrf
        rw [if_neg (by omega)]
        rfl
      rw [List.map_cons, e1]
      refine W.objInit hx hb hown q1 q2 q3 rfl (by rw [hml]) rfl hd hf ?_ ?_
      · show 2 * 0 + _ + 12 ≤ _
        omega
      · exact k ho1.2
    · cases h
  · cases h
end

section
variable {p : Program} {l : Launch} {e : Env} {R : Room} {s : State} {m : MethodId} {args : Array Value} {below : List Frame} {meth : Method} {c : Code} {H : Heap} {locs : List Loc} {cells slots : Nat} {Q : State → Prop}
variable {cc : ByteArray} {pc n : Nat} {lsC : Array Slot} {rest : List Value} {ad : Int → Nat} {ls st : List zV}
theorem zoff_spec {pc : Nat} {off : Int} {b : Bool} {st : List zV} {r : Nat × List zV} (h : zoff pc off b st = some r) : ∃ t : Nat, (pc : Int) + off = (t : Int) ∧ r = (bif b then t else pc + 3, st) := by
  unfold zoff at h
  split at h
  · cases h; exact ⟨((pc : Int) + off).toNat, by rw [Int.toNat_of_nonneg (by assumption)], rfl⟩
  · cases h
theorem zs_if (hx : p.tables.exec = Jvm.exec) (hb : c.code = cc) {c0 : ClassFile.Cond} {off : Int} {t : Nat} {a : Int} (ht : (pc : Int) + off = (t : Int)) (hd : decode cc pc = .ok (.ifCond c0 off, 3)) (g1 : zi32 a)
    (k : W p l e R s m args below meth c H locs cells slots Q (F0 m (bif zc0 c0 a then t else pc + 3) lsC rest)) : W p l e R s m args below meth c H locs cells slots Q (F0 m pc lsC (.int (Int32.ofInt a) :: rest)) := by
  have g0 : zi32 0 := ⟨by decide, by decide⟩
  have e0 : (0 : Int32) = Int32.ofInt 0 := rfl
  have kt : zc0 c0 a = true → W p l e R s m args below meth c H locs cells slots Q (F0 m t lsC rest) := fun h => by rw [h] at k; exact k
  have kf : zc0 c0 a = false → W p l e R s m args below meth c H locs cells slots Q (F0 m (pc + 3) lsC rest) := fun h => by rw [h] at k; exact k
  cases c0
  · refine lv_if_eq hx hb hd ht (fun q => kt ?_) (fun q => kf ?_) <;> rw [e0, zeqI g1 g0] at q <;> simp [zc0, q]
  · refine lv_if_ne hx hb hd ht (fun q => kt ?_) (fun q => kf ?_) <;> rw [e0] at q <;> simp only [ne_eq, zeqI g1 g0, Decidable.not_not] at q <;> simp [zc0, q]
  · refine lv_if_lt hx hb hd ht (fun q => kt ?_) (fun q => kf ?_) <;> rw [e0, zltI g1 g0] at q <;> simp [zc0] <;> omega
  · refine lv_if_ge hx hb hd ht (fun q => kt ?_) (fun q => kf ?_) <;> rw [e0, zleI g0 g1] at q <;> simp [zc0] <;> omega
  · refine lv_if_gt hx hb hd ht (fun q => kt ?_) (fun q => kf ?_) <;> rw [e0, zltI g0 g1] at q <;> simp [zc0] <;> omega
  · refine lv_if_le hx hb hd ht (fun q => kt ?_) (fun q => kf ?_) <;> rw [e0, zleI g1 g0] at q <;> simp [zc0] <;> omega
theorem zs_icmp (hx : p.tables.exec = Jvm.exec) (hb : c.code = cc) {c0 : ClassFile.Cond} {off : Int} {t : Nat} {a b : Int} (ht : (pc : Int) + off = (t : Int)) (hd : decode cc pc = .ok (.if_icmp c0 off, 3)) (g1 : zi32 a) (g0 : zi32 b)
    (k : W p l e R s m args below meth c H locs cells slots Q (F0 m (bif zc2 c0 a b then t else pc + 3) lsC rest)) : W p l e R s m args below meth c H locs cells slots Q (F0 m pc lsC (.int (Int32.ofInt b) :: .int (Int32.ofInt a) :: rest)) := by
  have kt : zc2 c0 a b = true → W p l e R s m args below meth c H locs cells slots Q (F0 m t lsC rest) := fun h => by rw [h] at k; exact k
  have kf : zc2 c0 a b = false → W p l e R s m args below meth c H locs cells slots Q (F0 m (pc + 3) lsC rest) := fun h => by rw [h] at k; exact k
  cases c0
  · refine lv_icmp_eq hx hb hd ht (fun q => kt ?_) (fun q => kf ?_) <;> rw [zeqI g1 g0] at q <;> simp [zc2, q]
  · refine lv_icmp_ne hx hb hd ht (fun q => kt ?_) (fun q => kf ?_) <;> simp only [ne_eq, zeqI g1 g0, Decidable.not_not] at q <;> simp [zc2, q]
  · refine lv_icmp_lt hx hb hd ht (fun q => kt ?_) (fun q => kf ?_) <;> rw [zltI g1 g0] at q <;> simp [zc2] <;> omega
  · refine lv_icmp_ge hx hb hd ht (fun q => kt ?_) (fun q => kf ?_) <;> rw [zleI g0 g1] at q <;> simp [zc2] <;> omega
  · refine lv_icmp_gt hx hb hd ht (fun q => kt ?_) (fun q => kf ?_) <;> rw [zltI g0 g1] at q <;> simp [zc2] <;> omega
  · refine lv_icmp_le hx hb hd ht (fun q => kt ?_) (fun q => kf ?_) <;> rw [zleI g1 g0] at q <;> simp [zc2] <;> omega
theorem zs_jump (hx : p.tables.exec = Jvm.exec) (hb : c.code = cc) {i : Instr} {len : Nat} {r : Nat × List zV} (h : zjump i len pc st = some r) (hd : decode cc pc = .ok (i, len)) (hos : zoks n st)
    (k : zoks n r.2 → W p l e R s m args below meth c H locs cells slots Q (F0 m r.1 lsC (r.2.map (zval ad)))) : W p l e R s m args below meth c H locs cells slots Q (F0 m pc lsC (st.map (zval ad))) := by
  unfold zjump at h
  split at h
  · obtain ⟨t, h1, rfl⟩ := zoff_spec h
    exact lv_goto hx hb hd h1 (k hos)
  · obtain ⟨t, h1, rfl⟩ := zoff_spec h
    have ho1 := List.forall_mem_cons.mp hos
    exact zs_if hx hb h1 hd ho1.1 (k ho1.2)
  · obtain ⟨t, h1, rfl⟩ := zoff_spec h
    have ho1 := List.forall_mem_cons.mp hos
    have ho2 := List.forall_mem_cons.mp ho1.2
    exact zs_icmp hx hb h1 hd ho2.1 ho1.1 (k ho2.2)
  · rename_i off0 a0 st0
    obtain ⟨t, h1, rfl⟩ := zoff_spec h
    have ho1 := List.forall_mem_cons.mp hos
    have k := k ho1.2
    show W p l e R s m args below meth c H locs cells slots Q (F0 m pc lsC (va_rf (zrf ad a0) :: st0.map (zval ad)))
    by_cases c1 : a0 = -1
    · rw [show zrf ad a0 = none from if_pos c1]
      simp only [c1, decide_true, cond_true] at k
      exact lv_ifnullN hx hb hd h1 k
    · rw [show zrf ad a0 = some (ad a0) from if_neg c1]
      simp only [c1, decide_false, cond_false] at k
      exact lv_ifnull hx hb hd k
  · rename_i d0 lo0 hi0 offs0 len0 a0 st0
    have ho1 := List.forall_mem_cons.mp hos
    have g1 : zi32 a0 := ho1.1
    split at h
    · rename_i h2
      split at h
      · rename_i h3
        cases h
        exact lv_tableOut hx hb hd (by rw [zI32 g1]; exact h2) (by rw [Int.toNat_of_nonneg h3]) (k ho1.2)
      · cases h
    · rename_i h2
      split at h
      · rename_i off h4
        split at h
        · rename_i h3
          cases h
          exact lv_tableIn hx hb hd (by rw [zI32 g1]; omega) (by rw [zI32 g1]; omega) (by rw [zI32 g1]; exact h4) (by rw [Int.toNat_of_nonneg h3]) (k ho1.2)
        · cases h
      · cases h
  · cases h
end
end
section
/-! the cells of the small machine on the heap -/
def zcl : List vw_C := [(RX0, TX0, 2), (RX1, TX1, 2), (RX2, TX2, 3), (RX3, TX3, 5), (RX4, TX4, 4), (RX5, TX5, 3), (RX6, TX6, 5), (RX7, TX7, 9), (RX8, TX8, 26)]
def zWS : List Cond := lw_tbl.filter goodWord
def zownL : List String := [RX0, RX1, RX2, RX3, RX4, RX5, RX6, RX7, RX8, RL]
def zown (c : Nat) : String := match zownL[c]? with | some s => s | none => ""
def zfs (ad : Int → Nat) (c n : Nat) (f : Nat → Int) : List Value := (List.range n).map (fun j => zval ad (zfty c j, f j))
def zent (ad : Int → Nat) (cA : Nat → ClassId) (e : zLE) (f : Nat → Int) : va_E :=
  if e.1 = 0 then .inr (e.2.1, zfs ad e.2.1 e.2.2 f)
  else if e.1 = 4 then .inl (cA 4, e.2.2, .inr (.inl (fun j => Int64.ofInt (f j))))
  else if e.1 = 5 then .inl (cA 5, e.2.2, .inr (.inr (.inr (.inl (fun j => UInt64.ofNat (f j).toNat)))))
  else if e.1 = 6 then .inl (cA 6, e.2.2, .inr (.inr (.inr (.inr (fun j => zrf ad (f j))))))
  else .inl (cA e.1, e.2.2, .inl (fun j => Int32.ofInt (f j)))
def zctag (e : zLE) (j : Nat) : Nat := if e.1 = 0 then zfty e.2.1 j else if e.1 = 4 then 2 else if e.1 = 5 then 4 else if e.1 = 6 then 1 else 0
def zws (ad : Int → Nat) (cA : Nat → ClassId) (S : zS) : va_W := (List.range S.1.length).map (fun (k : Nat) => (ad (k : Int), zent ad cA (S.1.getD k (0, 0, 0)) (S.2.1 k)))
def zrel (D : va_G) (cA : Nat → ClassId) (ad : Int → Nat) (A : Nat → Prop) (S : zS) (H : Heap) : Prop :=
  va_P D zcl (zws ad cA S) H ∧ va_D A (zws ad cA S) ∧ ∀ (k : Nat) (e : zLE), S.1[k]? = some e → ∀ j : Nat, zok S.1.length (zctag e j, S.2.1 k j)
def ztys (cA : Nat → ClassId) : List (ClassId × FieldType) := [(cA 1, .int), (cA 2, .char), (cA 3, .boolean), (cA 4, .long), (cA 5, .double), (cA 6, .object RX1)]
theorem zws_len (ad : Int → Nat) (cA : Nat → ClassId) (S : zS) : (zws ad cA S).length = S.1.length := by simp [zws]
theorem zws_at {ad : Int → Nat} {cA : Nat → ClassId} {S : zS} {k : Nat} {e : zLE} (h : S.1[k]? = some e) : (zws ad cA S)[k]? = some (ad (k : Int), zent ad cA e (S.2.1 k)) := by
  have hk := (List.getElem?_eq_some_iff.mp h).1
  unfold zws
  rw [List.getElem?_map, List.getElem?_range hk]
  simp [List.getD, h]
theorem zws_set {ad : Int → Nat} {cA : Nat → ClassId} {S : zS} {a j : Nat} {v : Int} {e : zLE} {e' : va_E} (h : S.1[a]? = some e) (he : e' = zent ad cA e (fun k => if k = j then v else S.2.1 a k)) : (zws ad cA S).set a (ad (a : Int), e') = zws ad cA (zset S a j v) := by
  have ha := (List.getElem?_eq_some_iff.mp h).1
  refine List.ext_getElem? (fun i => ?_)
  by_cases hi : a = i
  · subst hi
    rw [List.getElem?_set_self (by rw [zws_len]; exact ha), zws_at (S := zset S a j v) (e := e) h, he]
    congr 3
    funext k
    simp [zset, zup]
  · rw [List.getElem?_set_ne hi]
    by_cases hl : i < S.1.length
    · have h2 : S.1[i]? = some S.1[i] := List.getElem?_eq_getElem hl
      rw [zws_at h2, zws_at (S := zset S a j v) (e := S.1[i]) h2]
      congr 3
      funext k
      simp [zset, zup, Ne.symm hi]
    · rw [List.getElem?_eq_none (by rw [zws_len]; omega), List.getElem?_eq_none (by rw [zws_len]; show S.1.length ≤ i; omega)]
theorem zok_set {S : zS} {a j : Nat} {v : Int} {e : zLE} (h : ∀ (k : Nat) (e : zLE), S.1[k]? = some e → ∀ j : Nat, zok S.1.length (zctag e j, S.2.1 k j)) (ha : S.1[a]? = some e) (hv : zok S.1.length (zctag e j, v)) : ∀ (k : Nat) (e : zLE), (zset S a j v).1[k]? = some e → ∀ j' : Nat, zok (zset S a j v).1.length (zctag e j', (zset S a j v).2.1 k j') := by
  intro k e1 hk j'
  have hk : S.1[k]? = some e1 := hk
  show zok S.1.length (zctag e1 j', zup S.2.1 a j v k j')
  unfold zup
  split
  · rename_i h2
    obtain ⟨rfl, rfl⟩ := h2
    cases Option.some.inj (hk.symm.trans ha)
    exact hv
  · exact h k e1 hk j'
theorem zent_ag {n : Nat} {ad ad' : Int → Nat} {cA : Nat → ClassId} {e : zLE} {f : Nat → Int} (ha : zag n ad ad') (hok : ∀ j, zok n (zctag e j, f j)) : zent ad' cA e f = zent ad cA e f := by
  unfold zent
  split
  · rename_i h0
    congr 2
    unfold zfs
    refine List.map_congr_left (fun j _ => ?_)
    have := hok j
    simp only [zctag, h0, if_true] at this
    exact zval_ag this ha
  · split
    · rfl
    · split
      · rfl
      · split
        · rename_i h0 h4 h5 h6
          congr 7
          funext j
          have hj := hok j
          have e1 : zctag e j = 1 := by unfold zctag; rw [if_neg h0, if_neg h4, if_neg h5, if_pos h6]
          rw [e1] at hj
          have this : f j = -1 ∨ f j = -2 ∨ f j = -3 ∨ (0 ≤ f j ∧ f j < n) := hj
          unfold zrf
          split
          · rfl
          · rw [ha _ (by omega)]
        · rfl
theorem zws_ag {ad ad' : Int → Nat} {cA : Nat → ClassId} {S : zS} (ha : zag S.1.length ad ad') (hok : ∀ (k : Nat) (e : zLE), S.1[k]? = some e → ∀ j : Nat, zok S.1.length (zctag e j, S.2.1 k j)) : zws ad' cA S = zws ad cA S := by
  refine List.ext_getElem? (fun i => ?_)
  by_cases hl : i < S.1.length
  · have h2 : S.1[i]? = some S.1[i] := List.getElem?_eq_getElem hl
    rw [zws_at h2, zws_at h2, ha _ (by omega), zent_ag ha (hok i _ h2)]
  · rw [List.getElem?_eq_none (by rw [zws_len]; omega), List.getElem?_eq_none (by rw [zws_len]; omega)]
/-- a new cell at q -/
def zadd (ad : Int → Nat) (n q : Nat) : Int → Nat := fun z => if z = (n : Int) then q else ad z
theorem zag_add (ad : Int → Nat) (n q : Nat) : zag n ad (zadd ad n q) := fun z hz => by unfold zadd; rw [if_neg (by omega)]
theorem zws_new {ad : Int → Nat} {cA : Nat → ClassId} {S : zS} {e : zLE} {f : Nat → Int} {q : Nat} {e' : va_E} (hok : ∀ (k : Nat) (e : zLE), S.1[k]? = some e → ∀ j : Nat, zok S.1.length (zctag e j, S.2.1 k j)) (he : e' = zent (zadd ad S.1.length q) cA e f) : zws ad cA S ++ [(q, e')] = zws (zadd ad S.1.length q) cA (znew S e f) := by
  have hag := zag_add ad S.1.length q
  refine List.ext_getElem? (fun i => ?_)
  by_cases hl : i < S.1.length
  · have h2 : S.1[i]? = some S.1[i] := List.getElem?_eq_getElem hl
    have h3 : (znew S e f).1[i]? = some S.1[i] := by show (S.1 ++ [e])[i]? = _; rw [List.getElem?_append_left hl]; exact h2
    rw [List.getElem?_append_left (by rw [zws_len]; exact hl), zws_at h2, zws_at h3, hag _ (by omega)]
    congr 2
    have e1 : (znew S e f).2.1 i = S.2.1 i := by
      funext k
      show (if i = S.1.length then f k else S.2.1 i k) = _
      rw [if_neg (by omega)]
    rw [e1, zent_ag hag (hok i _ h2)]
  · by_cases hi : i = S.1.length
    · subst hi
      have h3 : (znew S e f).1[S.1.length]? = some e := by show (S.1 ++ [e])[S.1.length]? = _; simp
      rw [List.getElem?_append_right (by rw [zws_len]; omega), zws_len, Nat.sub_self, zws_at h3, he]
      show some _ = some _
      congr 2
      · unfold zadd; rw [if_pos rfl]
      · congr 1
        funext k
        show f k = if S.1.length = S.1.length then f k else _
        rw [if_pos rfl]
    · rw [List.getElem?_eq_none (by simp [zws_len]; omega), List.getElem?_eq_none (by rw [zws_len]; show (S.1 ++ [e]).length ≤ i; simp; omega)]
theorem zok_new {S : zS} {e : zLE} {f : Nat → Int} (h : ∀ (k : Nat) (e : zLE), S.1[k]? = some e → ∀ j : Nat, zok S.1.length (zctag e j, S.2.1 k j)) (hf : ∀ j, zok S.1.length (zctag e j, f j)) : ∀ (k : Nat) (e1 : zLE), (znew S e f).1[k]? = some e1 → ∀ j : Nat, zok (znew S e f).1.length (zctag e1 j, (znew S e f).2.1 k j) := by
  intro k e1 hk j
  have hk : (S.1 ++ [e])[k]? = some e1 := hk
  have hn : S.1.length ≤ (znew S e f).1.length := by show _ ≤ (S.1 ++ [e]).length; simp
  refine zok_mono ?_ hn
  show zok S.1.length (zctag e1 j, if k = S.1.length then f j else S.2.1 k j)
  by_cases hl : k < S.1.length
  · rw [List.getElem?_append_left hl] at hk
    rw [if_neg (by omega)]
    exact h k e1 hk j
  · have hk2 : k < (S.1 ++ [e]).length := (List.getElem?_eq_some_iff.mp hk).1
    have hk3 : k = S.1.length := by simp at hk2; omega
    subst hk3
    simp at hk
    subst hk
    rw [if_pos rfl]
    exact hf j
theorem zlo_ag {n nl : Nat} {ad ad' : Int → Nat} {ls : List zV} {lsC : Array Slot} (h : lv_has lsC nl (zlo ad ls)) (ha : zag n ad ad') (hok : zoks n ls) : lv_has lsC nl (zlo ad' ls) := by
  refine zlo_sub h (fun q hq => ?_)
  obtain ⟨v, h1, h2, h3⟩ := zlo_mem.mp hq
  exact zlo_mem.mpr ⟨v, h1, h2, by rw [h3]; exact zval_ag (hok v (List.mem_of_getElem? h1)) ha⟩
theorem zmap_ag {n : Nat} {ad ad' : Int → Nat} {st : List zV} (ha : zag n ad ad') (hok : zoks n st) : st.map (zval ad') = st.map (zval ad) := List.map_congr_left (fun v hv => zval_ag (hok v hv) ha)
theorem zoks_mono {n m : Nat} {l : List zV} (h : zoks n l) (hnm : n ≤ m) : zoks m l := fun v hv => zok_mono (h v hv) hnm
theorem zarr_spec {S : zS} {k : Nat} {a j : Int} {q : Nat × Nat} (h : zarr S k a j = some q) : ∃ e : zLE, a = (q.1 : Int) ∧ j = (q.2 : Int) ∧ S.1[q.1]? = some e ∧ e.1 = k ∧ q.2 < e.2.2 := by
  unfold zarr at h
  split at h
  · rename_i h0
    split at h
    · rename_i e he
      split at h
      · rename_i h1; cases h
        exact ⟨e, (Int.toNat_of_nonneg h0.1).symm, (Int.toNat_of_nonneg h0.2).symm, he, h1.1, by have := h1.2; omega⟩
      · cases h
    · cases h
  · cases h
theorem zobj_spec {S : zS} {o : Int} {c k n : Nat} (h : zobj S o c k = some n) : ∃ e : zLE, o = (n : Int) ∧ S.1[n]? = some e ∧ e.1 = 0 ∧ e.2.1 = c ∧ k < e.2.2 := by
  unfold zobj at h
  split at h
  · rename_i h0
    split at h
    · rename_i e he
      split at h
      · rename_i h1; cases h
        exact ⟨e, (Int.toNat_of_nonneg h0).symm, he, h1.1, h1.2.1, h1.2.2⟩
      · cases h
    · cases h
  · cases h
/-- a field's type: its kind, whether it is a boolean -/
def zfit (t : Nat) (b : Bool) (ty : FieldType) : Prop := (t = 0 ∧ b = false ∧ ty = .int) ∨ (t = 0 ∧ b = true ∧ ty = .boolean) ∨ (t = 2 ∧ b = false ∧ ty = .long) ∨ (t = 1 ∧ b = false ∧ ((∃ C, ty = .object C) ∨ ∃ T, ty = .array T))
theorem zfit_nar {t : Nat} {b : Bool} {ty : FieldType} {ad : Int → Nat} {v : Int} (h : zfit t b ty) (hb : b = true → v = 0 ∨ v = 1) : narrow ty (zval ad (t, v)) = zval ad (t, v) ∧ fits ty (zval ad (t, v)) = true := by
  rcases h with ⟨rfl, rfl, rfl⟩ | ⟨rfl, rfl, rfl⟩ | ⟨rfl, rfl, rfl⟩ | ⟨rfl, rfl, h⟩
  · exact ⟨rfl, rfl⟩
  · rcases hb rfl with rfl | rfl
    · show narrow .boolean (.int (Int32.ofInt 0)) = .int (Int32.ofInt 0) ∧ fits .boolean (.int (Int32.ofInt 0)) = true
      exact ⟨by decide +kernel, by decide +kernel⟩
    · show narrow .boolean (.int (Int32.ofInt 1)) = .int (Int32.ofInt 1) ∧ fits .boolean (.int (Int32.ofInt 1)) = true
      exact ⟨by decide +kernel, by decide +kernel⟩
  · exact ⟨rfl, rfl⟩
  · show narrow ty (va_rf (zrf ad v)) = va_rf (zrf ad v) ∧ fits ty (va_rf (zrf ad v)) = true
    cases zrf ad v <;> rcases h with ⟨C, rfl⟩ | ⟨T, rfl⟩ <;> exact ⟨rfl, rfl⟩
theorem zfit_def {t : Nat} {b : Bool} {ty : FieldType} {ad : Int → Nat} (h : zfit t b ty) : defaultValue ty = zval ad (t, zdef t) := by
  rcases h with ⟨rfl, rfl, rfl⟩ | ⟨rfl, rfl, rfl⟩ | ⟨rfl, rfl, rfl⟩ | ⟨rfl, rfl, h⟩
  · rfl
  · rfl
  · rfl
  · rcases h with ⟨C, rfl⟩ | ⟨T, rfl⟩ <;> rfl
/-- what the claim's words say of class ci -/
def zclP (ci : Nat) (C : String) (T : u_T) (N : Nat) (ty : Nat → FieldType) : Prop :=
  zcl[ci]? = some (C, T, N) ∧ (∀ w ∈ u_ws C T N, w ∈ zWS) ∧ (∀ k, k < N → parseFieldDescriptor (T k).2.2.1 = some (ty k)) ∧ (∀ a, a < N → ∀ b, b < N → a ≠ b → (T a).2.1 ≠ (T b).2.1) ∧ (∀ k, k < N → (T k).1 = C ∧ ∃ b, zfit (zfty ci k) b (ty k)) ∧ (∀ k, N ≤ k → zfty ci k = 0)
def zfldP (c k : Nat) (f : Nat × Nat × Nat × Bool × Bool) : Prop := ∃ (C : String) (T : u_T) (N : Nat) (ty : Nat → FieldType), zclP f.1 C T N ty ∧ f.2.1 < N ∧ Cond.fieldLink (zown c) k C (T f.2.1).2.1 (T f.2.1).2.2.1 ∈ zWS ∧ f.2.2.1 = zfty f.1 f.2.1 ∧ zfit f.2.2.1 f.2.2.2.1 (ty f.2.1) ∧ f.2.2.2.2 = (T f.2.1).2.2.2 ∧ (f.2.2.2.2 = true → C = zown c)
def zclsP (c k : Nat) (q : Nat × Nat) : Prop := ∃ (C : String) (T : u_T) (N : Nat) (ty : Nat → FieldType), zclP q.1 C T N ty ∧ q.2 = N ∧ N ≤ 100 ∧ Cond.classLink (zown c) k C ∈ zWS ∧ Cond.instantiable C N ∈ zWS ∧ Cond.initialized C ∈ zWS
end
section
/-! the steps on cells -/
/-- an array of ints that is only read -/
def zX (b L : Nat) (xs : Nat → Int32) (U : State) (H : Heap) : Prop := ∃ scr : Cell, H[b]? = some scr ∧ U.isArrayOf scr .int ∧ scr.vm ≠ .unknown ∧ L ≤ scr.slots.size ∧ scr.slots.size.toInt32 = Int32.ofNat L ∧ ∀ j : Nat, j < L → scr.slots[j]? = some (.int (xs j))
def zro (ro : zRo) (ad : Int → Nat) (A : Nat → Prop) (U : State) (H : Heap) : Prop := ∀ (z : Int) (r : Nat × (Nat → Int)), ro z = some r → (z = -2 ∨ z = -3) ∧ zX (ad z) r.1 (fun j => Int32.ofInt (r.2 j)) U H ∧ ad z < H.size ∧ ¬ A (ad z) ∧ (∀ j, zi32 (r.2 j)) ∧ r.1 < 2147483648
section
variable {p : Program} {l : Launch} {e : Env} {R : Room} {s : State} {m : MethodId} {args : Array Value} {below : List Frame} {meth : Method} {c : Code} {H : Heap} {locs : List Loc} {cells slots : Nat} {Q : State → Prop}
variable {cc : ByteArray} {pc : Nat} {lsC : Array Slot} {ad : Int → Nat} {ls st : List zV} {D : va_G} {cA : Nat → ClassId} {A : Nat → Prop} {S : zS} {ro : zRo} {ck : Nat} {ctor : Bool}
theorem zval1 (ad : Int → Nat) (n : Nat) : zval ad (1, (n : Int)) = .ref (ad (n : Int)) := by
  show va_rf (zrf ad n) = _
  unfold zrf
  rw [if_neg (by omega)]
  rfl
theorem zent0 {ad : Int → Nat} {cA : Nat → ClassId} {e : zLE} {f : Nat → Int} (h : e.1 = 0) : zent ad cA e f = .inr (e.2.1, zfs ad e.2.1 e.2.2 f) := by unfold zent; rw [if_pos h]
theorem zent4 {ad : Int → Nat} {cA : Nat → ClassId} {e : zLE} {f : Nat → Int} (h : e.1 = 4) : zent ad cA e f = .inl (cA 4, e.2.2, .inr (.inl (fun j => Int64.ofInt (f j)))) := by unfold zent; rw [if_neg (by omega), if_pos h]
theorem zent5 {ad : Int → Nat} {cA : Nat → ClassId} {e : zLE} {f : Nat → Int} (h : e.1 = 5) : zent ad cA e f = .inl (cA 5, e.2.2, .inr (.inr (.inr (.inl (fun j => UInt64.ofNat (f j).toNat))))) := by unfold zent; rw [if_neg (by omega), if_neg (by omega), if_pos h]
theorem zent6 {ad : Int → Nat} {cA : Nat → ClassId} {e : zLE} {f : Nat → Int} (h : e.1 = 6) : zent ad cA e f = .inl (cA 6, e.2.2, .inr (.inr (.inr (.inr (fun j => zrf ad (f j)))))) := by unfold zent; rw [if_neg (by omega), if_neg (by omega), if_neg (by omega), if_pos h]
theorem zenti {ad : Int → Nat} {cA : Nat → ClassId} {e : zLE} {f : Nat → Int} {k : Nat} (h : e.1 = k) (hk : k = 1 ∨ k = 2 ∨ k = 3) : zent ad cA e f = .inl (cA k, e.2.2, .inl (fun j => Int32.ofInt (f j))) := by unfold zent; rw [if_neg (by omega), if_neg (by omega), if_neg (by omega), if_neg (by omega), h]
theorem zfs_at {ad : Int → Nat} {c n k : Nat} {f : Nat → Int} (h : k < n) : (zfs ad c n f)[k]? = some (zval ad (zfty c k, f k)) := by unfold zfs; rw [List.getElem?_map, List.getElem?_range h]; rfl
theorem zfs_len (ad : Int → Nat) (c n : Nat) (f : Nat → Int) : (zfs ad c n f).length = n := by simp [zfs]
theorem zfs_set {ad : Int → Nat} {c n k : Nat} {f : Nat → Int} {v : Int} : (zfs ad c n f).set k (zval ad (zfty c k, v)) = zfs ad c n (fun j => if j = k then v else f j) := by
  refine List.ext_getElem? (fun i => ?_)
  by_cases hl : i < n
  · by_cases hi : k = i
    · subst hi
      rw [List.getElem?_set_self (by rw [zfs_len]; exact hl), zfs_at hl, if_pos rfl]
    · rw [List.getElem?_set_ne hi, zfs_at hl, zfs_at hl, if_neg (Ne.symm hi)]
  · rw [List.getElem?_eq_none (by simp [zfs_len]; omega), List.getElem?_eq_none (by rw [zfs_len]; omega)]
theorem zh_get (hx : p.tables.exec = Jvm.exec) (hb : c.code = cc) (hown : s.vm.findClass (zown ck) = some m.cls) (hts : ∀ w ∈ zWS, w.before args s = true) (hK : va_K D zcl (ztys cA) s) (hrel : zrel D cA ad A S H) {k n : Nat} {f : Nat × Nat × Nat × Bool × Bool} (hf : zfldP ck k f) {o : Int} (ho : zobj S o f.1 f.2.1 = some n) (hd : decode cc pc = .ok (.getfield k, 3)) {rest : List Value}
    (kk : zok S.1.length (f.2.2.1, S.2.1 n f.2.1) → W p l e R s m args below meth c H locs cells slots Q (F0 m (pc + 3) lsC (zval ad (f.2.2.1, S.2.1 n f.2.1) :: rest))) : W p l e R s m args below meth c H locs cells slots Q (F0 m pc lsC (zval ad (1, o) :: rest)) := by
  obtain ⟨e0, rfl, h1, h2, h3, h4⟩ := zobj_spec ho
  obtain ⟨C, T, N, ty, ⟨c1, c2, c3, c4, c5, c6⟩, f1, f2, f3, f4, f5, f6⟩ := hf
  have hw := zws_at (ad := ad) (cA := cA) h1
  rw [zent0 h2] at hw
  have hat := zfs_at (ad := ad) (c := e0.2.1) (f := S.2.1 n) h4
  rw [h3, ← f3] at hat
  have hok := hrel.2.2 n e0 h1 f.2.1
  simp only [zctag, h2, if_true, h3, ← f3] at hok
  rw [zval1]
  exact va_get hx hb hts c2 hown hK hrel.1 n hw (by rw [h3]; exact c1) f.2.1 f1 (hts _ f2) (fun x hx9 => by rw [(c5 _ f1).1] at hx9; exact hx9) (by rw [h3]; exact hat) hd (kk hok)
theorem zh_put (hx : p.tables.exec = Jvm.exec) (hb : c.code = cc) (hown : s.vm.findClass (zown ck) = some m.cls) (hts : ∀ w ∈ zWS, w.before args s = true) (hK : va_K D zcl (ztys cA) s) (hrel : zrel D cA ad A S H) {H0 : Heap} (hS : va_S A H0 H locs) {k n : Nat} {f : Nat × Nat × Nat × Bool × Bool} (hf : zfldP ck k f) {o v : Int} (ho : zobj S o f.1 f.2.1 = some n) (hbo : f.2.2.2.1 = true → v = 0 ∨ v = 1) (hfin : f.2.2.2.2 = true → meth.name = "<init>") (hd : decode cc pc = .ok (.putfield k, 3)) {rest : List Value} (hv : zok S.1.length (f.2.2.1, v))
    (kk : ∀ H1 locs1, zrel D cA ad A (zset S n f.2.1 v) H1 → va_S A H0 H1 locs1 → W p l e R s m args below meth c H1 locs1 cells slots Q (F0 m (pc + 3) lsC rest)) : W p l e R s m args below meth c H locs cells slots Q (F0 m pc lsC (zval ad (f.2.2.1, v) :: zval ad (1, o) :: rest)) := by
  obtain ⟨e0, rfl, h1, h2, h3, h4⟩ := zobj_spec ho
  obtain ⟨C, T, N, ty, ⟨c1, c2, c3, c4, c5, c6⟩, f1, f2, f3, f4, f5, f6⟩ := hf
  have hw := zws_at (ad := ad) (cA := cA) h1
  rw [zent0 h2] at hw
  obtain ⟨g1, g2⟩ := zfit_nar (ad := ad) f4 hbo
  have kk2 : ∀ (H1 : Heap) (locs1 : List Loc), va_P D zcl ((zws ad cA S).set n (ad (n : Int), .inr (e0.2.1, (zfs ad e0.2.1 e0.2.2 (S.2.1 n)).set f.2.1 (zval ad (f.2.2.1, v))))) H1 → va_D A ((zws ad cA S).set n (ad (n : Int), .inr (e0.2.1, (zfs ad e0.2.1 e0.2.2 (S.2.1 n)).set f.2.1 (zval ad (f.2.2.1, v))))) → va_S A H0 H1 locs1 → W p l e R s m args below meth c H1 locs1 cells slots Q (F0 m (pc + 3) lsC rest) := by
    intro H1 locs1 q1 q2 q3
    have e1 : (zws ad cA S).set n (ad (n : Int), .inr (e0.2.1, (zfs ad e0.2.1 e0.2.2 (S.2.1 n)).set f.2.1 (zval ad (f.2.2.1, v)))) = zws ad cA (zset S n f.2.1 v) := by
      refine zws_set h1 ?_
      rw [zent0 h2, f3, ← h3, zfs_set]
    rw [e1] at q1 q2
    refine kk H1 locs1 ⟨q1, q2, zok_set hrel.2.2 h1 ?_⟩ q3
    simp only [zctag, h2, if_true, h3, ← f3]
    exact hv
  rw [zval1]
  by_cases hfi : f.2.2.2.2 = true
  · exact va_putF hx hb hts c2 ty c3 c4 hown hK hrel.1 hrel.2.1 hS n hw (by rw [h3]; exact c1) f.2.1 f1 (hts _ f2) (fun x hx9 => by rw [(c5 _ f1).1] at hx9; exact hx9) (by rw [← f5]; exact hfi) (hfin hfi) (by rw [(c5 _ f1).1]; exact f6 hfi) (c3 _ f1) g1 g2 (by rw [zfs_len]; exact h4) hd kk2
  · exact va_put hx hb hts c2 ty c3 c4 hown hK hrel.1 hrel.2.1 hS n hw (by rw [h3]; exact c1) f.2.1 f1 (hts _ f2) (fun x hx9 => by rw [(c5 _ f1).1] at hx9; exact hx9) (by rw [← f5]; simpa using hfi) (c3 _ f1) g1 g2 (by rw [zfs_len]; exact h4) hd kk2
end
section
variable {p : Program} {l : Launch} {e : Env} {R : Room} {s : State} {m : MethodId} {args : Array Value} {below : List Frame} {meth : Method} {c : Code} {H : Heap} {locs : List Loc} {cells slots : Nat} {Q : State → Prop}
variable {cc : ByteArray} {pc : Nat} {lsC : Array Slot} {ad : Int → Nat} {ls st : List zV} {D : va_G} {cA : Nat → ClassId} {A : Nat → Prop} {S : zS} {ro : zRo} {ck : Nat} {ctor : Bool}
theorem ztys_at (cA : Nat → ClassId) : (ztys cA)[0]? = some (cA 1, .int) ∧ (ztys cA)[1]? = some (cA 2, .char) ∧ (ztys cA)[2]? = some (cA 3, .boolean) ∧ (ztys cA)[3]? = some (cA 4, .long) ∧ (ztys cA)[4]? = some (cA 5, .double) ∧ (ztys cA)[5]? = some (cA 6, .object RX1) := ⟨rfl, rfl, rfl, rfl, rfl, rfl⟩
/-- every array is short -/
def zshort (S : zS) : Prop := ∀ (k : Nat) (e : zLE), S.1[k]? = some e → e.2.2 < 2147483648
theorem zh_aload (hx : p.tables.exec = Jvm.exec) (hb : c.code = cc) (hK : va_K D zcl (ztys cA) s) (hrel : zrel D cA ad A S H) (hsh : zshort S) {i : Instr} {k : Nat} {j a : Int} {q : Nat × Nat} {rest : List Value} (hq : zarr S k a j = some q)
    (hi : (k = 1 ∧ i = .iaload) ∨ (k = 2 ∧ i = .caload) ∨ (k = 3 ∧ i = .baload) ∨ (k = 4 ∧ i = .laload) ∨ (k = 5 ∧ i = .daload) ∨ (k = 6 ∧ i = .aaload)) (hd : decode cc pc = .ok (i, 1))
    (kk : ∀ t, t = (if k = 4 then 2 else if k = 5 then 4 else if k = 6 then 1 else 0) → zok S.1.length (t, S.2.1 q.1 q.2) → W p l e R s m args below meth c H locs cells slots Q (F0 m (pc + 1) lsC (zval ad (t, S.2.1 q.1 q.2) :: rest))) : W p l e R s m args below meth c H locs cells slots Q (F0 m pc lsC (zval ad (0, j) :: zval ad (1, a) :: rest)) := by
  obtain ⟨e0, rfl, rfl, h1, h2, h3⟩ := zarr_spec hq
  have h9 := hsh _ _ h1
  have hw := zws_at (ad := ad) (cA := cA) h1
  have hok := hrel.2.2 _ e0 h1 q.2
  obtain ⟨t1, t2, t3, t4, t5, t6⟩ := ztys_at cA
  have hin : vp_in (Int32.ofInt (q.2 : Int)) e0.2.2 := zvpin (by omega) (by omega) (by omega)
  have hcl : (Int32.ofInt (q.2 : Int)).toNatClampNeg = q.2 := by rw [zclamp (by omega) (by omega)]; omega
  rw [zval1]
  show W p l e R s m args below meth c H locs cells slots Q (F0 m pc lsC (.int (Int32.ofInt (q.2 : Int)) :: .ref (ad (q.1 : Int)) :: rest))
  rcases hi with ⟨rfl, rfl⟩ | ⟨rfl, rfl⟩ | ⟨rfl, rfl⟩ | ⟨rfl, rfl⟩ | ⟨rfl, rfl⟩ | ⟨rfl, rfl⟩
  · rw [zenti h2 (Or.inl rfl)] at hw
    have kk := kk 0 rfl (by simpa [zctag, h2] using hok)
    exact va_iald hx hb hK hrel.1 q.1 0 hw t1 hin hd (by rw [hcl]; exact kk)
  · rw [zenti h2 (Or.inr (Or.inl rfl))] at hw
    have kk := kk 0 rfl (by simpa [zctag, h2] using hok)
    exact va_cald hx hb hK hrel.1 q.1 1 hw t2 hin hd (by rw [hcl]; exact kk)
  · rw [zenti h2 (Or.inr (Or.inr rfl))] at hw
    have kk := kk 0 rfl (by simpa [zctag, h2] using hok)
    exact va_zald hx hb hK hrel.1 q.1 2 hw t3 hin hd (by rw [hcl]; exact kk)
  · rw [zent4 h2] at hw
    have kk := kk 2 rfl (by simpa [zctag, h2] using hok)
    exact va_lald hx hb hK hrel.1 q.1 3 hw t4 hin hd (by rw [hcl]; exact kk)
  · rw [zent5 h2] at hw
    have kk := kk 4 rfl (by simpa [zctag, h2] using hok)
    exact va_dald hx hb hK hrel.1 q.1 4 hw t5 hin hd (by rw [hcl]; exact kk)
  · rw [zent6 h2] at hw
    have kk := kk 1 rfl (by simpa [zctag, h2] using hok)
    exact va_aldq hx hb hK hrel.1 q.1 5 hw t6 hin hd (by rw [hcl]; exact kk)
theorem zh_astore (hx : p.tables.exec = Jvm.exec) (hb : c.code = cc) (hK : va_K D zcl (ztys cA) s) (hrel : zrel D cA ad A S H) (hsh : zshort S) {H0 : Heap} (hS : va_S A H0 H locs) {i : Instr} {k : Nat} {j a v : Int} {q : Nat × Nat} {rest : List Value} {t : Nat} (hq : zarr S k a j = some q) (hv : zok S.1.length (t, v))
    (hi : (k = 1 ∧ i = .iastore ∧ t = 0) ∨ (k = 2 ∧ i = .castore ∧ t = 0 ∧ 0 ≤ v ∧ v < 65536) ∨ (k = 3 ∧ i = .bastore ∧ t = 0 ∧ (v = 0 ∨ v = 1)) ∨ (k = 4 ∧ i = .lastore ∧ t = 2) ∨ (k = 5 ∧ i = .dastore ∧ t = 4) ∨ (k = 6 ∧ i = .aastore ∧ t = 1 ∧ ∃ n, zobj S v 1 0 = some n)) (hd : decode cc pc = .ok (i, 1))
    (kk : ∀ H1 locs1, zrel D cA ad A (zset S q.1 q.2 v) H1 → va_S A H0 H1 locs1 → W p l e R s m args below meth c H1 locs1 cells slots Q (F0 m (pc + 1) lsC rest)) : W p l e R s m args below meth c H locs cells slots Q (F0 m pc lsC (zval ad (t, v) :: zval ad (0, j) :: zval ad (1, a) :: rest)) := by
  obtain ⟨e0, rfl, rfl, h1, h2, h3⟩ := zarr_spec hq
  have h9 := hsh _ _ h1
  have hw := zws_at (ad := ad) (cA := cA) h1
  obtain ⟨t1, t2, t3, t4, t5, t6⟩ := ztys_at cA
  have hin : vp_in (Int32.ofInt (q.2 : Int)) e0.2.2 := zvpin (by omega) (by omega) (by omega)
  have hcl : (Int32.ofInt (q.2 : Int)).toNatClampNeg = q.2 := by rw [zclamp (by omega) (by omega)]; omega
  rw [zval1]
  show W p l e R s m args below meth c H locs cells slots Q (F0 m pc lsC (zval ad (t, v) :: .int (Int32.ofInt (q.2 : Int)) :: .ref (ad (q.1 : Int)) :: rest))
  have fin : ∀ (e' : va_E), e' = zent ad cA e0 (fun k => if k = q.2 then v else S.2.1 q.1 k) → zctag e0 q.2 = t → ∀ (H1 : Heap) (locs1 : List Loc), va_P D zcl ((zws ad cA S).set q.1 (ad (q.1 : Int), e')) H1 → va_D A ((zws ad cA S).set q.1 (ad (q.1 : Int), e')) → va_S A H0 H1 locs1 → W p l e R s m args below meth c H1 locs1 cells slots Q (F0 m (pc + 1) lsC rest) := by
    intro e' he ht H1 locs1 q1 q2 q3
    rw [zws_set h1 he] at q1 q2
    exact kk H1 locs1 ⟨q1, q2, zok_set hrel.2.2 h1 (by rw [ht]; exact hv)⟩ q3
  rcases hi with ⟨rfl, rfl, rfl⟩ | ⟨rfl, rfl, rfl, hv0, hv1⟩ | ⟨rfl, rfl, rfl, hv0⟩ | ⟨rfl, rfl, rfl⟩ | ⟨rfl, rfl, rfl⟩ | ⟨rfl, rfl, rfl, n0, hn0⟩
  · have hw2 := hw
    rw [zenti h2 (Or.inl rfl)] at hw2
    refine va_iast hx hb hK hrel.1 hrel.2.1 hS q.1 0 hw2 t1 hin hd (fin _ ?_ (by simp [zctag, h2]))
    rw [zenti h2 (Or.inl rfl), hcl]
    congr 3
    refine congrArg _ (funext (fun k => ?_))
    unfold upd
    split <;> rfl
  · have hw2 := hw
    rw [zenti h2 (Or.inr (Or.inl rfl))] at hw2
    refine va_cast hx hb hK hrel.1 hrel.2.1 hS q.1 1 hw2 t2 hin hd (fin _ ?_ (by simp [zctag, h2]))
    rw [zenti h2 (Or.inr (Or.inl rfl)), hcl]
    congr 3
    refine congrArg _ (funext (fun k => ?_))
    unfold upd
    split
    · obtain ⟨n, rfl⟩ := Int.eq_ofNat_of_zero_le hv0
      have := (pk_charN (q := n) (by omega)).1
      unfold vp_nar
      have e1 : Int32.ofInt (n : Int) = nI n := by rw [Int32.ofInt_eq_ofNat]; rfl
      rw [e1, this]
    · rfl
  · have hw2 := hw
    rw [zenti h2 (Or.inr (Or.inr rfl))] at hw2
    refine va_zast hx hb hK hrel.1 hrel.2.1 hS q.1 2 hw2 t3 hin hd (fin _ ?_ (by simp [zctag, h2]))
    rw [zenti h2 (Or.inr (Or.inr rfl)), hcl]
    congr 3
    refine congrArg _ (funext (fun k => ?_))
    unfold upd
    split
    · rcases hv0 with rfl | rfl <;> decide +kernel
    · rfl
  · have hw2 := hw
    rw [zent4 h2] at hw2
    refine va_last hx hb hK hrel.1 hrel.2.1 hS q.1 3 hw2 t4 hin hd (fin _ ?_ (by simp [zctag, h2]))
    rw [zent4 h2, hcl]
    congr 4
    refine congrArg _ (funext (fun k => ?_))
    unfold vp_updL
    split <;> rfl
  · have hw2 := hw
    rw [zent5 h2] at hw2
    refine va_dast hx hb hK hrel.1 hrel.2.1 hS q.1 4 hw2 t5 hin hd (fin _ ?_ (by simp [zctag, h2]))
    rw [zent5 h2, hcl]
    congr 6
    refine congrArg _ (funext (fun k => ?_))
    unfold vf_upd
    split <;> rfl
  · have hw2 := hw
    rw [zent6 h2] at hw2
    obtain ⟨e1, rfl, g1, g2, g3, g4⟩ := zobj_spec hn0
    have hwv := zws_at (ad := ad) (cA := cA) g1
    rw [zent0 g2, g3] at hwv
    rw [zval1]
    refine va_astq hx hb hK hrel.1 hrel.2.1 hS q.1 5 n0 1 hw2 t6 hwv (show zcl[1]? = some (RX1, TX1, 2) from rfl) hin hd (fin _ ?_ (by simp [zctag, h2]))
    rw [zent6 h2, hcl]
    congr 6
    refine congrArg _ (funext (fun k => ?_))
    unfold va_up
    split
    · unfold zrf; rw [if_neg (by omega)]
    · rfl
end
section
variable {p : Program} {l : Launch} {e : Env} {R : Room} {s : State} {m : MethodId} {args : Array Value} {below : List Frame} {meth : Method} {c : Code} {H : Heap} {locs : List Loc} {cells slots : Nat} {Q : State → Prop}
variable {cc : ByteArray} {pc : Nat} {lsC : Array Slot} {ad : Int → Nat} {ls st : List zV} {D : va_G} {cA : Nat → ClassId} {A : Nat → Prop} {S : zS} {ro : zRo} {ck : Nat} {ctor : Bool}
/-- what the class's entries name, by the claim's words -/
def zpool (ck : Nat) (args : Array Value) (s : State) (A : Nat → Prop) (ad : Int → Nat) : Prop :=
  (∀ k f, zfld ck k = some f → zfldP ck k f) ∧ (∀ k q, zcls ck k = some q → zclsP ck k q) ∧
  (∀ k r, zstc ck k = some r → r = -2 ∧ ∃ host, (Cond.fieldLinkNest (zown ck) k RX7 "FIRST_WEIGHTS" "[I" host).before args s = true) ∧
  (∀ k, zref ck k = true → (Cond.classLink (zown ck) k RX1).before args s = true) ∧
  va_AO RX1 s ∧ va_Z RX7 "FIRST_WEIGHTS" "[I" (.ref (ad (-2))) A s s.heap ∧
  (Cond.arrayClass .int ∈ zWS ∧ Cond.arrayClass .char ∈ zWS ∧ Cond.arrayClass .boolean ∈ zWS ∧ Cond.arrayClass .long ∈ zWS ∧ Cond.arrayClass .double ∈ zWS)
theorem zrA {cA : Nat → ClassId} {k : Nat} {t0 : Nat} {ty : FieldType} {cN : ClassId} (hK : va_K D zcl (ztys cA) s) (hK2 : va_K D zcl (ztys cA ++ [(cN, ty)]) s) (ht : (ztys cA)[t0]? = some (cA k, ty)) (hty : ∀ C, ty ≠ .object C) : cN = cA k := by
  have h1 := (hK.2 t0 _ ht).2
  have h2 := (hK2.2 6 (cN, ty) (by rfl)).2
  have h3 : s.vm.findClass ("[" ++ ty.toString) = some (cA k) := by cases ty <;> first | exact h1 | exact absurd rfl (hty _)
  have h4 : s.vm.findClass ("[" ++ ty.toString) = some cN := by cases ty <;> first | exact h2 | exact absurd rfl (hty _)
  exact Option.some.inj (h4.symm.trans h3)
theorem zrAo {cA : Nat → ClassId} {cN : ClassId} (hK : va_K D zcl (ztys cA) s) (hK2 : va_K D zcl (ztys cA ++ [(cN, .object RX1)]) s) : cN = cA 6 := by
  obtain ⟨_, _, _, _, _, h1⟩ := (hK.2 5 _ (ztys_at cA).2.2.2.2.2).2
  obtain ⟨_, _, _, _, _, h2⟩ := (hK2.2 6 (cN, .object RX1) (by rfl)).2
  exact Option.some.inj (h2.symm.trans h1)
theorem zh_newa (hx : p.tables.exec = Jvm.exec) (hb : c.code = cc) (hts : ∀ w ∈ zWS, w.before args s = true) (hK : va_K D zcl (ztys cA) s) (hrel : zrel D cA ad A S H) {H0 : Heap} (hS : va_S A H0 H locs) (hA : ∀ q, H0.size ≤ q → A q) {t : ArrayType} {ty : FieldType} {k t0 : Nat} {n : Int} {rest : List Value}
    (hty : newarray.typeOf t = ty) (ho : ∀ C, ty ≠ .object C) (ht : (ztys cA)[t0]? = some (cA k, ty)) (hw : Cond.arrayClass ty ∈ zWS) (h0 : 0 ≤ n) (h1 : n < 1000) (hc8 : componentBytes ty ≤ 8)
    {a0 : vp_A} (ha : ∀ cA : ClassId, vp_cell cA a0 = arrV cA n.toNat (fun _ => defaultValue ty)) (he : ∀ ad, zent ad cA (k, 0, n.toNat) (fun _ => 0) = .inl (cA k, a0)) (hz : ∀ j, zok S.1.length (zctag (k, 0, n.toNat) j, 0))
    (hcells : cells + 1 ≤ R.cells) (hslots : slots + n.toNat ≤ R.slots) (hd : decode cc pc = .ok (.newarray t, 2))
    (kk : ∀ (q : Nat) H1, zrel D cA (zadd ad S.1.length q) A (znew S (k, 0, n.toNat) (fun _ => 0)) H1 → va_S A H0 H1 locs → W p l e R s m args below meth c H1 locs (cells + 1) (slots + n.toNat) Q (F0 m (pc + 2) lsC (.ref q :: rest))) : W p l e R s m args below meth c H locs cells slots Q (F0 m pc lsC (.int (Int32.ofInt n) :: rest)) := by
  have hn0 : ¬ Int32.ofInt n < 0 := by
    rw [show (0 : Int32) = Int32.ofInt 0 from rfl, zltI ⟨by omega, by omega⟩ ⟨by decide, by decide⟩]
    omega
  have hcl : (Int32.ofInt n).toNatClampNeg = n.toNat := zclamp h0 (by omega)
  have hby : n.toNat * componentBytes ty ≤ 536870912 := by
    have : n.toNat * componentBytes ty ≤ 1000 * 8 := Nat.mul_le_mul (by omega) hc8
    omega
  refine va_newa hx hb (by rw [hty]; exact hts _ hw) hty hK hrel.1 hrel.2.1 hS hA ha hn0 hcl hby hcells hslots hd (fun q cN H1 g1 g2 g3 g4 => ?_)
  have e1 := zrA hK g1 ht ho
  subst e1
  rw [zws_new hrel.2.2 (f := fun _ => 0) (e := (k, 0, n.toNat)) (he _).symm] at g2 g3
  exact kk q H1 ⟨g2, g3, zok_new hrel.2.2 hz⟩ g4
theorem zs_heap (hx : p.tables.exec = Jvm.exec) (hb : c.code = cc) (hown : s.vm.findClass (zown ck) = some m.cls) (hts : ∀ w ∈ zWS, w.before args s = true) (hK : va_K D zcl (ztys cA) s) (hpl : zpool ck args s A ad) (hrel : zrel D cA ad A S H) (hsh : zshort S) (hro : zro ro ad A s s.heap) (hS : va_S A s.heap H locs) (hA : ∀ q, s.heap.size ≤ q → A q) (hctor : ctor = true → meth.name = "<init>")
    {i : Instr} {len : Nat} {r : List zV × zS} (h : zheap (zfld ck) (zcls ck) zfty (zref ck) (zstc ck) ctor ro i len st S = some r) (hd : decode cc pc = .ok (i, len)) (hos : zoks S.1.length st) (hrc : cells + (r.2.2.2.1 - S.2.2.1) ≤ R.cells) (hrs : slots + (r.2.2.2.2 - S.2.2.2) ≤ R.slots)
    (kk : ∀ ad' H1 locs1, zag S.1.length ad ad' → zrel D cA ad' A r.2 H1 → zshort r.2 → S.1.length ≤ r.2.1.length → va_S A s.heap H1 locs1 → zoks r.2.1.length r.1 → S.2.2.1 ≤ r.2.2.2.1 → S.2.2.2 ≤ r.2.2.2.2 → W p l e R s m args below meth c H1 locs1 (cells + (r.2.2.2.1 - S.2.2.1)) (slots + (r.2.2.2.2 - S.2.2.2)) Q (F0 m (pc + len) lsC (r.1.map (zval ad')))) : W p l e R s m args below meth c H locs cells slots Q (F0 m pc lsC (st.map (zval ad))) := by
  obtain ⟨p1, p2, p3, p4, p5, p6, p7⟩ := hpl
  have hag : zag S.1.length ad ad := fun _ _ => rfl
  have same : ∀ (st1 : List zV), r = (st1, S) → zoks S.1.length st1 → W p l e R s m args below meth c H locs cells slots Q (F0 m (pc + len) lsC (st1.map (zval ad))) := by
    intro st1 hr ho
    subst hr
    have k := kk ad H locs hag hrel hsh (Nat.le_refl _) hS ho (Nat.le_refl _) (Nat.le_refl _)
    simp only [Nat.sub_self, Nat.add_zero] at k
    exact k
  have stor : ∀ (st1 : List zV) (a j : Nat) (v : Int), r = (st1, zset S a j v) → zoks S.1.length st1 → ∀ H1 locs1, zrel D cA ad A (zset S a j v) H1 → va_S A s.heap H1 locs1 → W p l e R s m args below meth c H1 locs1 cells slots Q (F0 m (pc + len) lsC (st1.map (zval ad))) := by
    intro st1 a j v hr ho H1 locs1 g1 g2
    subst hr
    have k := kk ad H1 locs1 hag g1 hsh (Nat.le_refl _) g2 ho (Nat.le_refl _) (Nat.le_refl _)
    have e1 : (zset S a j v).2.2.1 - S.2.2.1 = 0 := Nat.sub_self _
    have e2 : (zset S a j v).2.2.2 - S.2.2.2 = 0 := Nat.sub_self _
    simp only [e1, e2, Nat.add_zero] at k
    exact k
  have made : ∀ (st1 : List zV) (e1 : zLE) (f : Nat → Int), r = ((1, (S.1.length : Int)) :: st1, znew S e1 f) → zoks S.1.length st1 → e1.2.2 < 2147483648 → ∀ (q : Nat) H1 locs1, zrel D cA (zadd ad S.1.length q) A (znew S e1 f) H1 → va_S A s.heap H1 locs1 → W p l e R s m args below meth c H1 locs1 (cells + 1) (slots + e1.2.2) Q (F0 m (pc + len) lsC (.ref q :: st1.map (zval ad))) := by
    intro st1 e1 f hr ho hsz q H1 locs1 g1 g2
    subst hr
    have hl : S.1.length ≤ (znew S e1 f).1.length := by show _ ≤ (S.1 ++ [e1]).length; simp
    have hl2 : (znew S e1 f).1.length = S.1.length + 1 := by show (S.1 ++ [e1]).length = _; simp
    have k := kk (zadd ad S.1.length q) H1 locs1 (zag_add ad _ q) g1 (fun k e2 he => by
      have he : (S.1 ++ [e1])[k]? = some e2 := he
      rcases List.mem_append.mp (List.mem_of_getElem? he) with h | h
      · obtain ⟨j, hj⟩ := List.getElem?_of_mem h; exact hsh j e2 hj
      · rw [List.mem_singleton.mp h]; exact hsz) hl g2 (List.forall_mem_cons.mpr ⟨Or.inr (Or.inr (Or.inr ⟨Int.natCast_nonneg _, by show (S.1.length : Int) < ((znew S e1 f).1.length : Int); omega⟩)), zoks_mono ho hl⟩) (Nat.le_succ _) (Nat.le_add_right _ _)
    have e3 : (znew S e1 f).2.2.1 - S.2.2.1 = 1 := by show S.2.2.1 + 1 - S.2.2.1 = 1; omega
    have e4 : (znew S e1 f).2.2.2 - S.2.2.2 = e1.2.2 := by show S.2.2.2 + e1.2.2 - S.2.2.2 = _; omega
    simp only [e3, e4, List.map_cons, zval1, zmap_ag (zag_add ad _ q) ho] at k
    have e5 : zadd ad S.1.length q (S.1.length : Int) = q := by unfold zadd; rw [if_pos rfl]
    rw [e5] at k
    exact k
  unfold zheap at h
  split at h
  · split at h
    · rename_i f hf
      split at h
      · rename_i n hn
        have ho := List.forall_mem_cons.mp hos
        exact zh_get hx hb hown hts hK hrel (p1 _ _ hf) hn hd (fun hok => same _ (Option.some.inj h).symm (List.forall_mem_cons.mpr ⟨hok, ho.2⟩))
      · cases h
    · cases h
  · split at h
    · rename_i f hf
      split at h
      · rename_i h3
        split at h
        · rename_i n hn
          have ho := List.forall_mem_cons.mp hos
          have ho2 := List.forall_mem_cons.mp ho.2
          obtain ⟨rfl, h4, h5⟩ := h3
          exact zh_put hx hb hown hts hK hrel hS (p1 _ _ hf) hn h4 (fun z => hctor (h5 z)) hd ho.1 (stor _ _ _ _ (Option.some.inj h).symm ho2.2)
        · cases h
      · cases h
    · cases h
  · rename_i j0 a0 st0
    have ho := List.forall_mem_cons.mp hos
    have ho2 := List.forall_mem_cons.mp ho.2
    split at h
    · rename_i q hq
      exact zh_aload hx hb hK hrel hsh hq (Or.inl ⟨rfl, rfl⟩) hd (fun t ht hok => by subst ht; exact same _ (Option.some.inj h).symm (List.forall_mem_cons.mpr ⟨hok, ho2.2⟩))
    · split at h
      · rename_i ha
        split at h
        · rename_i r0 hr0
          split at h
          · rename_i hj
            obtain ⟨z1, z2, z3, z4, z5, z6⟩ := hro a0 r0 hr0
            have g1 : zi32 j0 := ho.1
            have e1 : zval ad (1, a0) = .ref (ad a0) := by show va_rf (zrf ad a0) = _; unfold zrf; rw [if_neg (by omega)]; rfl
            rw [List.map_cons, List.map_cons, e1]
            obtain ⟨scr, x1, x2, x3, x4, x5, x6⟩ := z2
            have hcl : (Int32.ofInt j0).toNatClampNeg = j0.toNat := zclamp hj.1 (by omega)
            have hin : ¬ (Int32.ofInt j0 < 0 ∨ scr.slots.size ≤ (Int32.ofInt j0).toNatClampNeg) := by
              rw [hcl, show (0 : Int32) = Int32.ofInt 0 from rfl, zltI g1 ⟨by decide, by decide⟩]
              omega
            refine W.iald (v := .int (Int32.ofInt (r0.2 j0.toNat))) hx hb (by rw [hS.2.1 _ z3 z4]; exact x1) x2 x3 hin (by rw [hcl]; exact x6 _ (by omega)) rfl rfl hd ?_
            exact same _ (Option.some.inj h).symm (List.forall_mem_cons.mpr ⟨z5 _, ho2.2⟩)
          · cases h
        · cases h
      · cases h
  · have ho := List.forall_mem_cons.mp hos
    have ho2 := List.forall_mem_cons.mp ho.2
    split at h
    · rename_i q hq
      exact zh_aload hx hb hK hrel hsh hq (Or.inr (Or.inl ⟨rfl, rfl⟩)) hd (fun t ht hok => by subst ht; exact same _ (Option.some.inj h).symm (List.forall_mem_cons.mpr ⟨hok, ho2.2⟩))
    · cases h
  · have ho := List.forall_mem_cons.mp hos
    have ho2 := List.forall_mem_cons.mp ho.2
    split at h
    · rename_i q hq
      exact zh_aload hx hb hK hrel hsh hq (Or.inr (Or.inr (Or.inl ⟨rfl, rfl⟩))) hd (fun t ht hok => by subst ht; exact same _ (Option.some.inj h).symm (List.forall_mem_cons.mpr ⟨hok, ho2.2⟩))
    · cases h
  · have ho := List.forall_mem_cons.mp hos
    have ho2 := List.forall_mem_cons.mp ho.2
    split at h
    · rename_i q hq
      exact zh_aload hx hb hK hrel hsh hq (Or.inr (Or.inr (Or.inr (Or.inl ⟨rfl, rfl⟩)))) hd (fun t ht hok => by subst ht; exact same _ (Option.some.inj h).symm (List.forall_mem_cons.mpr ⟨hok, ho2.2⟩))
    · cases h
  · have ho := List.forall_mem_cons.mp hos
    have ho2 := List.forall_mem_cons.mp ho.2
    split at h
    · rename_i q hq
      exact zh_aload hx hb hK hrel hsh hq (Or.inr (Or.inr (Or.inr (Or.inr (Or.inl ⟨rfl, rfl⟩))))) hd (fun t ht hok => by subst ht; exact same _ (Option.some.inj h).symm (List.forall_mem_cons.mpr ⟨hok, ho2.2⟩))
    · cases h
  · have ho := List.forall_mem_cons.mp hos
    have ho2 := List.forall_mem_cons.mp ho.2
    split at h
    · rename_i q hq
      exact zh_aload hx hb hK hrel hsh hq (Or.inr (Or.inr (Or.inr (Or.inr (Or.inr ⟨rfl, rfl⟩))))) hd (fun t ht hok => by subst ht; exact same _ (Option.some.inj h).symm (List.forall_mem_cons.mpr ⟨hok, ho2.2⟩))
    · cases h
  · have ho := List.forall_mem_cons.mp hos
    have ho2 := List.forall_mem_cons.mp (List.forall_mem_cons.mp ho.2).2
    split at h
    · rename_i q hq
      exact zh_astore hx hb hK hrel hsh hS hq ho.1 (Or.inl ⟨rfl, rfl, rfl⟩) hd (stor _ _ _ _ (Option.some.inj h).symm ho2.2)
    · cases h
  · have ho := List.forall_mem_cons.mp hos
    have ho2 := List.forall_mem_cons.mp (List.forall_mem_cons.mp ho.2).2
    split at h
    · rename_i hv
      split at h
      · rename_i q hq
        exact zh_astore hx hb hK hrel hsh hS hq ho.1 (Or.inr (Or.inl ⟨rfl, rfl, rfl, hv.1, hv.2⟩)) hd (stor _ _ _ _ (Option.some.inj h).symm ho2.2)
      · cases h
    · cases h
  · have ho := List.forall_mem_cons.mp hos
    have ho2 := List.forall_mem_cons.mp (List.forall_mem_cons.mp ho.2).2
    split at h
    · rename_i hv
      split at h
      · rename_i q hq
        exact zh_astore hx hb hK hrel hsh hS hq ho.1 (Or.inr (Or.inr (Or.inl ⟨rfl, rfl, rfl, hv⟩))) hd (stor _ _ _ _ (Option.some.inj h).symm ho2.2)
      · cases h
    · cases h
  · have ho := List.forall_mem_cons.mp hos
    have ho2 := List.forall_mem_cons.mp (List.forall_mem_cons.mp ho.2).2
    split at h
    · rename_i q hq
      exact zh_astore hx hb hK hrel hsh hS hq ho.1 (Or.inr (Or.inr (Or.inr (Or.inl ⟨rfl, rfl, rfl⟩)))) hd (stor _ _ _ _ (Option.some.inj h).symm ho2.2)
    · cases h
  · have ho := List.forall_mem_cons.mp hos
    have ho2 := List.forall_mem_cons.mp (List.forall_mem_cons.mp ho.2).2
    split at h
    · rename_i q hq
      exact zh_astore hx hb hK hrel hsh hS hq ho.1 (Or.inr (Or.inr (Or.inr (Or.inr (Or.inl ⟨rfl, rfl, rfl⟩))))) hd (stor _ _ _ _ (Option.some.inj h).symm ho2.2)
    · cases h
  · have ho := List.forall_mem_cons.mp hos
    have ho2 := List.forall_mem_cons.mp (List.forall_mem_cons.mp ho.2).2
    split at h
    · rename_i q hq
      split at h
      · rename_i n0 hn0
        exact zh_astore hx hb hK hrel hsh hS hq ho.1 (Or.inr (Or.inr (Or.inr (Or.inr (Or.inr ⟨rfl, rfl, rfl, n0, hn0⟩))))) hd (stor _ _ _ _ (Option.some.inj h).symm ho2.2)
      · cases h
    · cases h
  · rename_i a0 st0
    have ho := List.forall_mem_cons.mp hos
    split at h
    · rename_i ha
      split at h
      · rename_i e0 he0
        split at h
        · rename_i hk0
          obtain ⟨n, rfl⟩ := Int.eq_ofNat_of_zero_le ha
          have h9 := hsh _ _ he0
          have hw := zws_at (ad := ad) (cA := cA) he0
          rw [List.map_cons, zval1]
          have e1 : Int32.ofNat e0.2.2 = Int32.ofInt (e0.2.2 : Int) := by rw [Int32.ofInt_eq_ofNat]
          have fin := same _ (Option.some.inj h).symm (List.forall_mem_cons.mpr ⟨show zi32 (e0.2.2 : Int) from ⟨by omega, by omega⟩, ho.2⟩)
          have hw2 : ∃ x : vp_A, ∃ kA, (zws ad cA S)[n]? = some (ad (n : Int), .inl (cA kA, x)) ∧ x.1 = e0.2.2 ∧ ∃ (t0 : Nat) (ty : FieldType), (ztys cA)[t0]? = some (cA kA, ty) := by
            rcases (by omega : e0.1 = 1 ∨ e0.1 = 2 ∨ e0.1 = 3 ∨ e0.1 = 4 ∨ e0.1 = 5 ∨ e0.1 = 6) with z | z | z | z | z | z
            · rw [zenti z (Or.inl rfl)] at hw; exact ⟨_, 1, hw, rfl, 0, _, rfl⟩
            · rw [zenti z (Or.inr (Or.inl rfl))] at hw; exact ⟨_, 2, hw, rfl, 1, _, rfl⟩
            · rw [zenti z (Or.inr (Or.inr rfl))] at hw; exact ⟨_, 3, hw, rfl, 2, _, rfl⟩
            · rw [zent4 z] at hw; exact ⟨_, 4, hw, rfl, 3, _, rfl⟩
            · rw [zent5 z] at hw; exact ⟨_, 5, hw, rfl, 4, _, rfl⟩
            · rw [zent6 z] at hw; exact ⟨_, 6, hw, rfl, 5, _, rfl⟩
          obtain ⟨x, kA, q1, q2, t0, ty, q3⟩ := hw2
          exact va_alen hx hb hK hrel.1 n t0 q1 q3 (by rw [q2]; exact e1) hd fin
        · cases h
      · cases h
    · split at h
      · split at h
        · rename_i r0 hr0
          obtain ⟨z1, z2, z3, z4, z5, z6⟩ := hro a0 r0 hr0
          have e1 : zval ad (1, a0) = .ref (ad a0) := by show va_rf (zrf ad a0) = _; unfold zrf; rw [if_neg (by omega)]; rfl
          have e2 : Int32.ofNat r0.1 = Int32.ofInt (r0.1 : Int) := by rw [Int32.ofInt_eq_ofNat]
          rw [List.map_cons, e1]
          obtain ⟨scr, x1, x2, x3, x4, x5, x6⟩ := z2
          refine W.alen (n := Int32.ofNat r0.1) hx hb (by rw [hS.2.1 _ z3 z4]; exact x1) x2 x5 rfl rfl hd ?_
          rw [e2]
          exact same _ (Option.some.inj h).symm (List.forall_mem_cons.mpr ⟨show zi32 (r0.1 : Int) from ⟨by omega, by omega⟩, ho.2⟩)
        · cases h
      · cases h
  · have ho := List.forall_mem_cons.mp hos
    split at h
    · rename_i hn
      obtain ⟨w1, w2, w3, w4, w5⟩ := p7
      obtain ⟨t1, t2, t3, t4, t5, t6⟩ := ztys_at cA
      have rooms : ∀ (k : Nat) (st1 : List zV) (n : Int), r = (st1, znew S (k, 0, n.toNat) (fun _ => 0)) → cells + 1 ≤ R.cells ∧ slots + n.toNat ≤ R.slots := by
        intro k st1 n hr
        subst hr
        have e3 : (znew S (k, 0, n.toNat) (fun _ => 0)).2.2.1 - S.2.2.1 = 1 := by show S.2.2.1 + 1 - S.2.2.1 = 1; omega
        have e4 : (znew S (k, 0, n.toNat) (fun _ => 0)).2.2.2 - S.2.2.2 = n.toNat := by show S.2.2.2 + n.toNat - S.2.2.2 = _; omega
        simp only [e3] at hrc
        simp only [e4] at hrs
        exact ⟨hrc, hrs⟩
      have z0 : zi32 0 := ⟨by decide, by decide⟩
      split at h
      · have hr := (Option.some.inj h).symm
        obtain ⟨r1, r2⟩ := rooms _ _ _ hr
        exact zh_newa (t := ArrayType.int) (ty := FieldType.int) hx hb hts hK hrel hS hA rfl (fun C e => by cases e) t1 w1 hn.1 hn.2 (by decide) (a0 := (_, .inl (fun _ => Int32.ofInt 0))) (fun _ => rfl) (fun ad => zenti rfl (Or.inl rfl)) (fun j => z0) r1 r2 hd (fun q H1 g1 g2 => made _ _ _ hr ho.2 (by show Int.toNat _ < _; omega) q H1 locs g1 g2)
      · have hr := (Option.some.inj h).symm
        obtain ⟨r1, r2⟩ := rooms _ _ _ hr
        exact zh_newa (t := ArrayType.char) (ty := FieldType.char) hx hb hts hK hrel hS hA rfl (fun C e => by cases e) t2 w2 hn.1 hn.2 (by decide) (a0 := (_, .inl (fun _ => Int32.ofInt 0))) (fun _ => rfl) (fun ad => zenti rfl (Or.inr (Or.inl rfl))) (fun j => z0) r1 r2 hd (fun q H1 g1 g2 => made _ _ _ hr ho.2 (by show Int.toNat _ < _; omega) q H1 locs g1 g2)
      · have hr := (Option.some.inj h).symm
        obtain ⟨r1, r2⟩ := rooms _ _ _ hr
        exact zh_newa (t := ArrayType.boolean) (ty := FieldType.boolean) hx hb hts hK hrel hS hA rfl (fun C e => by cases e) t3 w3 hn.1 hn.2 (by decide) (a0 := (_, .inl (fun _ => Int32.ofInt 0))) (fun _ => rfl) (fun ad => zenti rfl (Or.inr (Or.inr rfl))) (fun j => z0) r1 r2 hd (fun q H1 g1 g2 => made _ _ _ hr ho.2 (by show Int.toNat _ < _; omega) q H1 locs g1 g2)
      · have hr := (Option.some.inj h).symm
        obtain ⟨r1, r2⟩ := rooms _ _ _ hr
        exact zh_newa (t := ArrayType.long) (ty := FieldType.long) hx hb hts hK hrel hS hA rfl (fun C e => by cases e) t4 w4 hn.1 hn.2 (by decide) (a0 := (_, .inr (.inl (fun _ => Int64.ofInt 0)))) (fun _ => rfl) (fun ad => zent4 rfl) (fun j => by show zi64 0; exact ⟨by decide, by decide⟩) r1 r2 hd (fun q H1 g1 g2 => made _ _ _ hr ho.2 (by show Int.toNat _ < _; omega) q H1 locs g1 g2)
      · have hr := (Option.some.inj h).symm
        obtain ⟨r1, r2⟩ := rooms _ _ _ hr
        exact zh_newa (t := ArrayType.double) (ty := FieldType.double) hx hb hts hK hrel hS hA rfl (fun C e => by cases e) t5 w5 hn.1 hn.2 (by decide) (a0 := (_, .inr (.inr (.inr (.inl (fun _ => UInt64.ofNat (0 : Int).toNat)))))) (fun _ => rfl) (fun ad => zent5 rfl) (fun j => by show (0 : Int) ≤ 0 ∧ (0 : Int) < 18446744073709551616; decide) r1 r2 hd (fun q H1 g1 g2 => made _ _ _ hr ho.2 (by show Int.toNat _ < _; omega) q H1 locs g1 g2)
      · cases h
    · cases h
  · rename_i k0 n0 st0
    have ho := List.forall_mem_cons.mp hos
    split at h
    · rename_i hn
      have hr := (Option.some.inj h).symm
      have hn0 : ¬ Int32.ofInt n0 < 0 := by
        rw [show (0 : Int32) = Int32.ofInt 0 from rfl, zltI ⟨by omega, by omega⟩ ⟨by decide, by decide⟩]
        omega
      have e3 : r.2.2.2.1 - S.2.2.1 = 1 := by rw [hr]; show S.2.2.1 + 1 - S.2.2.1 = 1; omega
      have e4 : r.2.2.2.2 - S.2.2.2 = n0.toNat := by rw [hr]; show S.2.2.2 + n0.toNat - S.2.2.2 = _; omega
      rw [e3] at hrc
      rw [e4] at hrs
      refine va_newq hx hb hown (p4 _ hn.1) p5 hK hrel.1 hrel.2.1 hS hA hn0 (zclamp hn.2.1 (by omega)) (by omega) hrc hrs hd (fun q cN H1 g1 g2 g3 g4 => ?_)
      have e1 := zrAo hK g1
      subst e1
      rw [zws_new hrel.2.2 (f := fun _ => -1) (e := (6, 0, n0.toNat)) (by rw [zent6 rfl]; rfl)] at g2 g3
      exact made _ _ _ hr ho.2 (by show Int.toNat _ < _; omega) q H1 locs ⟨g2, g3, zok_new hrel.2.2 (fun j => Or.inl rfl)⟩ g4
    · cases h
  · split at h
    · rename_i c0 hc0
      have hr := (Option.some.inj h).symm
      obtain ⟨C, T, N, ty, ⟨c1, c2, c3, c4, c5, c6⟩, f1, f5, f2, f3, f4⟩ := p2 _ _ hc0
      have e3 : r.2.2.2.1 - S.2.2.1 = 1 := by rw [hr]; show S.2.2.1 + 1 - S.2.2.1 = 1; omega
      have e4 : r.2.2.2.2 - S.2.2.2 = c0.2 := by rw [hr]; show S.2.2.2 + c0.2 - S.2.2.2 = _; omega
      rw [e3] at hrc
      rw [e4, f1] at hrs
      have hfs : ∀ ad', ∀ j, j < N → defaultValue (ty j) = vp_V (zfs ad' c0.1 c0.2 (fun j => zdef (zfty c0.1 j))) j := by
        intro ad' j hj
        obtain ⟨b, hb9⟩ := (c5 j hj).2
        unfold vp_V
        rw [List.getD_eq_getElem?_getD, zfs_at (by rw [f1]; exact hj)]
        exact zfit_def hb9
      refine va_new hx hb hts c2 ty c3 hown (hts _ f2) (hts _ f3) (hts _ f4) hK hrel.1 hrel.2.1 hS hA c1 (hfs ad) hrc hrs hd (fun q H1 g2 g3 g4 => ?_)
      have hz : ∀ j, zok S.1.length (zfty c0.1 j, zdef (zfty c0.1 j)) := by
        intro j
        by_cases hj : j < N
        · obtain ⟨b, hb9⟩ := (c5 j hj).2
          rcases hb9 with ⟨q1, -⟩ | ⟨q1, -⟩ | ⟨q1, -⟩ | ⟨q1, -⟩ <;> rw [q1]
          · exact ⟨by decide, by decide⟩
          · exact ⟨by decide, by decide⟩
          · exact ⟨by decide, by decide⟩
          · exact Or.inl rfl
        · rw [c6 j (by omega)]
          exact ⟨by decide, by decide⟩
      have hag := zag_add ad S.1.length q
      rw [zws_new hrel.2.2 (f := fun j => zdef (zfty c0.1 j)) (e := (0, c0.1, c0.2)) (by
        rw [zent0 rfl]
        congr 2
        unfold zfs
        exact List.map_congr_left (fun j _ => (zval_ag (hz j) hag).symm))] at g2 g3
      have k9 := made _ _ _ hr hos (by
        show c0.2 < _
        omega) q H1 locs ⟨g2, g3, zok_new hrel.2.2 (fun j => by simpa [zctag] using hz j)⟩ g4
      rw [show ((0, c0.1, c0.2) : zLE).2.2 = N from f1] at k9
      exact k9
    · cases h
  · split at h
    · rename_i r0 hr0
      obtain ⟨rfl, host, hl9⟩ := p3 _ _ hr0
      refine va_getsN hx hb p6 hS hown hl9 (fun x hx9 => hx9) hd ?_
      have k9 := same _ (Option.some.inj h).symm (List.forall_mem_cons.mpr ⟨Or.inr (Or.inl rfl), hos⟩)
      exact k9
    · cases h
  · cases h
end
end
section
/-! an exception whose constructor has another entry for the one above it: follows the proofs of ctorThrowS and chainS of the library, with the entry and the bytes as they are -/
theorem zx_chain {args : Array Value} {s : State} {pl : Platform} (hpl : pl.magicAccessors = ({} : Platform).magicAccessors) {top : MethodId} (htop : s.methodNamed? (Bundle.initS Bundle.tN) = some top) {ix : Nat} {rx : ByteArray} (x0 : decode rx 0 = .ok (.aload_n 0, 1)) (x1 : decode rx 1 = .ok (.aload_n 1, 1)) (x2 : decode rx 2 = .ok (.invokespecial ix, 3)) (x5 : decode rx 5 = .ok (.return_, 1))
    {X Y : String} {r : List String} (hX : Bundle.fit X = true) (hY : Bundle.fit Y = true) (hr : ∀ n ∈ r, Bundle.fit n = true) (h1 : ∀ c ∈ Bundle.passSAtoms X Y ix rx, c.before args s = true) (h2 : ∀ c ∈ Bundle.chainSAtoms Y r, c.before args s = true) :
    ∃ (P1 : PassC) (Ps : List PassC), Ps.length = r.length + 1 ∧ P1.LinksS pl s ∧ (∀ P, P ∈ Ps → P.LinksS pl s) ∧ s.methodNamed? (Bundle.initS X) = some P1.m ∧ P1.sup = firstOf top (Ps.map (·.toPassT)) ∧ PassesOn top (Ps.map (·.toPassT)) := by
  obtain ⟨P, L, hm, hs⟩ := PassC.ofS_atoms (args := args) (s := s) hpl (X := X) (Y := Y) (Bundle.fit_spec hX).1 (Bundle.fit_spec hY).2 x0 x1 x2 x5 h1
  obtain ⟨P', Ps, hlen, L', hL, hm', hsup, hpass⟩ := Bundle.chainS (args := args) hpl htop r Y hY hr h2
  refine ⟨P, P' :: Ps, by simp [hlen], L, fun Q hQ => ?_, hm, Option.some.inj (hs.symm.trans hm'), hsup, hpass⟩
  rcases List.mem_cons.mp hQ with rfl | hQ
  · exact L'
  · exact hL Q hQ
def zx_own (own : String) (ic : Nat) (X : String) : List Cond := (Bundle.ownAtoms own ic X []).drop (Bundle.throwableAtoms ++ Bundle.throwableSAtoms ++ Bundle.chainSAtoms X []).length
section
variable {p : Program} {l : Launch} {e : Env} {R : Room} {s : State} {m₀ : MethodId} {args : Array Value} {below : List Frame} {meth : Method} {c : Code} {W : State} {locs : List Loc} {cells slots : Nat}
set_option maxHeartbeats 4000000 in
theorem zx_ctor (X : Stand p l e R s m₀ args below meth c W locs cells slots) (hexec : p.tables.exec = Jvm.exec) (htr : e.platform.stackTraces = false) {own cls Y : String} {r : List String} {ic ix : Nat} {rx : ByteArray}
    (x0 : decode rx 0 = .ok (.aload_n 0, 1)) (x1 : decode rx 1 = .ok (.aload_n 1, 1)) (x2 : decode rx 2 = .ok (.invokespecial ix, 3)) (x5 : decode rx 5 = .ok (.return_, 1))
    (hown : s.vm.findClass own = some m₀.cls) (hcls : Bundle.fit cls = true) (hY : Bundle.fit Y = true) (hnr : ∀ n ∈ r, Bundle.fit n = true)
    (hpas : ∀ c ∈ Bundle.passSAtoms cls Y ix rx, c.before args s = true) (hch : ∀ c ∈ Bundle.chainSAtoms Y r, c.before args s = true)
    (hA : ∀ w ∈ Bundle.throwableAtoms, w.before args s = true) (hB : ∀ w ∈ Bundle.throwableSAtoms, w.before args s = true) (hO : ∀ w ∈ zx_own own ic cls, w.before args s = true)
    (hlocs : ∀ x ∈ locs, ∀ cell, s.heap[x.base]? = some cell → cell.vm.isStatics = false)
    {a : Addr} {cX : ClassId} {kX : Class} (hfoundX : s.vm.findClass cls = some cX) (hkX : s.vm.classes[cX]? = some kX) (hcell : W.heap[a]? = some (freshCell cX kX)) (hnew : s.heap.size ≤ a)
    {msg : Value} (hmsg : msg.isRef = true)
    {g : JFrame} (hg : g.method = m₀) (hsize : g.locals.size = c.maxLocals) (hlocked : g.locked = none) (hentered : g.entered = []) {rest : List Value} (hstack : g.stack = msg :: .ref a :: .ref a :: rest)
    (hd6 : decode c.code g.pc = .ok (.invokespecial ic, 3)) (hd9 : decode c.code (g.pc + 3) = .ok (.athrow, 1)) (hout : ∀ x ∈ c.exceptionTable.toList, covers x (g.pc + 3) = false)
    (hRframes : (r.length + 1) + 3 < R.frames) (hRlocals : 2 * g.monitorRoom + ((Value.ref a :: rest).map fun v => v.category).sum + (13 * ((r.length + 1) + 1) + 42) ≤ R.locals) (hlocks : meth.locks = false) :
    ∃ U : State, Steps p.tables e below (W.setTop g) U ∧ U.status = .running ∧ Ended U below (.threw a) ∧ s.WarmedH U.vm ∧ s.sameButNew ({ U with vm := s.vm } : State) locs cells slots ∧
      ∃ ce, U.heap[a]? = some ce ∧ s.vm.findClass cls = some ce.cls ∧ ce.vm = .none := by
  have howns : e.platform.frameOwnsMonitors = true := by rw [X.admits.platform]
  have hfin : e.platform.finalization = false := by rw [X.admits.platform]
  have hpl : e.platform.magicAccessors = ({} : Platform).magicAccessors := by rw [X.admits.platform]
  have a' : ∀ x, x ∈ zx_own own ic cls → x.holds args s none s [] = true := fun x hx => hO x hx
  obtain ⟨T, Z0, L, -, Y⟩ := ThrowableC.of_atoms (args := args) howns hfin hpl hA
  obtain ⟨Z, M, LZ, LM, hnZ⟩ := Init0T.ofS_atoms (args := args) hpl L Y hB
  obtain ⟨P1, Ps, hlen, L1, hL, hP1m, hlink1, hlink⟩ := zx_chain (args := args) hpl hnZ x0 x1 x2 x5 hcls hY hnr hpas hch
  have hfound : s.vm.findClass cls = some P1.m.cls := findClass_of_methodNamed hP1m
  cases Option.some.inj (hfoundX.symm.trans hfound)
  obtain ⟨c1, kX', hc1, hk, hord, -, -, hn6⟩ := Cond.instantiable_spec (a' (.instantiable cls 6) (by unfold zx_own Bundle.ownAtoms; rw [List.drop_left]; simp))
  cases Option.some.inj (hc1.symm.trans hfound)
  cases Option.some.inj (hkX.symm.trans hk)
  have hsel0 : selectMethod e.platform s.vm P1.m.cls T.fill0 = .method T.fill0 := by
    obtain ⟨c2, r2, m2, q1, q2, q3, q4, -⟩ := Cond.selects_spec (a' (.selects cls Bundle.tFill0 Bundle.tFill0) (by unfold zx_own Bundle.ownAtoms; rw [List.drop_left]; simp))
    cases Option.some.inj (q1.symm.trans hfound)
    cases Option.some.inj (q2.symm.trans (State.methodFound?_of_named Y.fill0 (by decide)))
    cases Option.some.inj (q3.symm.trans Y.fill0)
    rw [Launch.admits_selectMethod X.admits]; exact q4
  have hselF : selectMethod e.platform s.vm P1.m.cls T.fill = .method T.fill := by
    obtain ⟨c2, r2, m2, q1, q2, q3, q4, -⟩ := Cond.selects_spec (a' (.selects cls Bundle.tFill Bundle.tFill) (by unfold zx_own Bundle.ownAtoms; rw [List.drop_left]; simp))
    cases Option.some.inj (q1.symm.trans hfound)
    cases Option.some.inj (q2.symm.trans (State.methodFound?_of_named Y.fill (by decide)))
    cases Option.some.inj (q3.symm.trans Y.fill)
    rw [Launch.admits_selectMethod X.admits]; exact q4
  obtain ⟨cellS0, hcS0, hiss⟩ := Y.statics
  obtain ⟨u0, hu0⟩ := Cond.staticRefV Y.unassigned L.unassignedStatic L.statics hcS0 hiss (a' (.isRef (.static Bundle.tN "UNASSIGNED_STACK" Bundle.steD)) (by unfold zx_own Bundle.ownAtoms; rw [List.drop_left]; simp))
  obtain ⟨sen, hsen⟩ := Cond.staticRefV Y.sentinel L.sentinelStatic L.statics hcS0 hiss (a' (.isRef (.static Bundle.tN "SUPPRESSED_SENTINEL" Bundle.listD)) (by unfold zx_own Bundle.ownAtoms; rw [List.drop_left]; simp))
  obtain ⟨ci198, i198, fB, hk198, hg198, ha198, hsB, -, hnB, htB, hffB⟩ := Cond.ownField (t := .object "java/lang/Object") Y.found L.cls (by decide +kernel) (a' (.fieldLink Bundle.tN 198 Bundle.tN "backtrace" "Ljava/lang/Object;") (by unfold zx_own Bundle.ownAtoms; rw [List.drop_left]; simp)) (a' (.lays Bundle.tN Bundle.tN "backtrace" "Ljava/lang/Object;") (by unfold zx_own Bundle.ownAtoms; rw [List.drop_left]; simp)) e.platform hpl
  obtain ⟨cellS, hcS', heS, -, hkeep⟩ := X.same.2.2.2.2.2 T.aS cellS0 hcS0
  have hcellS : W.heap[T.aS]? = some cellS := hcS'
  have hout' : ∀ i, (⟨T.aS, i⟩ : Loc) ∉ locs := fun i hmem => by
    have := hlocs _ hmem cellS0 hcS0
    rw [hiss] at this; cases this
  have hknownS : cellS.vm ≠ .unknown := by
    rw [heS]; intro hu
    rw [show cellS0.vm = .unknown from hu] at hiss
    cases hiss
  have hneS : T.aS ≠ a := Nat.ne_of_lt (Nat.lt_of_lt_of_le (Array.getElem?_eq_some_iff.mp hcS0).1 hnew)
  obtain ⟨iM, hffM⟩ := Y.msg
  obtain ⟨tyC, dC, hdC, hdnC⟩ := Cond.laysAt hfound hk Y.cause (a' (.lays cls Bundle.tN "cause" "Ljava/lang/Throwable;") (by unfold zx_own Bundle.ownAtoms; rw [List.drop_left]; simp))
  obtain ⟨tyS, dS, hdS, hdnS⟩ := Cond.laysAt hfound hk Y.stack (a' (.lays cls Bundle.tN "stackTrace" Bundle.steD) (by unfold zx_own Bundle.ownAtoms; rw [List.drop_left]; simp))
  obtain ⟨tyP, dP, hdP, hdnP⟩ := Cond.laysAt hfound hk Y.supp (a' (.lays cls Bundle.tN "suppressedExceptions" Bundle.listD) (by unfold zx_own Bundle.ownAtoms; rw [List.drop_left]; simp))
  obtain ⟨tyM, dM, hdM, hdnM⟩ := Cond.laysAt hfound hk hffM (a' (.lays cls Bundle.tN "detailMessage" "Ljava/lang/String;") (by unfold zx_own Bundle.ownAtoms; rw [List.drop_left]; simp))
  obtain ⟨tyB, dB, hdB, hdnB⟩ := Cond.laysAt hfound hk hffB (a' (.lays cls Bundle.tN "backtrace" "Ljava/lang/Object;") (by unfold zx_own Bundle.ownAtoms; rw [List.drop_left]; simp))
  have bC := Cond.laysApart hdB hdC hdnB hdnC (by rw [hnB, Y.causeName]; decide)
  have bS := Cond.laysApart hdB hdS hdnB hdnS (by rw [hnB, Y.stackName]; decide)
  have bP := Cond.laysApart hdB hdP hdnB hdnP (by rw [hnB, Y.suppName]; decide)
  have hskip : SkipFacts T e.platform s (fun u => u) u0 ((preparedCellV T.toThrowableT (freshCell P1.m.cls kX) a u0 sen).withEntry W.cur) :=
    ⟨{ ci198 := ci198, i198 := i198, fBack := fB }, ⟨hk198, hg198, ha198, hsB⟩, by
      have := fresh_default (c := P1.m.cls) tyB
      rw [htB] at this
      simpa [preparedCellV, Cell.setSlot, Cell.withEntry, Array.getElem?_setIfInBounds, bC, bS, bP, bC.symm, bS.symm, bP.symm, defaultValue] using this, fun _ _ => rfl⟩
  obtain ⟨tm, methC, cdC, kC, vm₁, hnC, -, -, -, -, -, -, -, hW₁, st1⟩ := Steps.initColdS (tb := p.tables) (e := e) (below := below) (s := s) (U := W) X.here hexec X.warmed hpl hown (t := Bundle.initS cls) rfl rfl (Bundle.fit_spec hcls).2
    (a' (.methodLink own ic (Bundle.initS cls)) (by unfold zx_own Bundle.ownAtoms; rw [List.drop_left]; simp)) (hpas (.instanceMethod (Bundle.initS cls)) (by simp [Bundle.passSAtoms])) (bytes := rx) (maxL := 2) (hpas (.code (Bundle.initS cls) rx 2 none) (by simp [Bundle.passSAtoms]))
    (f := g) hg (a := a) (msg := msg) (rest := .ref a :: rest) hstack hd6
  cases Option.some.inj (hnC.symm.trans hP1m)
  have X₁ := X.noted hW₁
  obtain ⟨vm₂, X₂, st2⟩ := X₁.ctorMessageOffV hexec (g := { g with stack := .ref a :: rest }) hg hsize T L Z LZ M LM (P1 :: Ps)
    (fun P hP => by rcases List.mem_cons.mp hP with rfl | hP; exact L1; exact hL P hP) ⟨hlink1, hlink⟩ (u0 := u0) (sen := sen) (self := a) hmsg (cell := freshCell P1.m.cls kX) (cellS := cellS)
    hcell (fun _ => by simp) (by simp) rfl rfl hsel0 hselF hcellS hneS hknownS (by rw [hkeep _ (hout' _)]; exact hu0) (by rw [hkeep _ (hout' _)]; exact hsen)
    (Takes.of_laid hk hord tyC (by rw [Y.causeType]; rfl)) (Takes.of_laid hk hord tyS (by rw [Y.stackType]; exact fits_refV_array _ u0)) (Takes.of_laid hk hord tyP (by rw [Y.suppType]; exact fits_refV_object _ sen))
    (Takes.of_laid hk hord tyM (by rw [Y.msgType]; exact fits_refV_object _ ⟨msg, hmsg⟩)) Y.objLocals hskip htr [] hd6
    (by simp only [List.length_cons, hlen]; omega) (by simp only [List.length_cons, hlen]; exact hRlocals)
  obtain ⟨hwalk, hrun, hended, hWU, hsame⟩ := X₂.athrowLeaves hexec (g := { g with stack := .ref a :: rest, pc := g.pc + 3 }) hg hlocked hentered hout (a := a) (rest := rest) rfl hd9
  obtain ⟨c3, c4, hc3, hc4, hasg⟩ := Cond.castable_spec (a' (.castable cls cls) (by unfold zx_own Bundle.ownAtoms; rw [List.drop_left]; simp))
  cases Option.some.inj (hc3.symm.trans hfound)
  cases Option.some.inj (hc4.symm.trans hfound)
  have hlt : a < ((W.setVm vm₁).setVm vm₂).heap.size := (Array.getElem?_eq_some_iff.mp hcell).1
  have hU := heapAt_setCell_self (s := (W.setVm vm₁).setVm vm₂) (plainBareV T.toThrowableT (freshCell P1.m.cls kX) a u0 sen msg) hlt
  refine ⟨_, st1 _ (fun acts => ?_), hrun, hended, hWU, hsame.weaken (fun y hy hlt' => ?_) (Nat.le_refl _) (Nat.le_refl _), _, hU, hfound, rfl⟩
  · rw [doInvoke_state]
    exact st2 _ hwalk
  · rcases List.mem_append.mp hy with h1 | h1
    · exact h1
    · exfalso
      have hb : y.base = a := by
        simp only [List.mem_cons, List.not_mem_nil, or_false] at h1
        rcases h1 with rfl | rfl | rfl | rfl | rfl <;> rfl
      rw [hb] at hlt'
      exact Nat.not_lt.mpr hnew hlt'
end
/-! a throw, the constructor's entry and bytes as they are: follows vx_throwS, vx_throwSW -/
def zx_all (own : String) (ic : Nat) (X Y : String) (r : List String) (ix : Nat) (rx : ByteArray) : List Cond := Bundle.throwableAtoms ++ (Bundle.throwableSAtoms ++ (Bundle.passSAtoms X Y ix rx ++ (Bundle.chainSAtoms Y r ++ zx_own own ic X)))
def zx_at (own : String) (ic : Nat) (X Y : String) (r : List String) (ix : Nat) (rx : ByteArray) : List Cond := (zx_all own ic X Y r ix rx).filter vx_no
section
variable {p : Program} {l : Launch} {e : Env} {R : Room} {s : State} {m : MethodId} {args : Array Value} {below : List Frame} {meth : Method} {c : Code} {H : Heap} {locs : List Loc} {cells slots : Nat} {Q : State → Prop}
variable {mc ms : Nat} {free : Addr → Prop} {A0 A1 : Nat → Prop} {H0 : Heap} {a : Array Value} {ls : Array Slot} {st0 rest : List Value}
variable {Qc : Array Value → State → Outcome → State → Prop} {XC : String → State → State → Prop}
set_option maxHeartbeats 2000000 in
theorem zx_throw {cc : ByteArray} {pc : Nat} (hexec : p.tables.exec = Jvm.exec) (hb : c.code = cc) (hl : l.stackTraces = false) {own cls text : String} {YY : String} {r : List String} {ix : Nat} {rx : ByteArray} {ik is ic mc ms sa : Nat} {A : Nat → Prop}
    (hown : s.vm.findClass own = some m.cls) (hcls : Bundle.fit cls = true) (hY : Bundle.fit YY = true) (hnr : ∀ n ∈ r, Bundle.fit n = true) (x0 : decode rx 0 = .ok (.aload_n 0, 1)) (x1 : decode rx 1 = .ok (.aload_n 1, 1)) (x2 : decode rx 2 = .ok (.invokespecial ix, 3)) (x5 : decode rx 5 = .ok (.return_, 1))
    (hk : (Cond.classLink own ik cls).before args s = true) (hini : (Cond.initialized cls).before args s = true) (hstr : vk_R own is text sa s) (hat : ∀ w ∈ zx_at own ic cls YY r ix rx, w.before args s = true)
    (hgood : ∀ w ∈ Cond.classLink own ik cls :: Cond.initialized cls :: zx_at own ic cls YY r ix rx, vx_ot w = true)
    (hU : vx_Zq Bundle.tN "UNASSIGNED_STACK" Bundle.steD A s s.heap) (hN : vx_Zq Bundle.tN "SUPPRESSED_SENTINEL" Bundle.listD A s s.heap) (hS : va_S A s.heap H locs) (hsize : ls.size = c.maxLocals)
    (d0 : decode cc pc = .ok (.new ik, 3)) (d3 : decode cc (pc + 3) = .ok (.dup, 1)) (d4 : decode cc (pc + 4) = .ok (.ldc is, 2)) (d6 : decode cc (pc + 6) = .ok (.invokespecial ic, 3)) (d9 : decode cc (pc + 9) = .ok (.athrow, 1))
    (hout : ∀ x ∈ c.exceptionTable.toList, covers x (pc + 9) = false)
    (hRframes : (r.length + 1) + 3 < R.frames) (hRlocals : (rest.map fun v => v.category).sum + (13 * ((r.length + 1) + 1) + 43) ≤ R.locals) (hRcells : cells + 1 ≤ R.cells) (hRslots : slots + 6 ≤ R.slots) (hlocks : meth.locks = false)
    (hx : ∀ t : State, s.vm.Alike t.vm → H.size ≤ t.heap.size → (∀ q : Nat, q < H.size → t.heap[q]? = H[q]?) → XC cls s t)
    (hf : ∀ z ∈ locs, free z.base) (hc : cells + 1 ≤ mc) (hs : slots + 6 ≤ ms) :
    W p l e R s m args below meth c H locs cells slots (vx_MQ below Qc XC args s mc ms free) (F0 m pc ls rest) := by
  intro T hT X
  have htr : e.platform.stackTraces = false := (show e.platform.stackTraces = l.stackTraces by rw [X.admits.platform]).trans hl
  have Y := vx_rebase X (R' := { frames := R.frames, locals := R.locals, cells := 1, slots := 6 }) (Nat.le_refl _) (Nat.le_refl _) hRcells hRslots
  obtain ⟨s', hA⟩ : ∃ z, z = (T.setVm s.vm).setFrames (.invoking m args :: below) := ⟨_, rfl⟩
  rw [← hA] at Y
  have hvm : s'.vm = s.vm := by rw [hA]; rfl
  have hhp : s'.heap = H := by rw [hA]; exact hT
  have hW0 : s.WarmedH s'.vm := by rw [hvm]; exact State.WarmedH.refl s
  have hat' : ∀ w ∈ zx_at own ic cls YY r ix rx, w.before args s' = true := fun w hw => vx_ot_at hW0 hvm.symm (hgood w (List.mem_cons_of_mem _ (List.mem_cons_of_mem _ hw))) (hat w hw)
  have hk' : (Cond.classLink own ik cls).before args s' = true := vx_ot_at hW0 hvm.symm (hgood _ List.mem_cons_self) hk
  have hini' : (Cond.initialized cls).before args s' = true := vx_ot_at hW0 hvm.symm (hgood _ (List.mem_cons_of_mem _ List.mem_cons_self)) hini
  have hU' : vx_Zq Bundle.tN "UNASSIGNED_STACK" Bundle.steD A s' s'.heap := by rw [hhp]; exact vx_Zq.moved hW0.alike (hU.kept hS.2.1)
  have hN' : vx_Zq Bundle.tN "SUPPRESSED_SENTINEL" Bundle.listD A s' s'.heap := by rw [hhp]; exact vx_Zq.moved hW0.alike (hN.kept hS.2.1)
  have h : ∀ w ∈ zx_all own ic cls YY r ix rx, w.before args s' = true := vx_own hat' (vx_isRefq hU'.1) (vx_isRefq hN'.1) hU'.2.word hN'.2.word
  have hown' : s'.vm.findClass own = some m.cls := by rw [hvm]; exact hown
  have hins : (Cond.instantiable cls 6).before args s' = true := h _ (List.mem_append_right _ (List.mem_append_right _ (List.mem_append_right _ (List.mem_append_right _ (by unfold zx_own Bundle.ownAtoms; rw [List.drop_left]; simp)))))
  obtain ⟨vm₁, cX, kX, hfX, hkX, -, -, X₁, st1⟩ := Y.newCold hexec (own := own) (C := cls) (index := ik) (n := 6) hown' hk' hins hini'
    (g := F0 m pc ls rest) rfl (by rw [hb]; exact d0) (Nat.le_refl _) (Nat.le_refl _)
  generalize hT1 : (T.setVm vm₁).pushCell { cls := cX, slots := kX.instanceTypes.map defaultValue, vm := .none } = T1 at X₁ st1
  have hcat : (Value.ref T.heap.size).category = 1 := rfl
  have hcellA : T1.heap[T.heap.size]? = some (freshCell cX kX) := by rw [← hT1]; exact State.heap_pushCell_size _ _
  have d3' : decode c.code (pc + 3) = .ok (.dup, 1) := by rw [hb]; exact d3
  have d4' : decode c.code (pc + 4) = .ok (.ldc is, 2) := by rw [hb]; exact d4
  have hstr' : vk_R own is text sa s' := vk_R.warm hW0 hstr
  obtain ⟨U, hsteps, hrun, hend, hW, hsame, ce, hce, hOc, hOv⟩ := zx_ctor X₁ hexec htr (own := own) (cls := cls) (Y := YY) (r := r) (ic := ic) (ix := ix) (rx := rx) x0 x1 x2 x5 hown' hcls hY hnr (fun w hw => h w (List.mem_append_right _ (List.mem_append_right _ (List.mem_append_left _ hw)))) (fun w hw => h w (List.mem_append_right _ (List.mem_append_right _ (List.mem_append_right _ (List.mem_append_left _ hw))))) (fun w hw => h w (List.mem_append_left _ hw)) (fun w hw => h w (List.mem_append_right _ (List.mem_append_left _ hw))) (fun w hw => h w (List.mem_append_right _ (List.mem_append_right _ (List.mem_append_right _ (List.mem_append_right _ hw))))) (fun x hx => nomatch hx) hfX hkX hcellA (by rw [hhp, hT]; exact Nat.le_refl _) (msg := .ref sa) rfl
    (g := { method := m, pc := pc + 6, locals := ls, stack := .ref sa :: .ref T.heap.size :: .ref T.heap.size :: rest, locked := none }) rfl hsize rfl rfl (rest := rest) rfl
    (by rw [hb]; exact d6) (by rw [hb]; exact d9) hout hRframes (by simp only [List.map_cons, List.sum_cons, hcat]; omega) hlocks
  obtain ⟨f1, f2⟩ := vx_frame hsame
  rw [hhp] at f1 f2
  have hWs : s.WarmedH U.vm := State.WarmedH.trans hW0 hW
  have hcl : s.vm.findClass cls = some ce.cls := by
    have h9 := hOc
    rw [hvm] at h9
    exact h9
  have hall : s.sameButNew ({ U with vm := s.vm } : State) locs mc ms := by
    subst hA
    obtain ⟨e1, e2⟩ := hsame
    rw [State.setFrames_setFrames] at e1
    have h2 : (T.setVm s.vm).sameButNew ({ U with vm := s.vm } : State) [] (0 + 1) (0 + 6) := ⟨e1, e2⟩
    have h3 := X.same.trans h2
    rw [List.append_nil] at h3
    exact h3.mono hc hs
  refine ⟨U, ?_, .threw T.heap.size, hrun, hend, Or.inr ⟨T.heap.size, rfl, cls, ce, locs, hx U hWs.alike f1 (fun q hq => f2 q hq (fun z hz => nomatch hz)), hce, hOv, hcl, hWs, hall, hf⟩⟩
  refine st1 _ ?_
  show Steps p.tables e below (T1.setTop { method := m, pc := pc + 3, locals := ls, stack := .ref T.heap.size :: rest, locked := none }) _
  jvm_step X₁.here [X₁.here.top, hexec, d3', Value.category]
  exact X₁.ldcString hexec (own := own) (text := text) (index := is) (a := sa) hown' hstr'.1 hstr'.2
    (g := { method := m, pc := pc + 4, locals := ls, stack := .ref T.heap.size :: .ref T.heap.size :: rest, locked := none }) rfl d4' _ hsteps
set_option maxHeartbeats 2000000 in
theorem zx_throwW {cc : ByteArray} {pc : Nat} (hexec : p.tables.exec = Jvm.exec) (hb : c.code = cc) (hl : l.stackTraces = false) {own cls text : String} {YY : String} {r : List String} {ix : Nat} {rx : ByteArray} {ik is ic mc ms sa : Nat} {A : Nat → Prop}
    (hown : s.vm.findClass own = some m.cls) (hcls : Bundle.fit cls = true) (hY : Bundle.fit YY = true) (hnr : ∀ n ∈ r, Bundle.fit n = true) (x0 : decode rx 0 = .ok (.aload_n 0, 1)) (x1 : decode rx 1 = .ok (.aload_n 1, 1)) (x2 : decode rx 2 = .ok (.invokespecial ix, 3)) (x5 : decode rx 5 = .ok (.return_, 1))
    (hk : (Cond.classLink own ik cls).before args s = true) (hini : (Cond.initialized cls).before args s = true) (hstr : vk_R own is text sa s) (hat : ∀ w ∈ zx_at own ic cls YY r ix rx, w.before args s = true)
    (hgood : ∀ w ∈ Cond.classLink own ik cls :: Cond.initialized cls :: zx_at own ic cls YY r ix rx, vx_ot w = true)
    (hU : vx_Zq Bundle.tN "UNASSIGNED_STACK" Bundle.steD A s s.heap) (hN : vx_Zq Bundle.tN "SUPPRESSED_SENTINEL" Bundle.listD A s s.heap) (hS : va_S A s.heap H locs) (hsize : ls.size = c.maxLocals)
    (d0 : decode cc pc = .ok (.new ik, 3)) (d3 : decode cc (pc + 3) = .ok (.dup, 1)) (d4 : decode cc (pc + 4) = .ok (.ldc_w is, 3)) (d7 : decode cc (pc + 7) = .ok (.invokespecial ic, 3)) (d10 : decode cc (pc + 10) = .ok (.athrow, 1))
    (hout : ∀ x ∈ c.exceptionTable.toList, covers x (pc + 10) = false)
    (hRframes : (r.length + 1) + 3 < R.frames) (hRlocals : (rest.map fun v => v.category).sum + (13 * ((r.length + 1) + 1) + 43) ≤ R.locals) (hRcells : cells + 1 ≤ R.cells) (hRslots : slots + 6 ≤ R.slots) (hlocks : meth.locks = false)
    (hx : ∀ t : State, s.vm.Alike t.vm → H.size ≤ t.heap.size → (∀ q : Nat, q < H.size → t.heap[q]? = H[q]?) → XC cls s t)
    (hf : ∀ z ∈ locs, free z.base) (hc : cells + 1 ≤ mc) (hs : slots + 6 ≤ ms) :
    W p l e R s m args below meth c H locs cells slots (vx_MQ below Qc XC args s mc ms free) (F0 m pc ls rest) := by
  intro T hT X
  have htr : e.platform.stackTraces = false := (show e.platform.stackTraces = l.stackTraces by rw [X.admits.platform]).trans hl
  have Y := vx_rebase X (R' := { frames := R.frames, locals := R.locals, cells := 1, slots := 6 }) (Nat.le_refl _) (Nat.le_refl _) hRcells hRslots
  obtain ⟨s', hA⟩ : ∃ z, z = (T.setVm s.vm).setFrames (.invoking m args :: below) := ⟨_, rfl⟩
  rw [← hA] at Y
  have hvm : s'.vm = s.vm := by rw [hA]; rfl
  have hhp : s'.heap = H := by rw [hA]; exact hT
  have hW0 : s.WarmedH s'.vm := by rw [hvm]; exact State.WarmedH.refl s
  have hat' : ∀ w ∈ zx_at own ic cls YY r ix rx, w.before args s' = true := fun w hw => vx_ot_at hW0 hvm.symm (hgood w (List.mem_cons_of_mem _ (List.mem_cons_of_mem _ hw))) (hat w hw)
  have hk' : (Cond.classLink own ik cls).before args s' = true := vx_ot_at hW0 hvm.symm (hgood _ List.mem_cons_self) hk
  have hini' : (Cond.initialized cls).before args s' = true := vx_ot_at hW0 hvm.symm (hgood _ (List.mem_cons_of_mem _ List.mem_cons_self)) hini
  have hU' : vx_Zq Bundle.tN "UNASSIGNED_STACK" Bundle.steD A s' s'.heap := by rw [hhp]; exact vx_Zq.moved hW0.alike (hU.kept hS.2.1)
  have hN' : vx_Zq Bundle.tN "SUPPRESSED_SENTINEL" Bundle.listD A s' s'.heap := by rw [hhp]; exact vx_Zq.moved hW0.alike (hN.kept hS.2.1)
  have h : ∀ w ∈ zx_all own ic cls YY r ix rx, w.before args s' = true := vx_own hat' (vx_isRefq hU'.1) (vx_isRefq hN'.1) hU'.2.word hN'.2.word
  have hown' : s'.vm.findClass own = some m.cls := by rw [hvm]; exact hown
  have hins : (Cond.instantiable cls 6).before args s' = true := h _ (List.mem_append_right _ (List.mem_append_right _ (List.mem_append_right _ (List.mem_append_right _ (by unfold zx_own Bundle.ownAtoms; rw [List.drop_left]; simp)))))
  obtain ⟨vm₁, cX, kX, hfX, hkX, -, -, X₁, st1⟩ := Y.newCold hexec (own := own) (C := cls) (index := ik) (n := 6) hown' hk' hins hini'
    (g := F0 m pc ls rest) rfl (by rw [hb]; exact d0) (Nat.le_refl _) (Nat.le_refl _)
  generalize hT1 : (T.setVm vm₁).pushCell { cls := cX, slots := kX.instanceTypes.map defaultValue, vm := .none } = T1 at X₁ st1
  have hcat : (Value.ref T.heap.size).category = 1 := rfl
  have hcellA : T1.heap[T.heap.size]? = some (freshCell cX kX) := by rw [← hT1]; exact State.heap_pushCell_size _ _
  have d3' : decode c.code (pc + 3) = .ok (.dup, 1) := by rw [hb]; exact d3
  have d4' : decode c.code (pc + 4) = .ok (.ldc_w is, 3) := by rw [hb]; exact d4
  have hstr' : vk_R own is text sa s' := vk_R.warm hW0 hstr
  obtain ⟨U, hsteps, hrun, hend, hW, hsame, ce, hce, hOc, hOv⟩ := zx_ctor X₁ hexec htr (own := own) (cls := cls) (Y := YY) (r := r) (ic := ic) (ix := ix) (rx := rx) x0 x1 x2 x5 hown' hcls hY hnr (fun w hw => h w (List.mem_append_right _ (List.mem_append_right _ (List.mem_append_left _ hw)))) (fun w hw => h w (List.mem_append_right _ (List.mem_append_right _ (List.mem_append_right _ (List.mem_append_left _ hw))))) (fun w hw => h w (List.mem_append_left _ hw)) (fun w hw => h w (List.mem_append_right _ (List.mem_append_left _ hw))) (fun w hw => h w (List.mem_append_right _ (List.mem_append_right _ (List.mem_append_right _ (List.mem_append_right _ hw))))) (fun x hx => nomatch hx) hfX hkX hcellA (by rw [hhp, hT]; exact Nat.le_refl _) (msg := .ref sa) rfl
    (g := { method := m, pc := pc + 7, locals := ls, stack := .ref sa :: .ref T.heap.size :: .ref T.heap.size :: rest, locked := none }) rfl hsize rfl rfl (rest := rest) rfl
    (by rw [hb]; exact d7) (by rw [hb]; exact d10) hout hRframes (by simp only [List.map_cons, List.sum_cons, hcat]; omega) hlocks
  obtain ⟨f1, f2⟩ := vx_frame hsame
  rw [hhp] at f1 f2
  have hWs : s.WarmedH U.vm := State.WarmedH.trans hW0 hW
  have hcl : s.vm.findClass cls = some ce.cls := by
    have h9 := hOc
    rw [hvm] at h9
    exact h9
  have hall : s.sameButNew ({ U with vm := s.vm } : State) locs mc ms := by
    subst hA
    obtain ⟨e1, e2⟩ := hsame
    rw [State.setFrames_setFrames] at e1
    have h2 : (T.setVm s.vm).sameButNew ({ U with vm := s.vm } : State) [] (0 + 1) (0 + 6) := ⟨e1, e2⟩
    have h3 := X.same.trans h2
    rw [List.append_nil] at h3
    exact h3.mono hc hs
  refine ⟨U, ?_, .threw T.heap.size, hrun, hend, Or.inr ⟨T.heap.size, rfl, cls, ce, locs, hx U hWs.alike f1 (fun q hq => f2 q hq (fun z hz => nomatch hz)), hce, hOv, hcl, hWs, hall, hf⟩⟩
  refine st1 _ ?_
  show Steps p.tables e below (T1.setTop { method := m, pc := pc + 3, locals := ls, stack := .ref T.heap.size :: rest, locked := none }) _
  jvm_step X₁.here [X₁.here.top, hexec, d3', Value.category]
  exact X₁.ldcStringW hexec (own := own) (text := text) (index := is) (a := sa) hown' hstr'.1 hstr'.2
    (g := { method := m, pc := pc + 4, locals := ls, stack := .ref T.heap.size :: .ref T.heap.size :: rest, locked := none }) rfl d4' _ hsteps
end
end
section
/-! what holds all the while: the words of the tables, the arrays that are only read, the texts of the exceptions -/
def zwarm : Cond → Bool
  | .methodLinkNest .. | .fieldLinkNest .. | .declares _ | .castable .. => true
  | _ => false
theorem zwarm_moved {w : Cond} {s U : State} (hw : zwarm w = true) (hW : s.WarmedH U.vm) (h : va_Nw w s) : va_Nw w U := by
  unfold zwarm at hw
  split at hw
  · exact va_Nw.warmM hW h
  · exact va_Nw.warmF hW h
  · exact va_Nw.warmD hW h
  · exact va_Nw.warmC hW h
  · cases hw
def zSF (NW : List Cond) (TX : List (String × Nat × String)) (NC : List (String × String)) (D : va_G) (cA : Nat → ClassId) (ad : Int → Nat) (ro : zRo) (A : Nat → Prop) (U : State) (H : Heap) : Prop :=
  va_K D zcl (ztys cA) U ∧ (∀ w ∈ NW, zwarm w = true ∧ va_Nw w U) ∧ (∀ q ∈ TX, ∃ a, vk_R q.1 q.2.1 q.2.2 a U) ∧ (∀ q ∈ NC, va_Nc q.1 q.2 U) ∧
  vx_Zq Bundle.tN "UNASSIGNED_STACK" Bundle.steD A U H ∧ vx_Zq Bundle.tN "SUPPRESSED_SENTINEL" Bundle.listD A U H ∧ va_AO RX1 U ∧ va_Z RX7 "FIRST_WEIGHTS" "[I" (.ref (ad (-2))) A U H ∧ zro ro ad A U H
theorem zro_moved {ro : zRo} {ad : Int → Nat} {A : Nat → Prop} {s U : State} {H H1 : Heap} (h : zro ro ad A s H) (hvm : s.vm.Alike U.vm) (hz : H.size ≤ H1.size) (hk : ∀ a : Nat, a < H.size → ¬ A a → H1[a]? = H[a]?) : zro ro ad A U H1 := by
  intro z r hr
  obtain ⟨a1, a2, a3, a4, a5⟩ := h z r hr
  exact ⟨a1, by obtain ⟨scr, x1, x2, x3⟩ := a2; exact ⟨scr, by rw [hk _ a3 a4]; exact x1, State.isArrayOf_alike hvm x2, x3⟩, by omega, a4, a5⟩
theorem zSF_moved {NW : List Cond} {TX : List (String × Nat × String)} {NC : List (String × String)} {D : va_G} {cA : Nat → ClassId} {ad : Int → Nat} {ro : zRo} {A : Nat → Prop} {s U : State} {H H1 : Heap} (h : zSF NW TX NC D cA ad ro A s H) (hW : s.WarmedH U.vm) (hz : H.size ≤ H1.size) (hk : ∀ a : Nat, a < H.size → ¬ A a → H1[a]? = H[a]?) : zSF NW TX NC D cA ad ro A U H1 := by
  obtain ⟨h1, h2, h3, h4, h5, h6, h7, h8, h9⟩ := h
  have hvm := hW.alike
  refine ⟨va_K.moved hvm h1, fun w hw => ⟨(h2 w hw).1, zwarm_moved (h2 w hw).1 hW (h2 w hw).2⟩, fun q hq => ?_, fun q hq => va_Nc.moved hvm (h4 q hq), (h5.kept hk).moved hvm, (h6.kept hk).moved hvm, va_AO.moved hvm h7, va_Z.moved hvm (h8.kept hk), zro_moved h9 hvm hz hk⟩
  obtain ⟨a, ha⟩ := h3 q hq
  exact ⟨a, vk_R.warm hW ha⟩
theorem zSF_ag {NW : List Cond} {TX : List (String × Nat × String)} {NC : List (String × String)} {D : va_G} {cA : Nat → ClassId} {ad ad' : Int → Nat} {ro : zRo} {A : Nat → Prop} {s : State} {H : Heap} {n : Nat} (h : zSF NW TX NC D cA ad ro A s H) (ha : zag n ad ad') : zSF NW TX NC D cA ad' ro A s H := by
  obtain ⟨h1, h2, h3, h4, h5, h6, h7, h8, h9⟩ := h
  refine ⟨h1, h2, h3, h4, h5, h6, h7, by rw [ha (-2) (by omega)]; exact h8, fun z r hr => ?_⟩
  have h := h9 z r hr
  rw [ha z (by rcases h.1 with e | e <;> omega)]
  exact h
def zroom (d mc ms : Nat) : Room := { frames := d + 10, cells := mc, slots := ms, locals := 60 * d + 300 }
def zcode (M : zM) : Cond := if (zMh M).isEmpty = true then Cond.code M.1 M.2.1 (zMl M) (zMr M) else Cond.codeWith M.1 M.2.1 (zMl M) (zMr M) (zMh M)
def zM0 (M : zM) : Prop := ∀ q ∈ zMt M, decode M.2.1 q.1 = .ok q.2
/-- what the claim's words say of a method -/
def zMP (M : zM) : Prop := M.1.cls = zown (zMk M) ∧ zMk M < 10 ∧ plainName M.1.cls = true ∧ (∀ q ∈ zMt M, decode M.2.1 q.1 = .ok q.2) ∧ zcode M ∈ zWS ∧ Cond.initialized M.1.cls ∈ zWS ∧ (M.1.cls ≠ "java/lang/invoke/MethodHandle" ∧ M.1.cls ≠ "java/lang/invoke/VarHandle") ∧ zMl M ≤ 30
/-- a call: its words -/
def zcallP (NW : List Cond) (c k : Nat) (q : Nat × Nat × zM) : Prop := zMP q.2.2 ∧ ∃ n : Nat, (parseMethodDescriptor q.2.2.1.desc).map (fun d => d.parameters.length) = some n ∧
  ((q.1 = 0 ∧ q.2.1 = n + 1 ∧ (zMh q.2.2).isEmpty = true ∧ Cond.methodLink (zown c) k q.2.2.1 ∈ zWS ∧ Cond.instanceMethod q.2.2.1 ∈ zWS ∧ Cond.selects q.2.2.1.cls q.2.2.1 q.2.2.1 ∈ zWS) ∨
   (q.1 = 1 ∧ q.2.1 = n ∧ (zMh q.2.2).isEmpty = true ∧ zown c = q.2.2.1.cls ∧ Cond.methodLink (zown c) k q.2.2.1 ∈ zWS ∧ Cond.static q.2.2.1 ∈ zWS) ∨
   (q.1 = 2 ∧ q.2.1 = n ∧ (zMh q.2.2).isEmpty = true ∧ (∃ host, Cond.methodLinkNest (zown c) k q.2.2.1 host ∈ NW) ∧ Cond.static q.2.2.1 ∈ zWS) ∨
   (q.1 = 3 ∧ q.2.1 = n + 1 ∧ (zMh q.2.2).isEmpty = true ∧ q.2.2.1.name = "<init>" ∧ zMr q.2.2 = none ∧ Cond.methodLink (zown c) k q.2.2.1 ∈ zWS ∧ Cond.instanceMethod q.2.2.1 ∈ zWS) ∨
   (q.1 = 4 ∧ q.2.1 = n + 1 ∧ (zMh q.2.2).isEmpty = true ∧ q.2.2.1.name = "<init>" ∧ zMr q.2.2 = none ∧ (∃ host, Cond.methodLinkNest (zown c) k q.2.2.1 host ∈ NW) ∧ Cond.instanceMethod q.2.2.1 ∈ zWS) ∨
   (q.1 = 5 ∧ q.2.1 = n ∧ (zMh q.2.2).isEmpty = false ∧ zown c = q.2.2.1.cls ∧ Cond.methodLink (zown c) k q.2.2.1 ∈ zWS ∧ Cond.static q.2.2.1 ∈ zWS))
/-- an exception that a class names: its words -/
def zexnP (c k : Nat) (E : String) : Prop := Cond.classLink (zown c) k E ∈ zWS
/-- a constructor of an exception: its words -/
def zxicP (NW : List Cond) (c ic : Nat) (E : String) : Prop := ∃ (Y : String) (r : List String) (ix : Nat) (rx : ByteArray), Bundle.fit E = true ∧ Bundle.fit Y = true ∧ (∀ n ∈ r, Bundle.fit n = true) ∧ r.length ≤ 3 ∧
  (decode rx 0 = .ok (.aload_n 0, 1) ∧ decode rx 1 = .ok (.aload_n 1, 1) ∧ decode rx 2 = .ok (.invokespecial ix, 3) ∧ decode rx 5 = .ok (.return_, 1)) ∧ Cond.initialized E ∈ zWS ∧ ∀ w ∈ zx_at (zown c) ic E Y r ix rx, vx_ot w = true ∧ (w ∈ zWS ∨ w ∈ NW)
end
section
/-! calls -/
theorem zheap_mono {fld : Nat → Option (Nat × Nat × Nat × Bool × Bool)} {cls : Nat → Option (Nat × Nat)} {fty : Nat → Nat → Nat} {ref : Nat → Bool} {stc : Nat → Option Int} {ctor : Bool} {ro : zRo} {i : Instr} {len : Nat} {st : List zV} {S : zS} {r : List zV × zS} (h : zheap fld cls fty ref stc ctor ro i len st S = some r) : S.2.2.1 ≤ r.2.2.2.1 ∧ S.2.2.2 ≤ r.2.2.2.2 ∧ S.1.length ≤ r.2.1.length := by
  have a1 : ∀ (st1 : List zV), some (st1, S) = some r → S.2.2.1 ≤ r.2.2.2.1 ∧ S.2.2.2 ≤ r.2.2.2.2 ∧ S.1.length ≤ r.2.1.length := fun st1 h => by cases h; exact ⟨Nat.le_refl _, Nat.le_refl _, Nat.le_refl _⟩
  have a2 : ∀ (st1 : List zV) (a j : Nat) (v : Int), some (st1, zset S a j v) = some r → S.2.2.1 ≤ r.2.2.2.1 ∧ S.2.2.2 ≤ r.2.2.2.2 ∧ S.1.length ≤ r.2.1.length := fun st1 a j v h => by cases h; exact ⟨Nat.le_refl _, Nat.le_refl _, Nat.le_refl _⟩
  have a3 : ∀ (st1 : List zV) (e1 : zLE) (f : Nat → Int), some (st1, znew S e1 f) = some r → S.2.2.1 ≤ r.2.2.2.1 ∧ S.2.2.2 ≤ r.2.2.2.2 ∧ S.1.length ≤ r.2.1.length := fun st1 e1 f h => by
    cases h
    exact ⟨Nat.le_succ _, Nat.le_add_right _ _, by show _ ≤ (S.1 ++ [e1]).length; simp⟩
  unfold zheap at h
  repeat' split at h
  all_goals first
    | exact a1 _ h
    | exact a2 _ _ _ _ h
    | exact a3 _ _ _ h
    | cases h
theorem zrun_mono {ro : zRo} : ∀ (n d : Nat) (M : zM) (pc : Nat) (ls st : List zV) (S : zS) (r : zR), zrun ro n d M pc ls st S = some r → S.2.2.1 ≤ r.2.2.2.1 ∧ S.2.2.2 ≤ r.2.2.2.2 ∧ S.1.length ≤ r.2.1.length
  | 0, _, _, _, _, _, _, _, h => by unfold zrun at h; cases h
  | n + 1, d, M, pc, ls, st, S, r, h => by
    have ih := zrun_mono (ro := ro) n
    unfold zrun at h
    split at h
    · cases h
    split at h
    · exact ih _ _ _ _ _ _ _ h
    split at h
    · exact ih _ _ _ _ _ _ _ h
    split at h
    · exact ih _ _ _ _ _ _ _ h
    split at h
    · exact ih _ _ _ _ _ _ _ h
    split at h
    · cases h; exact ⟨Nat.le_refl _, Nat.le_refl _, Nat.le_refl _⟩
    split at h
    · split at h
      · cases h; exact ⟨Nat.le_succ _, Nat.le_add_right _ _, Nat.le_refl _⟩
      · cases h
    split at h
    · rename_i r1 hr1
      obtain ⟨g1, g2, g3⟩ := zheap_mono hr1
      obtain ⟨f1, f2, f3⟩ := ih _ _ _ _ _ _ _ h
      exact ⟨by omega, by omega, by omega⟩
    split at h
    · rename_i d' r1 hr1
      cases hc : (decide (r1.2.1 ≤ st.length) && (st.take r1.2.1).all zplain && decide (r1.2.1 ≤ zMl r1.2.2) && (st.drop r1.2.1).all zplain && decide ((st.drop r1.2.1).length ≤ 8) && zrecv S r1.1 (zMk r1.2.2) (st.take r1.2.1).reverse) with
      | false => rw [hc, cond_false] at h; cases h
      | true =>
        rw [hc, cond_true] at h
        split at h
        · rename_i hc1
          obtain ⟨g1, g2, g3⟩ := ih _ _ _ _ _ _ _ hc1
          obtain ⟨f1, f2, f3⟩ := ih _ _ _ _ _ _ _ h
          simp only at g1 g2 g3
          exact ⟨by omega, by omega, by omega⟩
        · rename_i hc1
          obtain ⟨g1, g2, g3⟩ := ih _ _ _ _ _ _ _ hc1
          obtain ⟨f1, f2, f3⟩ := ih _ _ _ _ _ _ _ h
          simp only at g1 g2 g3
          exact ⟨by omega, by omega, by omega⟩
        · rename_i hc1
          obtain ⟨g1, g2, g3⟩ := ih _ _ _ _ _ _ _ hc1
          simp only at g1 g2 g3
          split at h
          · split at h
            · split at h
              · obtain ⟨f1, f2, f3⟩ := ih _ _ _ _ _ _ _ h
                exact ⟨by omega, by omega, by omega⟩
              · cases h
            · split at h
              · cases h; exact ⟨g1, g2, g3⟩
              · cases h
          · cases h
        · cases h
    · cases h
/-- an answer in its range, and short arrays -/
def zvok (v : Option zV) (S1 : zS) : Prop := (∀ w, v = some w → zok S1.1.length w) ∧ zshort S1
def zQc (D : va_G) (cA : Nat → ClassId) (ad : Int → Nat) (A : Nat → Prop) (S : zS) (v : Option zV) (S1 : zS) : Array Value → State → Outcome → State → Prop := fun _ st o t => ∃ ad', o = .returned (v.map (zval ad')) ∧ zag S.1.length ad ad' ∧ zrel D cA ad' A S1 t.heap ∧ va_F A st t ∧ zvok v S1
def zXC (D : va_G) (cA : Nat → ClassId) (ad : Int → Nat) (A : Nat → Prop) (S : zS) (E0 : String) (S1 : zS) : String → State → State → Prop := fun E st t => E = E0 ∧ ∃ ad', zag S.1.length ad ad' ∧ zrel D cA ad' A S1 t.heap ∧ va_F A st t ∧ zshort S1
def zPc (NW : List Cond) (TX : List (String × Nat × String)) (NC : List (String × String)) (D : va_G) (cA : Nat → ClassId) (ad : Int → Nat) (ro : zRo) (A : Nat → Prop) (S : zS) (as : List zV) : Array Value → State → Prop := va_Pc (as.map (zval ad)) (fun U => zSF NW TX NC D cA ad ro A U U.heap ∧ zrel D cA ad A S U.heap ∧ ∀ q, U.heap.size ≤ q → A q)
section
variable {p : Program} {l : Launch} {e : Env} {R : Room} {s : State} {m : MethodId} {args : Array Value} {below : List Frame} {meth : Method} {c : Code} {H : Heap} {locs : List Loc} {cells slots : Nat} {Q : State → Prop}
variable {cc : ByteArray} {pc mc ms : Nat} {lsC : Array Slot} {ad : Int → Nat} {rest st0 : List Value} {D : va_G} {cA : Nat → ClassId} {A : Nat → Prop} {S S1 : zS} {ro : zRo} {v : Option zV} {a : Array Value} {E : String}
variable {NW : List Cond} {TX : List (String × Nat × String)} {NC : List (String × String)}
theorem zPc_blind {as : List zV} : FrameBlind (zPc NW TX NC D cA ad ro A S as) := by
  intro a U g mk h
  obtain ⟨h1, h2, h3, h4⟩ := h
  have hW : U.WarmedH (U.calling g mk a).vm := State.WarmedH.refl U
  exact ⟨h1, zSF_moved (U := U.calling g mk a) h2 hW (Nat.le_refl _) (fun _ _ _ => rfl), h3, h4⟩
theorem zcall_ret (hr : va_Run p l e R s m args below meth c H locs cells slots mc ms (F0 m pc lsC st0) rest (zQc D cA ad A S v S1 a) A) (hS : va_S A s.heap H locs)
    (kk : ∀ ad' H1 locs1, zag S.1.length ad ad' → zrel D cA ad' A S1 H1 → va_S A s.heap H1 locs1 → zvok v S1 → W p l e R s m args below meth c H1 locs1 (cells + mc) (slots + ms) Q (F0 m (pc + 3) lsC ((v.map (zval ad')).toList ++ rest))) : W p l e R s m args below meth c H locs cells slots Q (F0 m pc lsC st0) := by
  intro T hT X
  obtain ⟨v', st₀, t, T', L, h0, X', hL, e1, e2, ⟨ad', ho, hag, hrel, ⟨hz, hk⟩, hvk⟩, st⟩ := hr T hT X
  cases ho
  rw [h0] at hz hk
  obtain ⟨t2, a1, b1⟩ := kk ad' T'.heap (locs ++ L) hag (by rw [e1]; exact hrel)
    ⟨Nat.le_trans hS.1 (by rw [e1]; exact hz), fun q h1 h2 => by rw [e1, hk q (Nat.lt_of_lt_of_le h1 hS.1) h2]; exact hS.2.1 q h1 h2, fun q hq => by
      rcases List.mem_append.mp hq with h | h
      · exact hS.2.2 q h
      · exact hL q h⟩ hvk T' rfl X'
  exact ⟨t2, st t2 a1, b1⟩
theorem zcall_thr (hr : vx_Run p l e R s m args below meth c H locs cells slots mc ms (F0 m pc lsC st0) rest (fun _ _ _ => False) (zXC D cA ad A S E S1) A) (hS : va_S A s.heap H locs)
    (kx : ∀ ad' H1 locs1 q ce, zag S.1.length ad ad' → zrel D cA ad' A S1 H1 → va_S A s.heap H1 locs1 → H1[q]? = some ce → ce.vm = .none → s.vm.findClass E = some ce.cls → zshort S1 → vx_W p l e R s m args below meth c H1 locs1 (cells + mc) (slots + ms) Q (F0 m pc lsC rest) q) : W p l e R s m args below meth c H locs cells slots Q (F0 m pc lsC st0) := by
  intro T hT X
  rcases hr T hT X with ⟨_, _, _, _, _, _, _, _, _, _, hf, _⟩ | ⟨q, st₀, t, T', L, E1, ce, h0, X', hL, e1, e2, ⟨rfl, ad', hag, hrel, ⟨hz, hk⟩, hsk⟩, hce, hcv, hcl, st⟩
  · exact hf.elim
  · rw [h0] at hz hk
    obtain ⟨t2, a1, b1⟩ := kx ad' T'.heap (locs ++ L) q ce hag (by rw [e1]; exact hrel)
      ⟨Nat.le_trans hS.1 (by rw [e1]; exact hz), fun q h1 h2 => by rw [e1, hk q (Nat.lt_of_lt_of_le h1 hS.1) h2]; exact hS.2.1 q h1 h2, fun q hq => by
        rcases List.mem_append.mp hq with h | h
        · exact hS.2.2 q h
        · exact hL q h⟩ (by rw [e1]; exact hce) hcv hcl hsk T' rfl X'
    exact ⟨t2, st.trans a1, b1⟩
theorem zWS_good {w : Cond} (h : w ∈ zWS) : w ∈ zWS ∧ ((w.onTables && w.keeps) = true ∨ ∃ ty, w = .arrayClass ty) := ⟨h, good_of_word (List.mem_filter.mp h).2⟩
theorem zgood {ws : List Cond} (h : ∀ w ∈ ws, w ∈ zWS) : GoodIn zWS ws := fun w hw => zWS_good (h w hw)
theorem zmet_of {y : MethodName} {ws : List Cond} {rm : Room} {Pc : Array Value → State → Prop} {Qc : Array Value → State → Outcome → State → Prop} {free : Addr → Prop} (h : vx_Met l y ws rm Pc Qc (fun _ _ _ => False) mc ms free) : Met l y ws rm Pc Qc mc ms free := by
  intro p e h1 h2 h3 s m args below h4 h5 h6 h7
  obtain ⟨n, o, a, b, c, d⟩ := h p e h1 h2 h3 s m args below h4 h5 h6 h7
  refine ⟨n, o, a, b, c, ?_⟩
  rcases d with d | ⟨q, _, E, ce, L, hx, _⟩
  · exact d
  · exact hx.elim
theorem zlv_args {vs : List Value} (hc : ∀ v ∈ vs, v.category = 1) : ∀ (i j : Nat) (v : Value), vs[j]? = some v → (i + j, v) ∈ lv_args i vs := by
  induction vs with
  | nil => intro i j v h; simp at h
  | cons w t ih =>
    intro i j v h
    have h1 : w.category = 1 := hc w List.mem_cons_self
    have e1 : lv_args i (w :: t) = (i, w) :: lv_args (i + 1) t := by show (i, w) :: lv_args (if w.category = 2 then i + 2 else i + 1) t = _; rw [if_neg (by omega)]
    rw [e1]
    cases j with
    | zero => simp at h; subst h; exact List.mem_cons_self
    | succ j =>
      simp at h
      have := ih (fun v hv => hc v (List.mem_cons_of_mem _ hv)) (i + 1) j v h
      rw [show i + (j + 1) = i + 1 + j by omega]
      exact List.mem_cons_of_mem _ this
theorem zlg_len {vs : List Value} (hc : ∀ v ∈ vs, v.category = 1) : (lg_sl vs).length = vs.length := by
  induction vs with
  | nil => rfl
  | cons w t ih =>
    have h1 : w.category = 1 := hc w List.mem_cons_self
    have ih := ih (fun v hv => hc v (List.mem_cons_of_mem _ hv))
    unfold lg_sl at ih ⊢
    rw [List.flatMap_cons, if_neg (by omega), List.length_append, ih]
    simp; omega
theorem zplain_cat {as : List zV} (h : as.all zplain = true) : ∀ v ∈ as.map (zval ad), v.category = 1 := by
  intro v hv
  obtain ⟨w, hw, rfl⟩ := List.mem_map.mp hv
  have := List.all_eq_true.mp h w hw
  unfold zplain at this
  rw [zcatv, if_neg]
  simp only [Bool.or_eq_true, beq_iff_eq] at this
  omega
theorem zentry {as : List zV} {n : Nat} (h : as.all zplain = true) (hn : as.length ≤ n) : lv_has ((lg_sl (as.map (zval ad)) ++ List.replicate (n - (lg_sl (as.map (zval ad))).length) Slot.unset).toArray) n (zlo ad (zargs n as)) := by
  have hc := zplain_cat (ad := ad) h
  refine zlo_sub (lv_entry (as.map (zval ad)) (n := n) (by rw [zlg_len hc]; simpa using hn)) (fun q hq => ?_)
  obtain ⟨w, h1, h2, h3⟩ := zlo_mem.mp hq
  unfold zargs at h1
  by_cases hl : q.1 < as.length
  · rw [List.getElem?_append_left hl] at h1
    have := zlv_args hc 0 q.1 (zval ad w) (by rw [List.getElem?_map, h1]; rfl)
    rw [Nat.zero_add, ← h3] at this
    exact this
  · rw [List.getElem?_append_right (by omega)] at h1
    have := List.mem_of_getElem? h1
    rw [List.mem_replicate] at this
    exact absurd (by rw [this.2]) h2
theorem zargs_len {as : List zV} {n : Nat} (hn : as.length ≤ n) : (zargs n as).length = n := by unfold zargs; simp; omega
theorem zargs_ok {as : List zV} {n k : Nat} (h : zoks k as) : zoks k (zargs n as) := by
  intro v hv
  rcases List.mem_append.mp hv with h1 | h1
  · exact h v h1
  · rw [(List.mem_replicate.mp h1).2]; trivial
end
end
section
/-! the whole machine follows the small one -/
/-- what the claim's words say of all tables -/
def zTab (NW : List Cond) (TX : List (String × Nat × String)) (NC : List (String × String)) : Prop :=
  (∀ c k v, zcon c k = some v → Cond.constant (zown c) k (Int32.ofInt v) ∈ zWS ∧ zi32 v) ∧
  (∀ c k, (zmth c k = 1 → Cond.methodLink (zown c) k Lib.Math.max.name ∈ zWS ∧ Cond.static Lib.Math.max.name ∈ zWS ∧ Cond.initialized "java/lang/Math" ∈ zWS ∧ Cond.code Lib.Math.max.name Lib.Math.max.code 2 (some .int) ∈ zWS) ∧
    (zmth c k = 2 → Cond.methodLink (zown c) k Lib.Math.min.name ∈ zWS ∧ Cond.static Lib.Math.min.name ∈ zWS ∧ Cond.initialized "java/lang/Math" ∈ zWS ∧ Cond.code Lib.Math.min.name Lib.Math.min.code 2 (some .int) ∈ zWS) ∧
    (zmth c k = 3 → Cond.methodLink (zown c) k Lib.objectInit ∈ zWS ∧ Cond.instanceMethod Lib.objectInit ∈ zWS ∧ Cond.code Lib.objectInit ⟨#[0xb1]⟩ 1 none ∈ zWS)) ∧
  (∀ c k f, zfld c k = some f → zfldP c k f) ∧ (∀ c k q, zcls c k = some q → zclsP c k q) ∧
  (∀ c k r, zstc c k = some r → r = -2 ∧ ∃ host, Cond.fieldLinkNest (zown c) k RX7 "FIRST_WEIGHTS" "[I" host ∈ NW) ∧
  (∀ c k, zref c k = true → Cond.classLink (zown c) k RX1 ∈ zWS) ∧
  (Cond.arrayClass .int ∈ zWS ∧ Cond.arrayClass .char ∈ zWS ∧ Cond.arrayClass .boolean ∈ zWS ∧ Cond.arrayClass .long ∈ zWS ∧ Cond.arrayClass .double ∈ zWS) ∧
  (∀ c k q, zcall c k = some q → zcallP NW c k q) ∧ (∀ c k E, zexn c k = some E → zexnP c k E) ∧ (∀ c k E, zxic c k = some E → zxicP NW c k E) ∧
  (∀ c k tx, zstr c k = some tx → (zown c, k, tx) ∈ TX) ∧ (∀ E ∈ zCA, Cond.castable E E ∈ NW) ∧ (∀ q ∈ zNC, q ∈ NC)
theorem zget_mem : ∀ {t : List (Nat × Instr × Nat)} {k : Nat} {q : Instr × Nat}, zget t k = some q → (k, q) ∈ t
  | [], _, _, h => by simp [zget] at h
  | x :: r, k, q, h => by
    unfold zget at h
    cases hb : Nat.beq x.1 k with
    | true =>
      rw [hb, cond_true] at h
      have e1 := Nat.eq_of_beq_eq_true hb
      cases h
      rw [← e1]
      exact List.mem_cons_self
    | false => rw [hb, cond_false] at h; exact List.mem_cons_of_mem _ (zget_mem h)
theorem zrel_heap {D : va_G} {cA : Nat → ClassId} {ad : Int → Nat} {A : Nat → Prop} {S : zS} {H H1 : Heap} (h : zrel D cA ad A S H) (hk : ∀ q : Nat, q < H.size → H1[q]? = H[q]?) : zrel D cA ad A S H1 := by
  unfold zrel at h ⊢
  exact ⟨h.1.kept (fun k q hq => hk _ (h.1 k q hq).lt), h.2.1, h.2.2⟩
theorem zrel_cnt {D : va_G} {cA : Nat → ClassId} {ad : Int → Nat} {A : Nat → Prop} {S : zS} {H : Heap} (h : zrel D cA ad A S H) (a b : Nat) : zrel D cA ad A (S.1, S.2.1, a, b) H := by
  unfold zrel at h ⊢
  have e : zws ad cA (S.1, S.2.1, a, b) = zws ad cA S := rfl
  rw [e]
  exact h
theorem zput_has0 {ad : Int → Nat} {ls : List zV} {lsC : Array Slot} {n i : Nat} {w : Value} (h : lv_has lsC n ((i, w) :: (zlo ad ls).filter (fun q => !(q.1 == i) && !(q.1 + 1 == i && q.2.category == 2)))) : lv_has lsC n (zlo ad (zput ls i (9, 0))) := by
  refine zlo_sub h (fun q hq => ?_)
  obtain ⟨w2, h1, h2, h3⟩ := zlo_mem.mp hq
  rcases zput_get h1 h2 with ⟨a, b⟩ | ⟨a, b, c⟩
  · exact absurd (by rw [b]) h2
  · refine List.mem_cons.mpr (Or.inr (List.mem_filter.mpr ⟨zlo_mem.mpr ⟨w2, b, h2, h3⟩, ?_⟩))
    rw [h3, zcatv]
    simp only [Bool.and_eq_true, Bool.not_eq_true', beq_eq_false_iff_ne, ne_eq, Bool.and_eq_false_iff]
    refine ⟨a, ?_⟩
    by_cases e : q.1 + 1 = i
    · right
      rw [if_neg (fun e2 => c ⟨e, e2⟩)]
      decide
    · exact Or.inl e
/-- what holds in a body -/
def zctx (A : Nat → Prop) (d : Nat) (M : zM) (p : Program) (l : Launch) (R : Room) (s : State) (m : MethodId) (args : Array Value) (meth : Method) (c : Code) : Prop :=
  p.tables.exec = Jvm.exec ∧ c.code = M.2.1 ∧ c.maxLocals = zMl M ∧ s.vm.findClass (zown (zMk M)) = some m.cls ∧ (∀ w ∈ zWS, w.before args s = true) ∧ c.exceptionTable.toList = tableOf (zMh M) ∧ meth.locks = false ∧ meth.sig.returnType = zMr M ∧ meth.name = M.1.name ∧ l.stackTraces = false ∧ (∀ q, s.heap.size ≤ q → A q) ∧ d + 10 ≤ R.frames ∧ 60 * d + 300 ≤ R.locals
theorem zwarm_tab {w : Cond} (h : zwarm w = true) : w.onTables = true := by
  unfold zwarm at h
  split at h <;> first | rfl | cases h
section
variable {NW : List Cond} {TX : List (String × Nat × String)} {NC : List (String × String)} (HT : zTab NW TX NC)
variable {p : Program} {l : Launch} {e : Env} {R : Room} {s : State} {m : MethodId} {args : Array Value} {below : List Frame} {meth : Method} {c : Code} {H : Heap} {locs : List Loc} {cells slots : Nat}
variable {pc mc ms d : Nat} {lsC : Array Slot} {ad : Int → Nat} {D : va_G} {cA : Nat → ClassId} {A : Nat → Prop} {S : zS} {ro : zRo} {M : zM} {ls st : List zV}
variable {Qc : Array Value → State → Outcome → State → Prop} {XC : String → State → State → Prop}
set_option maxHeartbeats 1000000 in
theorem zs_throw (HT : zTab NW TX NC) (hM : zM0 M) (C : zctx A d M p l R s m args meth c) (hSF : zSF NW TX NC D cA ad ro A s s.heap) (hrel : zrel D cA ad A S H) (hS : va_S A s.heap H locs) (hsz : lsC.size = zMl M) {q : Instr × Nat} (hq : zget (zMt M) pc = some q) {r : String × Nat × Nat × Nat × Bool} (hr : zthr (zexn (zMk M)) (zMt M) pc q.1 q.2 = some r)
    (h1 : (zstr (zMk M) r.2.2.1).isSome = true) (h2 : zxic (zMk M) r.2.2.2.1 = some r.1) (h3 : (zMh M).isEmpty = true) (h4 : st.length ≤ 50) (hcr : cells + 1 ≤ R.cells) (hsr : slots + 6 ≤ R.slots) (hc : cells + 1 ≤ mc) (hs : slots + 6 ≤ ms)
    (hX : ∀ t, zrel D cA ad A (S.1, S.2.1, S.2.2.1 + 1, S.2.2.2 + 6) t.heap → va_F A s t → XC r.1 s t) : W p l e R s m args below meth c H locs cells slots (vx_MQ below Qc XC args s mc ms A) (F0 m pc lsC (st.map (zval ad))) := by
  obtain ⟨hx, hb, hml, hown, hts, htab, hlk, hret, hnm, hl, hA, hfr, hlo⟩ := C
  have m4 : ∀ q ∈ zMt M, decode M.2.1 q.1 = .ok q.2 := hM
  obtain ⟨tx, htx⟩ := Option.isSome_iff_exists.mp h1
  obtain ⟨s1, s2, s3, s4, s5, s6, s7, s8, s9⟩ := hSF
  obtain ⟨T1, T2, T3, T4, T5, T6, T7, T8, T9, T10, T11, T12, T13⟩ := HT
  obtain ⟨Y, rn, ix, rx, n1, nY, n2, n3, ⟨x0, x1, x2, x5⟩, n4, n5⟩ := T10 _ _ _ h2
  obtain ⟨sa, hsa⟩ := s3 _ (T11 _ _ _ htx)
  have hat : ∀ w ∈ zx_at (zown (zMk M)) r.2.2.2.1 r.1 Y rn ix rx, w.before args s = true := fun w hw => by
    rcases (n5 w hw).2 with h | h
    · exact hts w h
    · exact va_Nw.use (zwarm_tab (s2 w h).1) (s2 w h).2
  have got : ∀ w, w ∈ zWS → vx_ot w = true := fun w hw => by unfold vx_ot; rw [(List.mem_filter.mp hw).2, Bool.or_true]
  have hout : ∀ pc' : Nat, ∀ x ∈ c.exceptionTable.toList, covers x pc' = false := by
    intro pc' x hx9
    rw [htab, List.isEmpty_iff.mp h3] at hx9
    cases hx9
  have hcat := zsumcat ad st
  have hxx : ∀ t : State, s.vm.Alike t.vm → H.size ≤ t.heap.size → (∀ q : Nat, q < H.size → t.heap[q]? = H[q]?) → XC r.1 s t := by
    intro t _ g1 g2
    refine hX t (zrel_cnt (zrel_heap hrel g2) _ _) ⟨Nat.le_trans hS.1 g1, fun q a1 a2 => ?_⟩
    rw [g2 q (Nat.lt_of_lt_of_le a1 hS.1)]
    exact hS.2.1 q a1 a2
  have dec : ∀ k i, zget (zMt M) k = some i → decode M.2.1 k = .ok i := fun k i hk => m4 (k, i) (zget_mem hk)
  unfold zthr at hr
  split at hr
  · rename_i xx k0 h0 h00
    split at hr
    · rename_i E hE
      have hkl := T9 _ _ _ hE
      split at hr
      · rename_i is0 g3 g4
        split at hr
        · rename_i ic0 g6 g9
          cases hr
          have e0 : decode M.2.1 pc = .ok (.new k0, 3) := by rw [dec _ _ hq]; exact congrArg _ (Prod.ext h0 h00)
          have e3 := dec _ _ g3
          have e4 := dec _ _ g4
          have e6 := dec _ _ g6
          have e9 := dec _ _ g9
          dsimp only at hsa hat n5 n1 n4 h2 hxx
          have hgood : ∀ w ∈ Cond.classLink (zown (zMk M)) k0 E :: Cond.initialized E :: zx_at (zown (zMk M)) ic0 E Y rn ix rx, vx_ot w = true := fun w hw => by
            rcases List.mem_cons.mp hw with rfl | hw
            · exact got _ hkl
            · rcases List.mem_cons.mp hw with rfl | hw
              · exact got _ n4
              · exact (n5 w hw).1
          have f1 : (rn.length + 1) + 3 < R.frames := by omega
          have f2 : ((st.map (zval ad)).map fun v => v.category).sum + (13 * ((rn.length + 1) + 1) + 43) ≤ R.locals := by omega
          refine zx_throw (YY := Y) (r := rn) (ix := ix) (rx := rx) (cls := E) (ik := k0) (is := is0) (ic := ic0) (text := tx) (sa := sa) (own := zown (zMk M)) hx hb hl hown n1 nY n2 x0 x1 x2 x5 (hts _ hkl) (hts _ n4) hsa hat hgood s5 s6 hS (by rw [hsz, hml]) e0 e3 e4 e6 e9 (hout _) f1 f2 hcr hsr hlk hxx (fun z hz => hS.2.2 z hz) hc hs
        · cases hr
      · rename_i is0 g3 g4
        split at hr
        · rename_i ic0 g6 g9
          cases hr
          have e0 : decode M.2.1 pc = .ok (.new k0, 3) := by rw [dec _ _ hq]; exact congrArg _ (Prod.ext h0 h00)
          have e3 := dec _ _ g3
          have e4 := dec _ _ g4
          have e6 := dec _ _ g6
          have e9 := dec _ _ g9
          dsimp only at hsa hat n5 n1 n4 h2 hxx
          have hgood : ∀ w ∈ Cond.classLink (zown (zMk M)) k0 E :: Cond.initialized E :: zx_at (zown (zMk M)) ic0 E Y rn ix rx, vx_ot w = true := fun w hw => by
            rcases List.mem_cons.mp hw with rfl | hw
            · exact got _ hkl
            · rcases List.mem_cons.mp hw with rfl | hw
              · exact got _ n4
              · exact (n5 w hw).1
          have f1 : (rn.length + 1) + 3 < R.frames := by omega
          have f2 : ((st.map (zval ad)).map fun v => v.category).sum + (13 * ((rn.length + 1) + 1) + 43) ≤ R.locals := by omega
          refine zx_throwW (YY := Y) (r := rn) (ix := ix) (rx := rx) (cls := E) (ik := k0) (is := is0) (ic := ic0) (text := tx) (sa := sa) (own := zown (zMk M)) hx hb hl hown n1 nY n2 x0 x1 x2 x5 (hts _ hkl) (hts _ n4) hsa hat hgood s5 s6 hS (by rw [hsz, hml]) e0 e3 e4 e6 e9 (hout _) f1 f2 hcr hsr hlk hxx (fun z hz => hS.2.2 z hz) hc hs
        · cases hr
      · cases hr
    · cases hr
  · cases hr
end
end
section
/-- the main statement, for fuel n: where the small machine comes to r, the machine comes to an end that r says -/
def zP (NW : List Cond) (TX : List (String × Nat × String)) (NC : List (String × String)) (ro : zRo) (n : Nat) : Prop :=
  ∀ (d : Nat) (M : zM), zM0 M → ∀ (pc : Nat) (ls st : List zV) (S : zS) (r : zR), zrun ro n d M pc ls st S = some r → ls.length = zMl M → zoks S.1.length ls → zoks S.1.length st → zshort S →
  ∀ (p : Program) (l : Launch) (e : Env) (R : Room) (s : State) (m : MethodId) (args : Array Value) (below : List Frame) (meth : Method) (c : Code) (A : Nat → Prop), zctx A d M p l R s m args meth c →
  ∀ (D : va_G) (cA : Nat → ClassId) (ad : Int → Nat), zSF NW TX NC D cA ad ro A s s.heap → ∀ (H : Heap) (locs : List Loc) (cells slots : Nat) (lsC : Array Slot), lv_has lsC (zMl M) (zlo ad ls) → zrel D cA ad A S H → va_S A s.heap H locs →
  ∀ (mc ms : Nat), cells + (r.2.2.2.1 - S.2.2.1) = mc → slots + (r.2.2.2.2 - S.2.2.2) = ms → mc ≤ R.cells → ms ≤ R.slots →
  ∀ (Qc : Array Value → State → Outcome → State → Prop) (XC : String → State → State → Prop),
  (∀ v, r.1 = .inl v → zvok v r.2 → ∀ ad' t, zag S.1.length ad ad' → zrel D cA ad' A r.2 t.heap → va_F A s t → Qc args s (.returned (v.map (zval ad'))) t) →
  (∀ E, r.1 = .inr E → zshort r.2 → ∀ ad' t, zag S.1.length ad ad' → zrel D cA ad' A r.2 t.heap → va_F A s t → XC E s t) →
  W p l e R s m args below meth c H locs cells slots (vx_MQ below Qc XC args s mc ms A) (F0 m pc lsC (st.map (zval ad)))
def zwords (M : zM) : List Cond := zcode M :: zWS
theorem zwords_good {M : zM} (h : zMP M) : ∀ w ∈ zwords M, w ∈ zWS := fun w hw => by
  rcases List.mem_cons.mp hw with rfl | hw
  · exact h.2.2.2.2.1
  · exact hw
theorem zagt {n k : Nat} {ad ad' ad'' : Int → Nat} (h1 : zag n ad ad') (h2 : zag k ad' ad'') (hnk : n ≤ k) : zag n ad ad'' := fun z hz => (h2 z (by omega)).trans (h1 z hz)
/-- a callee's contract -/
theorem zcallee {NW : List Cond} {TX : List (String × Nat × String)} {NC : List (String × String)} {ro : zRo} {n : Nat} (hP : zP NW TX NC ro n) {d : Nat} {M : zM} (hM : zMP M) {as : List zV} {S : zS} {r : zR} (hr : zrun ro n d M 0 (zargs (zMl M) as) [] S = some r) (hpl : as.all zplain = true) (hlen : as.length ≤ zMl M) (hok : zoks S.1.length as) (hsh : zshort S) (l : Launch) (hl : l.stackTraces = false) (D : va_G) (cA : Nat → ClassId) (ad : Int → Nat) (A : Nat → Prop) (mc ms : Nat) (hmc : r.2.2.2.1 - S.2.2.1 = mc) (hms : r.2.2.2.2 - S.2.2.2 = ms)
    (Qc : Array Value → State → Outcome → State → Prop) (XC : String → State → State → Prop) (hQ : ∀ v, r.1 = .inl v → ∀ a st o t, zQc D cA ad A S v r.2 a st o t → Qc a st o t) (hX : ∀ E, r.1 = .inr E → ∀ st t, zXC D cA ad A S E r.2 E st t → XC E st t) :
    vx_Met l M.1 (zwords M) (zroom d mc ms) (zPc NW TX NC D cA ad ro A S as) Qc XC mc ms A := by
  have hMM := hM
  obtain ⟨m1, m2, m3, m4, m5, m6, m7, m8⟩ := hM
  have body : ∀ p e s m args below meth c, p.tables.exec = Jvm.exec → c.code = M.2.1 → meth.sig.returnType = zMr M → (∀ w ∈ zwords M, w.before args s = true) → s.vm.findClass M.1.cls = some m.cls → meth.locks = false → meth.name = M.1.name → c.maxLocals = zMl M → c.exceptionTable.toList = tableOf (zMh M) → zPc NW TX NC D cA ad ro A S as args s →
      W p l e (zroom d mc ms) s m args below meth c s.heap [] 0 0 (vx_MQ below Qc XC args s mc ms A) (entryFrame m args (zMl M)) := by
    intro p e s m args below meth c hx hb hret hts hown hlk hnm hml htab hv
    obtain ⟨rfl, hSF, hrel, hA⟩ := hv
    rw [lg_entry_eq]
    have hl9 := zentry (ad := ad) hpl hlen
    have C : zctx A d M p l (zroom d mc ms) s m ((as.map (zval ad)).toArray) meth c := ⟨hx, hb, hml, by rw [← m1]; exact hown, fun w hw => hts w (List.mem_cons_of_mem _ hw), htab, hlk, hret, hnm, hl, hA, Nat.le_refl _, Nat.le_refl _⟩
    refine hP d M hMM.2.2.2.1 0 _ [] S r hr (zargs_len hlen) (zargs_ok hok) (fun v hv => by cases hv) hsh p l e _ s m _ below meth c A C D cA ad hSF s.heap [] 0 0 _ hl9 hrel va_S.rf mc ms (by omega) (by omega) (Nat.le_refl _) (Nat.le_refl _) Qc XC ?_ ?_
    · intro v hv hk ad' t g1 g2 g3
      exact hQ v hv _ _ _ _ ⟨ad', rfl, g1, g2, g3, hk⟩
    · intro E hE hk ad' t g1 g2 g3
      exact hX E hE _ _ ⟨rfl, ad', g1, g2, g3, hk⟩
  by_cases hh : (zMh M).isEmpty = true
  · have hw : zwords M = Cond.code M.1 M.2.1 (zMl M) (zMr M) :: zWS := by unfold zwords zcode; rw [if_pos hh]
    refine vx_ofW (cc := M.2.1) (maxL := zMl M) (ret := zMr M) m3 hw ?_
    intro p e s m args below meth c s₁ B hml htab hv
    refine body p e s m args below meth c B.exec B.bytes B.returns (atoms_spec (ws := zwords M) B.pre) (findClass_of_methodNamed B.named) B.notSynchronized (name_of_methodNamed B.named B.method).1 hml ?_ hv
    rw [List.isEmpty_iff.mp hh]
    show c.exceptionTable.toList = []
    exact List.eq_nil_iff_forall_not_mem.mpr htab
  · have hw : zwords M = Cond.codeWith M.1 M.2.1 (zMl M) (zMr M) (zMh M) :: zWS := by unfold zwords zcode; rw [if_neg hh]
    refine vx_ofWH (cc := M.2.1) (maxL := zMl M) (ret := zMr M) (hh := zMh M) m3 hw ?_
    intro p e s m args below meth c s₁ B hml hv
    have hts := atoms_spec (ws := zwords M) B.pre
    refine body p e s m args below meth c B.exec B.bytes B.returns hts (findClass_of_methodNamed B.named) B.notSynchronized (name_of_methodNamed B.named B.method).1 hml ?_ hv
    exact vx_table (x := M.1) B (hts _ (by rw [hw]; exact List.mem_cons_self))
section
variable {NW : List Cond} {TX : List (String × Nat × String)} {NC : List (String × String)}
variable {p : Program} {l : Launch} {e : Env} {R : Room} {s : State} {m : MethodId} {args : Array Value} {below : List Frame} {meth : Method} {c : Code} {H : Heap} {locs : List Loc} {cells slots : Nat}
variable {pc mc ms d : Nat} {lsC : Array Slot} {ad : Int → Nat} {D : va_G} {cA : Nat → ClassId} {A : Nat → Prop} {S : zS} {ro : zRo} {M : zM} {ls st : List zV}
variable {Qc : Array Value → State → Outcome → State → Prop} {XC : String → State → State → Prop}
theorem zend_ok {ret : Option FieldType} {i : Instr} {len k : Nat} {v : Option zV} (h : zend ret i len st = some v) (hos : zoks k st) : ∀ w, v = some w → zok k w := by
  intro w hw
  unfold zend at h
  repeat' split at h
  all_goals first
    | (cases h; cases hw; exact hos _ List.mem_cons_self)
    | (cases h; cases hw)
    | cases h
theorem zs_end (C : zctx A d M p l R s m args meth c) (hrel : zrel D cA ad A S H) (hS : va_S A s.heap H locs) {i : Instr} {len : Nat} {v : Option zV} (h : zend (zMr M) i len st = some v) (hd : decode M.2.1 pc = .ok (i, len)) (hos : zoks S.1.length st)
    (hQ : ∀ t, zrel D cA ad A S t.heap → va_F A s t → Qc args s (.returned (v.map (zval ad))) t) : W p l e R s m args below meth c H locs cells slots (vx_MQ below Qc XC args s cells slots A) (F0 m pc lsC (st.map (zval ad))) := by
  obtain ⟨hx, hb, hml, hown, hts, htab, hlk, hret, hnm, hl, hA, hfr, hlo⟩ := C
  have hq : ∀ t : State, t.heap = H → s.WarmedH t.vm → Qc args s (.returned (v.map (zval ad))) t := fun t ht _ => hQ t (by rw [ht]; exact hrel) (hS.F ht)
  unfold zend at h
  split at h
  · rename_i hr; cases h
    exact vx_ret (W.iret hx hb (by rw [hret, hr]) hq hS.2.2 hd hlk)
  · rename_i hr
    split at h
    · rename_i hv; cases h
      refine vx_ret (W.zret (ty := .boolean) hx hb (by rw [hret, hr]) ?_ hq hS.2.2 hd hlk)
      rcases hv with rfl | rfl <;> decide +kernel
    · cases h
  · rename_i v0 hr
    split at h
    · rename_i hv; cases h
      refine vx_ret (W.zret (ty := .char) hx hb (by rw [hret, hr]) ?_ hq hS.2.2 hd hlk)
      obtain ⟨n, rfl⟩ := Int.eq_ofNat_of_zero_le hv.1
      have e1 : Int32.ofInt (n : Int) = nI n := by rw [Int32.ofInt_eq_ofNat]; rfl
      rw [e1]
      exact (pk_charN (by omega)).1
    · cases h
  · rename_i hr; cases h
    exact vx_ret (W.lret hx hb (by rw [hret, hr]) hq hS.2.2 hd hlk)
  · rename_i hr; cases h
    exact vx_ret (W.fret hx hb (by rw [hret, hr]) hq hS.2.2 hd hlk)
  · rename_i hr; cases h
    exact vx_ret (W.dret hx hb (by rw [hret, hr]) hq hS.2.2 hd hlk)
  · rename_i hr; cases h
    exact vx_ret (W.aret hx hb (by rw [hret, hr]) (Or.inl ⟨_, rfl⟩) (by show va_rf _ = _ ∨ ∃ a, va_rf _ = _; exact va_rf_or _) hq hS.2.2 hd hlk)
  · rename_i hr; cases h
    exact vx_ret (W.vret hx hb (by rw [hret, hr]) hq hS.2.2 hd hlk)
  · cases h
/-- an exception of a callee that the table doesn't take -/
theorem zs_out (C : zctx A d M p l R s m args meth c) {E : String} {q : Nat} {ce : Cell} {rest : List Value} (hh : (zMh M).isEmpty = true) (hS : va_S A s.heap H locs) (hrel : zrel D cA ad A S H) (hcell : H[q]? = some ce) (hv : ce.vm = .none) (hcl : s.vm.findClass E = some ce.cls)
    (hX : ∀ t, zrel D cA ad A S t.heap → va_F A s t → XC E s t) : vx_W p l e R s m args below meth c H locs cells slots (vx_MQ below Qc XC args s cells slots A) (F0 m pc lsC rest) q := by
  obtain ⟨hx, hb, hml, hown, hts, htab, hlk, hret, hnm, hl, hA, hfr, hlo⟩ := C
  refine vx_out (fun x hx9 => ?_) hlk hcell hv hcl (fun t ht _ => hX t (by rw [ht]; exact hrel) (hS.F ht)) (fun z hz => hS.2.2 z hz) (Nat.le_refl _) (Nat.le_refl _)
  rw [htab, List.isEmpty_iff.mp hh] at hx9
  cases hx9
theorem zhand_spec {nm : Nat → Option String} {ca : List String} {nc : List (String × String)} {E : String} : ∀ {hh : List (Nat × Nat × Nat × Nat)} {h : Nat}, zhand nm ca nc pc E hh = some h → ∃ pre x suf, hh = pre ++ x :: suf ∧ (∀ z ∈ pre, ¬ (z.1 ≤ pc ∧ pc < z.2.1) ∨ (z.2.2.2 ≠ 0 ∧ ∃ N, nm z.2.2.2 = some N ∧ (E, N) ∈ nc)) ∧ (x.1 ≤ pc ∧ pc < x.2.1) ∧ x.2.2.2 ≠ 0 ∧ nm x.2.2.2 = some E ∧ E ∈ ca ∧ x.2.2.1 = h
  | [], h, hz => by simp [zhand] at hz
  | y :: r, h, hz => by
    unfold zhand at hz
    split at hz
    · rename_i h1
      split at hz
      · rename_i N hN
        split at hz
        · rename_i hNE
          split at hz
          · rename_i h2
            cases hz
            refine ⟨[], y, r, rfl, ?_, h1, h2.2, ?_, ?_, rfl⟩
            · intro z hz; cases hz
            · rw [hN, hNE]
            · simpa using h2.1
          · cases hz
        · split at hz
          · rename_i h2
            obtain ⟨pre, x, suf, a1, a2, a3⟩ := zhand_spec hz
            refine ⟨y :: pre, x, suf, by rw [a1]; rfl, fun z hz => ?_, a3⟩
            rcases List.mem_cons.mp hz with rfl | hz
            · exact Or.inr ⟨h2.2, N, hN, by simpa using h2.1⟩
            · exact a2 z hz
          · cases hz
      · cases hz
    · rename_i h1
      obtain ⟨pre, x, suf, a1, a2, a3⟩ := zhand_spec hz
      refine ⟨y :: pre, x, suf, by rw [a1]; rfl, fun z hz => ?_, a3⟩
      rcases List.mem_cons.mp hz with rfl | hz
      · exact Or.inl h1
      · exact a2 z hz
theorem zs_catch (HT : zTab NW TX NC) (hM : zM0 M) (C : zctx A d M p l R s m args meth c) (hSF : zSF NW TX NC D cA ad ro A s s.heap) {Q : State → Prop} {E : String} {q : Nat} {ce : Cell} {rest : List Value} {h : Nat} {r : Nat × List zV} (hh : zhand (zexn (zMk M)) zCA zNC pc E (zMh M) = some h) (hc : zcatch (zMt M) h ls = some r) (hL : lv_has lsC (zMl M) (zlo ad ls)) (hlen : ls.length = zMl M) (hcell : H[q]? = some ce) (hv : ce.vm = .none) (hcl : s.vm.findClass E = some ce.cls)
    (kk : ∀ lsC', lv_has lsC' (zMl M) (zlo ad r.2) → W p l e R s m args below meth c H locs cells slots Q (F0 m r.1 lsC' [])) : vx_W p l e R s m args below meth c H locs cells slots Q (F0 m pc lsC rest) q := by
  obtain ⟨hx, hb, hml, hown, hts, htab, hlk, hret, hnm, hl, hA, hfr, hlo⟩ := C
  have m4 : ∀ q ∈ zMt M, decode M.2.1 q.1 = .ok q.2 := hM
  obtain ⟨s1, s2, s3, s4, s5, s6, s7, s8, s9⟩ := hSF
  obtain ⟨T1, T2, T3, T4, T5, T6, T7, T8, T9, T10, T11, T12, T13⟩ := HT
  obtain ⟨pre, x, suf, a1, a2, a3, a4, a5, a6, a7⟩ := zhand_spec hh
  have mk : ∀ y : Nat × Nat × Nat × Nat, covers ⟨y.1, y.2.1, y.2.2.1, y.2.2.2⟩ pc = (decide (y.1 ≤ pc) && decide (pc < y.2.1)) := fun y => by first | rfl | simp [covers]
  refine vx_catch (own := zown (zMk M)) (name := E) (E := E) hown (tableOf pre) ⟨x.1, x.2.1, x.2.2.1, x.2.2.2⟩ (tableOf suf) (by rw [htab, a1]; simp [tableOf]) (fun z hz => ?_) (by rw [mk]; simp [a3]) a4 (hts _ (T9 _ _ _ a5)) (va_Nw.use (zwarm_tab (s2 _ (T12 _ a6)).1) (s2 _ (T12 _ a6)).2) hcell hv hcl ?_
  · obtain ⟨y, hy, rfl⟩ := List.mem_map.mp hz
    rcases a2 y hy with h | ⟨h0, N, hN, hNc⟩
    · left
      rw [mk]
      simp only [Bool.and_eq_false_iff, decide_eq_false_iff_not]
      omega
    · exact Or.inr ⟨h0, N, hts _ (T9 _ _ _ hN), s4 _ (T13 _ hNc)⟩
  · show W p l e R s m args below meth c H locs cells slots Q (F0 m x.2.2.1 lsC [.ref q])
    rw [a7]
    unfold zcatch at hc
    split at hc
    · rename_i k0 hk
      split at hc
      · rename_i hk2
        cases hc
        refine lv_astore_n hx hb (m4 (h, _) (zget_mem hk)) rfl hL (by rw [← hlen]; exact hk2) rfl (fun l' hl' => kk l' ?_)
        exact zput_has0 hl'
      · cases hc
    · rename_i k0 hk
      split at hc
      · rename_i hk2
        cases hc
        refine lv_astore hx hb (m4 (h, _) (zget_mem hk)) hL (by rw [← hlen]; exact hk2) rfl (fun l' hl' => kk l' ?_)
        exact zput_has0 hl'
      · cases hc
    · cases hc
end
end
section
section
variable {NW : List Cond} {TX : List (String × Nat × String)} {NC : List (String × String)}
variable {p : Program} {l : Launch} {e : Env} {R : Room} {s : State} {m : MethodId} {args : Array Value} {below : List Frame} {meth : Method} {c : Code} {H : Heap} {locs : List Loc} {cells slots : Nat}
variable {pc mc ms d n : Nat} {lsC : Array Slot} {ad : Int → Nat} {D : va_G} {cA : Nat → ClassId} {A : Nat → Prop} {S : zS} {ro : zRo} {M : zM} {ls st : List zV}
variable {Qc : Array Value → State → Outcome → State → Prop} {XC : String → State → State → Prop}
theorem zpool_of (HT : zTab NW TX NC) (C : zctx A d M p l R s m args meth c) (hSF : zSF NW TX NC D cA ad ro A s s.heap) (ck : Nat) : zpool ck args s A ad := by
  obtain ⟨hx, hb, hml, hown, hts, htab, hlk, hret, hnm, hl, hA, hfr, hlo⟩ := C
  obtain ⟨s1, s2, s3, s4, s5, s6, s7, s8, s9⟩ := hSF
  obtain ⟨T1, T2, T3, T4, T5, T6, T7, T8, T9, T10, T11, T12, T13⟩ := HT
  refine ⟨fun k f h => T3 _ _ _ h, fun k q h => T4 _ _ _ h, fun k r h => ?_, fun k h => hts _ (T6 _ _ h), s7, s8, T7⟩
  obtain ⟨h1, host, h2⟩ := T5 _ _ _ h
  exact ⟨h1, host, va_Nw.use (zwarm_tab (s2 _ h2).1) (s2 _ h2).2⟩
theorem zcl_own {c : Nat} {r : vw_C} (h : zcl[c]? = some r) : zown c = r.1 ∧ c < 9 := by
  have hc : c < 9 := (List.getElem?_eq_some_iff.mp h).1
  refine ⟨?_, hc⟩
  match c, hc, h with
  | 0, _, h => cases h; rfl
  | 1, _, h => cases h; rfl
  | 2, _, h => cases h; rfl
  | 3, _, h => cases h; rfl
  | 4, _, h => cases h; rfl
  | 5, _, h => cases h; rfl
  | 6, _, h => cases h; rfl
  | 7, _, h => cases h; rfl
  | 8, _, h => cases h; rfl
theorem zrecv_spec (hrel : zrel D cA ad A S H) (hK : va_K D zcl (ztys cA) s) {kd ck : Nat} {as : List zV} (h : zrecv S kd ck as = true) (hk : kd = 0 ∨ kd = 3 ∨ kd = 4) : ∃ (o : Int) (as' : List zV), as = (1, o) :: as' ∧ zval ad (1, o) = .ref (ad o) ∧ ∃ cell : Cell, H[ad o]? = some cell ∧ cell.vm.isStatics = false ∧ s.vm.findClass (zown ck) = some cell.cls := by
  unfold zrecv at h
  rw [show (kd == 0 || kd == 3 || kd == 4) = true by rcases hk with rfl | rfl | rfl <;> rfl, cond_true] at h
  split at h
  · rename_i o as'
    have key : ∃ (n : Nat) (e0 : zLE), o = (n : Int) ∧ S.1[n]? = some e0 ∧ e0.1 = 0 ∧ e0.2.1 = ck := by
      rcases Bool.or_eq_true _ _ |>.mp h with h | h
      · obtain ⟨n, hn⟩ := Option.isSome_iff_exists.mp h
        obtain ⟨e0, a1, a2, a3, a4, a5⟩ := zobj_spec hn
        exact ⟨n, e0, a1, a2, a3, a4⟩
      · simp only [Bool.and_eq_true, decide_eq_true_eq] at h
        obtain ⟨h0, h⟩ := h
        split at h
        · rename_i e0 he
          simp only [Bool.and_eq_true, beq_iff_eq] at h
          exact ⟨o.toNat, e0, (Int.toNat_of_nonneg h0).symm, he, h.1, h.2⟩
        · cases h
    obtain ⟨n, e0, rfl, a2, a3, a4⟩ := key
    have hw := zws_at (ad := ad) (cA := cA) a2
    rw [zent0 a3, a4] at hw
    obtain ⟨r, hr, -⟩ := hrel.1 n _ hw
    obtain ⟨c1, c2, c3⟩ := va_recv hK hrel.1 hr hw
    exact ⟨n, as', rfl, zval1 ad n, c1, c2, c3.1, by rw [(zcl_own hr).1]; exact c3.2⟩
  · cases h
theorem ztake_split {st : List zV} {na : Nat} {as' : List zV} {o : Int} (h : (st.take na).reverse = (1, o) :: as') : st.map (zval ad) = (as'.map (zval ad)).reverse ++ (zval ad (1, o) :: (st.drop na).map (zval ad)) := by
  have h1 : st.take na = ((1, o) :: as').reverse := by rw [← h, List.reverse_reverse]
  have h2 : st.map (zval ad) = (st.take na).map (zval ad) ++ (st.drop na).map (zval ad) := by rw [← List.map_append, List.take_append_drop]
  rw [h2, h1]
  simp
theorem ztake_split0 {st : List zV} {na : Nat} : st.map (zval ad) = ((((st.take na).reverse).map (zval ad)).reverse ++ (st.drop na).map (zval ad)) := by
  rw [List.map_reverse, List.reverse_reverse, ← List.map_append, List.take_append_drop]
theorem zrest8 {rest : List zV} (h : rest.all zplain = true) (hl : rest.length ≤ 8) : ((rest.map (zval ad)).map fun v => v.category).sum ≤ 8 := by
  have : ((rest.map (zval ad)).map fun v => v.category).sum = rest.length := by
    have hc := zplain_cat (ad := ad) h
    clear hl h
    induction rest with
    | nil => rfl
    | cons v t ih =>
      simp only [List.map_cons, List.sum_cons, List.length_cons]
      rw [hc _ (by simp), ih (fun w hw => hc w (by simp only [List.map_cons]; exact List.mem_cons_of_mem _ hw))]
      omega
  omega
set_option maxRecDepth 20000 in
theorem zroom_a {x d k : Nat} (h : 60 * (d + 1) + 300 ≤ x) (hk : k ≤ 30) : 8 + (k + 11) + (60 * d + 300) ≤ x := by
  rw [Nat.mul_succ] at h
  generalize 60 * d = z at h ⊢
  omega
theorem zroom_b {y d : Nat} (h : d + 1 + 10 ≤ y) : d + 10 + 1 ≤ y := by omega
theorem zroom_ok {R : Room} {d mc ms : Nat} (hfr : d + 1 + 10 ≤ R.frames) (hlo : 60 * (d + 1) + 300 ≤ R.locals) : (zroom d mc ms).frames + 1 ≤ R.frames ∧ ∀ k, k ≤ 30 → 8 + (k + 11) + (zroom d mc ms).locals ≤ R.locals := ⟨zroom_b hfr, fun k hk => zroom_a hlo hk⟩
/-- a call whose callee comes back -/
theorem zs_call (HT : zTab NW TX NC) (hP : zP NW TX NC ro n) (hM : zM0 M) (C : zctx A (d + 1) M p l R s m args meth c) (hSF : zSF NW TX NC D cA ad ro A s s.heap) (hL : lsC.size = zMl M) (hrel : zrel D cA ad A S H) (hS : va_S A s.heap H locs) (hos : zoks S.1.length st) (hsh : zshort S) {i : Instr} {len : Nat} {r : Nat × Nat × zM} (hi : zinv (zMk M) i len = some r) (hd : decode M.2.1 pc = .ok (i, len))
    (h1 : r.2.1 ≤ st.length) (h2 : (st.take r.2.1).all zplain = true) (h3 : r.2.1 ≤ zMl r.2.2) (h4 : (st.drop r.2.1).all zplain = true) (h5 : (st.drop r.2.1).length ≤ 8) (h6 : zrecv S r.1 (zMk r.2.2) (st.take r.2.1).reverse = true)
    {v : Option zV} {S1 : zS} (hr : zrun ro n d r.2.2 0 (zargs (zMl r.2.2) (st.take r.2.1).reverse) [] S = some (.inl v, S1)) {Q : State → Prop} (hcr : cells + (S1.2.2.1 - S.2.2.1) ≤ R.cells) (hsr : slots + (S1.2.2.2 - S.2.2.2) ≤ R.slots)
    (kk : ∀ ad' H1 locs1, zag S.1.length ad ad' → zrel D cA ad' A S1 H1 → va_S A s.heap H1 locs1 → zvok v S1 → W p l e R s m args below meth c H1 locs1 (cells + (S1.2.2.1 - S.2.2.1)) (slots + (S1.2.2.2 - S.2.2.2)) Q (F0 m (pc + 3) lsC ((v.map (zval ad')).toList ++ (st.drop r.2.1).map (zval ad)))) : W p l e R s m args below meth c H locs cells slots Q (F0 m pc lsC (st.map (zval ad))) := by
  have CC := C
  obtain ⟨hx, hb, hml, hown, hts, htab, hlk, hret, hnm, hl, hA, hfr, hlo⟩ := C
  have hSF' := hSF
  obtain ⟨s1, s2, s3, s4, s5, s6, s7, s8, s9⟩ := hSF
  have HT' := HT
  obtain ⟨T1, T2, T3, T4, T5, T6, T7, T8, T9, T10, T11, T12, T13⟩ := HT
  have hpl : ((st.take r.2.1).reverse).all zplain = true := by rw [List.all_reverse]; exact h2
  have hlen9 : ((st.take r.2.1).reverse).length = r.2.1 := by rw [List.length_reverse, List.length_take]; omega
  have hoka : zoks S.1.length (st.take r.2.1).reverse := fun v hv => hos v (List.mem_of_mem_take (List.mem_reverse.mp hv))
  have met : zMP r.2.2 → Met l r.2.2.1 (zwords r.2.2) (zroom d (S1.2.2.1 - S.2.2.1) (S1.2.2.2 - S.2.2.2)) (zPc NW TX NC D cA ad ro A S (st.take r.2.1).reverse) (zQc D cA ad A S v S1) (S1.2.2.1 - S.2.2.1) (S1.2.2.2 - S.2.2.2) A := fun hM' =>
    zmet_of (zcallee hP hM' hr hpl (by omega) hoka hsh l hl D cA ad A _ _ rfl rfl _ _ (fun v' hv a st o t h => by cases hv; exact h) (fun E hE => by cases hE))
  have hPc : ∀ U : State, U.heap = H → s.WarmedH U.vm → zPc NW TX NC D cA ad ro A S (st.take r.2.1).reverse (((st.take r.2.1).reverse.map (zval ad)).toArray) U := fun U hU hW => by
    refine ⟨rfl, ?_, by rw [hU]; exact hrel, fun q hq => hA q (by rw [hU] at hq; exact Nat.le_trans hS.1 hq)⟩
    rw [hU]
    exact zSF_moved hSF' hW hS.1 hS.2.1
  have rm : (zroom d (S1.2.2.1 - S.2.2.1) (S1.2.2.2 - S.2.2.2)).frames + 1 ≤ R.frames ∧ ∀ k, k ≤ 30 → 8 + (k + 11) + (zroom d (S1.2.2.1 - S.2.2.1) (S1.2.2.2 - S.2.2.2)).locals ≤ R.locals := zroom_ok hfr hlo
  have F : CallFix p m c M.2.1 (zMl M) s args zWS (zown (zMk M)) := ⟨hx, hb, hml, hown, hts⟩
  have hroom : 2 * (F0 m pc lsC (st.map (zval ad))).monitorRoom + (((st.drop r.2.1).map (zval ad)).map fun v => v.category).sum ≤ 8 := lv_room (zrest8 h4 h5)
  have wcode : ∀ h : (zMh r.2.2).isEmpty = true, zwords r.2.2 = Cond.code r.2.2.1 r.2.2.2.1 (zMl r.2.2) (zMr r.2.2) :: zWS := fun h => by unfold zwords zcode; rw [if_pos h]
  unfold zinv at hi
  split at hi
  · rename_i k0
    split at hi
    · rename_i q0 hq0
      split at hi
      · rename_i hk0
        cases hi
        obtain ⟨hM', np, hnp, hcase⟩ := T8 _ _ _ hq0
        have hMM := hM'
        obtain ⟨m1, m2, m3, m4, m5, m6, m7, m8⟩ := hM'
        rcases hcase with ⟨g0, g1, g2, g3, g4, g5⟩ | ⟨g0, -⟩ | ⟨g0, -⟩ | ⟨g0, -⟩ | ⟨g0, -⟩ | ⟨g0, -⟩
        · obtain ⟨o, as', e1, e2, cell, f1, f2, f3⟩ := zrecv_spec hrel s1 h6 (Or.inl g0)
          refine zcall_ret (mc := S1.2.2.1 - S.2.2.1) (ms := S1.2.2.2 - S.2.2.2) (rest := (st.drop r.2.1).map (zval ad)) (va_runV (b := ad o) (As := as'.map (zval ad)) (C := r.2.2.1.cls) F (met hMM)
            (cwV np hts (zgood (fun w hw => ?_)) (wcode g2) rfl rfl ⟨rfl, m7.1, m7.2, hnp⟩ ⟨rm.1, rm.2 _ m8⟩) ⟨zPc_blind, ⟨cell, f1, f2, by rw [m1]; exact f3⟩, fun U hU hW => ?_⟩ rfl ?_ hL ?_ hroom hd ⟨hcr, hsr⟩) hS kk
          · unfold wsV at hw
            rcases List.mem_append.mp hw with hw | hw
            · simp only [List.mem_cons, List.not_mem_nil, or_false] at hw
              rcases hw with rfl | rfl | rfl | rfl <;> assumption
            · exact zwords_good hMM w hw
          · have := hPc U hU hW
            rw [e1, List.map_cons, e2] at this
            rw [e1]
            exact this
          · have := congrArg List.length e1
            rw [hlen9] at this
            simp only [List.length_map, List.length_cons] at this ⊢
            omega
          · show st.map (zval ad) = _
            rw [ztake_split e1, e2]
        all_goals omega
      · cases hi
    · cases hi
  · rename_i k0
    split at hi
    · rename_i q0 hq0
      split at hi
      · rename_i hk0
        cases hi
        obtain ⟨hM', np, hnp, hcase⟩ := T8 _ _ _ hq0
        have hMM := hM'
        obtain ⟨m1, m2, m3, m4, m5, m6, m7, m8⟩ := hM'
        rcases hcase with ⟨g0, -⟩ | ⟨g0, g1, g2, g3, g4, g5⟩ | ⟨g0, g1, g2, ⟨host, g3⟩, g4⟩ | ⟨g0, -⟩ | ⟨g0, -⟩ | ⟨g0, g1, g2, g3, g4, g5⟩
        · omega
        · refine zcall_ret (mc := S1.2.2.1 - S.2.2.1) (ms := S1.2.2.2 - S.2.2.2) (rest := (st.drop r.2.1).map (zval ad)) (va_runS (As := (st.take r.2.1).reverse.map (zval ad)) F (met hMM)
            (cwS np hts (zgood (fun w hw => ?_)) (wcode g2) rfl rfl ⟨g3.symm, m7.1, m7.2, hnp⟩ ⟨rm.1, rm.2 _ m8⟩) ⟨zPc_blind, hPc⟩ rfl (by rw [List.length_map, hlen9]; exact g1) hL ztake_split0 hroom hd ⟨hcr, hsr⟩) hS kk
          unfold wsS at hw
          rcases List.mem_append.mp hw with hw | hw
          · simp only [List.mem_cons, List.not_mem_nil, or_false] at hw
            rcases hw with rfl | rfl | rfl
            · exact g4
            · exact g5
            · rw [g3]; exact m6
          · exact zwords_good hMM w hw
        · refine zcall_ret (mc := S1.2.2.1 - S.2.2.1) (ms := S1.2.2.2 - S.2.2.2) (rest := (st.drop r.2.1).map (zval ad)) (va_runSN (As := (st.take r.2.1).reverse.map (zval ad)) F (met hMM)
            ⟨va_cnB np hts (zgood (zwords_good hMM)) (wcode g2) rfl rfl (s2 _ g3).2 (hts _ m6) ⟨m7.1, m7.2, hnp⟩ ⟨rm.1, rm.2 _ m8⟩, hts _ g4, trivial⟩ ⟨zPc_blind, hPc⟩ rfl (by rw [List.length_map, hlen9]; exact g1) hL ztake_split0 hroom hd ⟨hcr, hsr⟩) hS kk
        · omega
        · omega
        · have wc : zwords r.2.2 = Cond.codeWith r.2.2.1 r.2.2.2.1 (zMl r.2.2) (zMr r.2.2) (zMh r.2.2) :: zWS := by unfold zwords zcode; rw [if_neg (by rw [g2]; decide)]
          refine zcall_ret (mc := S1.2.2.1 - S.2.2.1) (ms := S1.2.2.2 - S.2.2.2) (rest := (st.drop r.2.1).map (zval ad)) (vx_runSW (As := (st.take r.2.1).reverse.map (zval ad)) F (met hMM)
            (vx_cwSW np hts (zgood (fun w hw => ?_)) wc rfl rfl ⟨m7.1, m7.2, hnp⟩ ⟨rm.1, rm.2 _ m8⟩) ⟨zPc_blind, hPc⟩ rfl (by rw [List.length_map, hlen9]; exact g1) hL ztake_split0 hroom hd ⟨hcr, hsr⟩) hS kk
          unfold va_wsS at hw
          rcases List.mem_append.mp hw with hw | hw
          · simp only [List.mem_cons, List.not_mem_nil, or_false] at hw
            rcases hw with rfl | rfl | rfl
            · exact g4
            · exact g5
            · exact m6
          · exact zwords_good hMM w hw
      · cases hi
    · cases hi
  · rename_i k0
    split at hi
    · rename_i q0 hq0
      split at hi
      · rename_i hk0
        cases hi
        obtain ⟨hM', np, hnp, hcase⟩ := T8 _ _ _ hq0
        have hMM := hM'
        obtain ⟨m1, m2, m3, m4, m5, m6, m7, m8⟩ := hM'
        rcases hcase with ⟨g0, -⟩ | ⟨g0, -⟩ | ⟨g0, -⟩ | ⟨g0, g1, g2, g3, g4, g5, g6⟩ | ⟨g0, g1, g2, g3, g4, ⟨host, g5⟩, g6⟩ | ⟨g0, -⟩
        · omega
        · omega
        · omega
        · obtain ⟨o, as', e1, e2, cell, f1, f2, f3⟩ := zrecv_spec hrel s1 h6 (Or.inr (Or.inl g0))
          have wc := wcode g2
          rw [g4] at wc
          refine zcall_ret (mc := S1.2.2.1 - S.2.2.1) (ms := S1.2.2.2 - S.2.2.2) (rest := (st.drop r.2.1).map (zval ad)) (va_runI (b := ad o) (As := as'.map (zval ad)) F (met hMM)
            (cwI np hts (zgood (zwords_good hMM)) wc rfl rfl (hts _ m6) (hts _ g5) (hts _ g6) g3 ⟨m7.1, m7.2, hnp⟩ ⟨rm.1, rm.2 _ m8⟩) ⟨zPc_blind, fun U hU hW => ?_⟩ rfl ?_ hL ?_ hroom hd ⟨hcr, hsr⟩) hS kk
          · have := hPc U hU hW
            rw [e1, List.map_cons, e2] at this
            rw [e1]
            exact this
          · have := congrArg List.length e1
            rw [hlen9] at this
            simp only [List.length_map, List.length_cons] at this ⊢
            omega
          · show st.map (zval ad) = _
            rw [ztake_split e1, e2]
        · obtain ⟨o, as', e1, e2, cell, f1, f2, f3⟩ := zrecv_spec hrel s1 h6 (Or.inr (Or.inr g0))
          have wc := wcode g2
          rw [g4] at wc
          refine zcall_ret (mc := S1.2.2.1 - S.2.2.1) (ms := S1.2.2.2 - S.2.2.2) (rest := (st.drop r.2.1).map (zval ad)) (va_runIN (b := ad o) (As := as'.map (zval ad)) F (met hMM)
            ⟨va_cnB np hts (zgood (zwords_good hMM)) wc rfl rfl (s2 _ g5).2 (hts _ m6) ⟨m7.1, m7.2, hnp⟩ ⟨rm.1, rm.2 _ m8⟩, g3, hts _ g6⟩ ⟨zPc_blind, fun U hU hW => ?_⟩ rfl ?_ hL ?_ hroom hd ⟨hcr, hsr⟩) hS kk
          · have := hPc U hU hW
            rw [e1, List.map_cons, e2] at this
            rw [e1]
            exact this
          · have := congrArg List.length e1
            rw [hlen9] at this
            simp only [List.length_map, List.length_cons] at this ⊢
            omega
          · show st.map (zval ad) = _
            rw [ztake_split e1, e2]
        · omega
      · cases hi
    · cases hi
  · cases hi
end

section
variable {NW : List Cond} {TX : List (String × Nat × String)} {NC : List (String × String)}
variable {p : Program} {l : Launch} {e : Env} {R : Room} {s : State} {m : MethodId} {args : Array Value} {below : List Frame} {meth : Method} {c : Code} {H : Heap} {locs : List Loc} {cells slots : Nat}
variable {pc mc ms d n : Nat} {lsC : Array Slot} {ad : Int → Nat} {D : va_G} {cA : Nat → ClassId} {A : Nat → Prop} {S : zS} {ro : zRo} {M : zM} {ls st : List zV}
/-- a call whose callee throws -/
theorem zs_callx (HT : zTab NW TX NC) (hP : zP NW TX NC ro n) (hM : zM0 M) (C : zctx A (d + 1) M p l R s m args meth c) (hSF : zSF NW TX NC D cA ad ro A s s.heap) (hL : lsC.size = zMl M) (hrel : zrel D cA ad A S H) (hS : va_S A s.heap H locs) (hos : zoks S.1.length st) (hsh : zshort S) {i : Instr} {len : Nat} {r : Nat × Nat × zM} (hi : zinv (zMk M) i len = some r) (hd : decode M.2.1 pc = .ok (i, len))
    (h1 : r.2.1 ≤ st.length) (h2 : (st.take r.2.1).all zplain = true) (h3 : r.2.1 ≤ zMl r.2.2) (h4 : (st.drop r.2.1).all zplain = true) (h5 : (st.drop r.2.1).length ≤ 8) (h6 : zrecv S r.1 (zMk r.2.2) (st.take r.2.1).reverse = true) (hkd : r.1 = 0 ∨ r.1 = 1)
    {E : String} {S1 : zS} (hr : zrun ro n d r.2.2 0 (zargs (zMl r.2.2) (st.take r.2.1).reverse) [] S = some (.inr E, S1)) {Q : State → Prop} (hcr : cells + (S1.2.2.1 - S.2.2.1) ≤ R.cells) (hsr : slots + (S1.2.2.2 - S.2.2.2) ≤ R.slots)
    (kx : ∀ ad' H1 locs1 q ce, zag S.1.length ad ad' → zrel D cA ad' A S1 H1 → va_S A s.heap H1 locs1 → H1[q]? = some ce → ce.vm = .none → s.vm.findClass E = some ce.cls → zshort S1 → vx_W p l e R s m args below meth c H1 locs1 (cells + (S1.2.2.1 - S.2.2.1)) (slots + (S1.2.2.2 - S.2.2.2)) Q (F0 m pc lsC ((st.drop r.2.1).map (zval ad))) q) : W p l e R s m args below meth c H locs cells slots Q (F0 m pc lsC (st.map (zval ad))) := by
  obtain ⟨hx, hb, hml, hown, hts, htab, hlk, hret, hnm, hl, hA, hfr, hlo⟩ := C
  have hSF' := hSF
  obtain ⟨s1, s2, s3, s4, s5, s6, s7, s8, s9⟩ := hSF
  obtain ⟨T1, T2, T3, T4, T5, T6, T7, T8, T9, T10, T11, T12, T13⟩ := HT
  have hpl : ((st.take r.2.1).reverse).all zplain = true := by rw [List.all_reverse]; exact h2
  have hlen9 : ((st.take r.2.1).reverse).length = r.2.1 := by rw [List.length_reverse, List.length_take]; omega
  have hoka : zoks S.1.length (st.take r.2.1).reverse := fun v hv => hos v (List.mem_of_mem_take (List.mem_reverse.mp hv))
  have met : zMP r.2.2 → vx_Met l r.2.2.1 (zwords r.2.2) (zroom d (S1.2.2.1 - S.2.2.1) (S1.2.2.2 - S.2.2.2)) (zPc NW TX NC D cA ad ro A S (st.take r.2.1).reverse) (fun _ _ _ _ => False) (zXC D cA ad A S E S1) (S1.2.2.1 - S.2.2.1) (S1.2.2.2 - S.2.2.2) A := fun hM' =>
    zcallee hP hM' hr hpl (by omega) hoka hsh l hl D cA ad A _ _ rfl rfl _ _ (fun v' hv => by cases hv) (fun E' hE st t h => by cases hE; exact h)
  have hPc : ∀ U : State, U.heap = H → s.WarmedH U.vm → zPc NW TX NC D cA ad ro A S (st.take r.2.1).reverse (((st.take r.2.1).reverse.map (zval ad)).toArray) U := fun U hU hW => by
    refine ⟨rfl, ?_, by rw [hU]; exact hrel, fun q hq => hA q (by rw [hU] at hq; exact Nat.le_trans hS.1 hq)⟩
    rw [hU]
    exact zSF_moved hSF' hW hS.1 hS.2.1
  have rm := zroom_ok (mc := S1.2.2.1 - S.2.2.1) (ms := S1.2.2.2 - S.2.2.2) hfr hlo
  have F : CallFix p m c M.2.1 (zMl M) s args zWS (zown (zMk M)) := ⟨hx, hb, hml, hown, hts⟩
  have hroom : 2 * (F0 m pc lsC (st.map (zval ad))).monitorRoom + (((st.drop r.2.1).map (zval ad)).map fun v => v.category).sum ≤ 8 := lv_room (zrest8 h4 h5)
  have wcode : ∀ h : (zMh r.2.2).isEmpty = true, zwords r.2.2 = Cond.code r.2.2.1 r.2.2.2.1 (zMl r.2.2) (zMr r.2.2) :: zWS := fun h => by unfold zwords zcode; rw [if_pos h]
  unfold zinv at hi
  split at hi
  · rename_i k0
    split at hi
    · rename_i q0 hq0
      split at hi
      · rename_i hk0
        cases hi
        obtain ⟨hM', np, hnp, hcase⟩ := T8 _ _ _ hq0
        have hMM := hM'
        obtain ⟨m1, m2, m3, m4, m5, m6, m7, m8⟩ := hM'
        rcases hcase with ⟨g0, g1, g2, g3, g4, g5⟩ | ⟨g0, -⟩ | ⟨g0, -⟩ | ⟨g0, -⟩ | ⟨g0, -⟩ | ⟨g0, -⟩
        · obtain ⟨o, as', e1, e2, cell, f1, f2, f3⟩ := zrecv_spec hrel s1 h6 (Or.inl g0)
          refine zcall_thr (mc := S1.2.2.1 - S.2.2.1) (ms := S1.2.2.2 - S.2.2.2) (rest := (st.drop r.2.1).map (zval ad)) (vx_runV (b := ad o) (As := as'.map (zval ad)) (C := r.2.2.1.cls) F (met hMM)
            (cwV np hts (zgood (fun w hw => ?_)) (wcode g2) rfl rfl ⟨rfl, m7.1, m7.2, hnp⟩ ⟨rm.1, rm.2 _ m8⟩) ⟨zPc_blind, ⟨cell, f1, f2, by rw [m1]; exact f3⟩, fun U hU hW => ?_⟩ rfl ?_ hL ?_ hroom hd ⟨hcr, hsr⟩) hS kx
          · unfold wsV at hw
            rcases List.mem_append.mp hw with hw | hw
            · simp only [List.mem_cons, List.not_mem_nil, or_false] at hw
              rcases hw with rfl | rfl | rfl | rfl <;> assumption
            · exact zwords_good hMM w hw
          · have := hPc U hU hW
            rw [e1, List.map_cons, e2] at this
            rw [e1]
            exact this
          · have := congrArg List.length e1
            rw [hlen9] at this
            simp only [List.length_map, List.length_cons] at this ⊢
            omega
          · show st.map (zval ad) = _
            rw [ztake_split e1, e2]
        all_goals omega
      · cases hi
    · cases hi
  · rename_i k0
    split at hi
    · rename_i q0 hq0
      split at hi
      · rename_i hk0
        cases hi
        obtain ⟨hM', np, hnp, hcase⟩ := T8 _ _ _ hq0
        have hMM := hM'
        obtain ⟨m1, m2, m3, m4, m5, m6, m7, m8⟩ := hM'
        rcases hcase with ⟨g0, -⟩ | ⟨g0, g1, g2, g3, g4, g5⟩ | ⟨g0, -⟩ | ⟨g0, -⟩ | ⟨g0, -⟩ | ⟨g0, -⟩
        · omega
        · refine zcall_thr (mc := S1.2.2.1 - S.2.2.1) (ms := S1.2.2.2 - S.2.2.2) (rest := (st.drop r.2.1).map (zval ad)) (vx_runS (As := (st.take r.2.1).reverse.map (zval ad)) F (met hMM)
            (cwS np hts (zgood (fun w hw => ?_)) (wcode g2) rfl rfl ⟨g3.symm, m7.1, m7.2, hnp⟩ ⟨rm.1, rm.2 _ m8⟩) ⟨zPc_blind, hPc⟩ rfl (by rw [List.length_map, hlen9]; exact g1) hL ztake_split0 hroom hd ⟨hcr, hsr⟩) hS kx
          unfold wsS at hw
          rcases List.mem_append.mp hw with hw | hw
          · simp only [List.mem_cons, List.not_mem_nil, or_false] at hw
            rcases hw with rfl | rfl | rfl
            · exact g4
            · exact g5
            · rw [g3]; exact m6
          · exact zwords_good hMM w hw
        all_goals omega
      · cases hi
    · cases hi
  · rename_i k0
    split at hi
    · split at hi
      · rename_i hk0
        cases hi
        omega
      · cases hi
    · cases hi
  · cases hi
end
end
section
/-! small things that the main proof needs -/
theorem zstore_len {i : Instr} {len : Nat} {ls st : List zV} {r : List zV × List zV} (h : zstore i len ls st = some r) : r.1.length = ls.length := by
  unfold zstore at h
  repeat' split at h
  all_goals first
    | (cases h; simp only [zput_len, zput2_len])
    | cases h
theorem zcatch_len {t : List (Nat × Instr × Nat)} {h : Nat} {ls : List zV} {r : Nat × List zV} (hc : zcatch t h ls = some r) : r.2.length = ls.length := by
  unfold zcatch at hc
  repeat' split at hc
  all_goals first
    | (cases hc; simp only [zput_len])
    | cases hc
theorem zcatch_ok {t : List (Nat × Instr × Nat)} {h n : Nat} {ls : List zV} {r : Nat × List zV} (hc : zcatch t h ls = some r) (hok : zoks n ls) : zoks n r.2 := by
  unfold zcatch at hc
  repeat' split at hc
  all_goals first
    | (cases hc; exact zoks_put hok trivial)
    | cases hc
theorem zsim {NW : List Cond} {TX : List (String × Nat × String)} {NC : List (String × String)} {ro : zRo} (HT : zTab NW TX NC) : ∀ n, zP NW TX NC ro n
  | 0 => by
    intro d M hM pc ls st S r hr
    unfold zrun at hr
    cases hr
  | n + 1 => by
    have IH := zsim (ro := ro) HT n
    intro d M hM pc ls st S r hr hlen hol hos hsh p l e R s m args below meth c A C D cA ad hSF H locs cells slots lsC hL hrel hS mc ms hmc hms hmcR hmsR Qc XC hQ hX
    obtain ⟨mono1, mono2, mono3⟩ := zrun_mono _ _ _ _ _ _ _ _ hr
    obtain ⟨hx, hb, hml, hown, hts, htab, hlk, hret, hnm, hl, hA, hfr, hlo⟩ := id C
    have hm4 : ∀ q ∈ zMt M, decode M.2.1 q.1 = .ok q.2 := hM
    obtain ⟨s1, s2, s3, s4, s5, s6, s7, s8, s9⟩ := id hSF
    obtain ⟨T1, T2, T3, T4, T5, T6, T7, T8, T9, T10, T11, T12, T13⟩ := id HT
    have hcR : cells ≤ R.cells := by omega
    have hsR : slots ≤ R.slots := by omega
    have hag : zag S.1.length ad ad := fun _ _ => rfl
    have hLs : lsC.size = zMl M := hL.1
    unfold zrun at hr
    split at hr
    · cases hr
    rename_i q hq
    have hd : decode M.2.1 pc = .ok (q.1, q.2) := hm4 (pc, q) (zget_mem hq)
    split at hr
    · rename_i v hv
      exact zs_push hx hb ⟨_, hown, fun k w h => ⟨hts _ (T1 _ _ _ h).1, (T1 _ _ _ h).2⟩⟩ hv (by rw [hlen]; exact hL) hd hol (fun hok => IH d M hM _ _ _ S r hr hlen hol (List.forall_mem_cons.mpr ⟨hok, hos⟩) hsh p l e R s m args below meth c A C D cA ad hSF H locs cells slots lsC hL hrel hS mc ms hmc hms hmcR hmsR Qc XC hQ hX)
    split at hr
    · rename_i r1 hr1
      have hl1 : r1.1.length = ls.length := zstore_len hr1
      exact zs_store hx hb hr1 (by rw [hlen]; exact hL) hd hol hos (fun lsC' hL' ho1 ho2 => IH d M hM _ _ _ S r hr (by rw [hl1]; exact hlen) ho1 ho2 hsh p l e R s m args below meth c A C D cA ad hSF H locs cells slots lsC' (by rw [hl1, hlen] at hL'; exact hL') hrel hS mc ms hmc hms hmcR hmsR Qc XC hQ hX)
    split at hr
    · rename_i r1 hr1
      exact zs_arith hx hb (by rw [hLs, hml]) ⟨_, hown, fun k => ⟨fun h => ⟨hts _ ((T2 _ k).1 h).1, hts _ ((T2 _ k).1 h).2.1, hts _ ((T2 _ k).1 h).2.2.1, hts _ ((T2 _ k).1 h).2.2.2⟩, fun h => ⟨hts _ ((T2 _ k).2.1 h).1, hts _ ((T2 _ k).2.1 h).2.1, hts _ ((T2 _ k).2.1 h).2.2.1, hts _ ((T2 _ k).2.1 h).2.2.2⟩, fun h => ⟨hts _ ((T2 _ k).2.2 h).1, hts _ ((T2 _ k).2.2 h).2.1, hts _ ((T2 _ k).2.2 h).2.2⟩⟩⟩ (by omega) (by omega) hcR hsR hr1 hd hos (fun ho1 => IH d M hM _ _ _ S r hr hlen hol ho1 hsh p l e R s m args below meth c A C D cA ad hSF H locs cells slots lsC hL hrel hS mc ms hmc hms hmcR hmsR Qc XC hQ hX)
    split at hr
    · rename_i r1 hr1
      exact zs_jump hx hb hr1 hd hos (fun ho1 => IH d M hM _ _ _ S r hr hlen hol ho1 hsh p l e R s m args below meth c A C D cA ad hSF H locs cells slots lsC hL hrel hS mc ms hmc hms hmcR hmsR Qc XC hQ hX)
    split at hr
    · rename_i v hv
      cases hr
      have e1 : cells = mc := by simp only [Nat.sub_self] at hmc; omega
      have e2 : slots = ms := by simp only [Nat.sub_self] at hms; omega
      subst e1; subst e2
      exact zs_end C hrel hS hv hd hos (fun t g1 g2 => hQ v rfl ⟨zend_ok hv hos, hsh⟩ ad t hag g1 g2)
    split at hr
    · rename_i r1 hr1
      split at hr
      · rename_i h9
        cases hr
        have e1 : cells + 1 = mc := by rw [← hmc]; show _ = cells + (S.2.2.1 + 1 - S.2.2.1); omega
        have e2 : slots + 6 = ms := by rw [← hms]; show _ = slots + (S.2.2.2 + 6 - S.2.2.2); omega
        exact zs_throw HT hM C hSF hrel hS hLs hq hr1 h9.1 h9.2.1 h9.2.2.1 h9.2.2.2 (by omega) (by omega) (by omega) (by omega) (fun t g1 g2 => hX _ rfl hsh ad t hag g1 g2)
      · cases hr
    split at hr
    · rename_i r1 hr1
      obtain ⟨g1, g2, g3⟩ := zheap_mono hr1
      obtain ⟨f1, f2, f3⟩ := zrun_mono _ _ _ _ _ _ _ _ hr
      refine zs_heap hx hb hown hts s1 (zpool_of HT C hSF (zMk M)) hrel hsh s9 hS hA (fun h => by rw [hnm]; exact eq_of_beq h) hr1 hd hos (by omega) (by omega) (fun ad' H1 locs1 k1 k2 k3 k4 k5 k6 k7 k8 => ?_)
      exact IH d M hM _ _ _ r1.2 r hr hlen (zoks_mono hol k4) k6 k3 p l e R s m args below meth c A C D cA ad' (zSF_ag hSF k1) H1 locs1 _ _ lsC (zlo_ag hL k1 hol) k2 k5 mc ms (by omega) (by omega) hmcR hmsR Qc XC
        (fun v hv hk ad2 t z1 z2 z3 => hQ v hv hk ad2 t (zagt k1 z1 k4) z2 z3) (fun E hE hk ad2 t z1 z2 z3 => hX E hE hk ad2 t (zagt k1 z1 k4) z2 z3)
    split at hr
    · rename_i d' r1 hr1
      cases hc : (decide (r1.2.1 ≤ st.length) && (st.take r1.2.1).all zplain && decide (r1.2.1 ≤ zMl r1.2.2) && (st.drop r1.2.1).all zplain && decide ((st.drop r1.2.1).length ≤ 8) && zrecv S r1.1 (zMk r1.2.2) (st.take r1.2.1).reverse) with
      | false => rw [hc, cond_false] at hr; cases hr
      | true =>
        rw [hc, cond_true] at hr
        simp only [Bool.and_eq_true, decide_eq_true_eq] at hc
        obtain ⟨⟨⟨⟨⟨c1, c2⟩, c3⟩, c4⟩, c5⟩, c6⟩ := hc
        have hrest : zoks S.1.length (st.drop r1.2.1) := fun v hv => hos v (List.mem_of_mem_drop hv)
        split at hr
        · rename_i v S1 hc1
          obtain ⟨g1, g2, g3⟩ := zrun_mono _ _ _ _ _ _ _ _ hc1
          obtain ⟨f1, f2, f3⟩ := zrun_mono _ _ _ _ _ _ _ _ hr
          simp only at g1 g2 g3
          refine zs_call HT IH hM C hSF hLs hrel hS hos hsh hr1 hd c1 c2 c3 c4 c5 c6 hc1 (by omega) (by omega) (fun ad' H1 locs1 k1 k2 k3 kv => ?_)
          have hv9 : zok S1.1.length v := kv.1 v rfl
          have k9 := IH (d' + 1) M hM (pc + 3) ls (v :: st.drop r1.2.1) S1 r hr hlen (zoks_mono hol g3) (List.forall_mem_cons.mpr ⟨hv9, zoks_mono hrest g3⟩) kv.2 p l e R s m args below meth c A C D cA ad' (zSF_ag hSF k1) H1 locs1 (cells + (S1.2.2.1 - S.2.2.1)) (slots + (S1.2.2.2 - S.2.2.2)) lsC (zlo_ag hL k1 hol) k2 k3 mc ms (by omega) (by omega) hmcR hmsR Qc XC
            (fun v hv hk ad2 t z1 z2 z3 => hQ v hv hk ad2 t (zagt k1 z1 g3) z2 z3) (fun E hE hk ad2 t z1 z2 z3 => hX E hE hk ad2 t (zagt k1 z1 g3) z2 z3)
          rw [List.map_cons, zmap_ag k1 hrest] at k9
          exact k9
        · rename_i S1 hc1
          obtain ⟨g1, g2, g3⟩ := zrun_mono _ _ _ _ _ _ _ _ hc1
          obtain ⟨f1, f2, f3⟩ := zrun_mono _ _ _ _ _ _ _ _ hr
          simp only at g1 g2 g3
          refine zs_call HT IH hM C hSF hLs hrel hS hos hsh hr1 hd c1 c2 c3 c4 c5 c6 hc1 (by omega) (by omega) (fun ad' H1 locs1 k1 k2 k3 kv => ?_)
          have k9 := IH (d' + 1) M hM (pc + 3) ls (st.drop r1.2.1) S1 r hr hlen (zoks_mono hol g3) (zoks_mono hrest g3) kv.2 p l e R s m args below meth c A C D cA ad' (zSF_ag hSF k1) H1 locs1 (cells + (S1.2.2.1 - S.2.2.1)) (slots + (S1.2.2.2 - S.2.2.2)) lsC (zlo_ag hL k1 hol) k2 k3 mc ms (by omega) (by omega) hmcR hmsR Qc XC
            (fun v hv hk ad2 t z1 z2 z3 => hQ v hv hk ad2 t (zagt k1 z1 g3) z2 z3) (fun E hE hk ad2 t z1 z2 z3 => hX E hE hk ad2 t (zagt k1 z1 g3) z2 z3)
          rw [zmap_ag k1 hrest] at k9
          exact k9
        · rename_i E S1 hc1
          obtain ⟨g1, g2, g3⟩ := zrun_mono _ _ _ _ _ _ _ _ hc1
          simp only at g1 g2 g3
          split at hr
          · rename_i hkd
            split at hr
            · rename_i h hh
              split at hr
              · rename_i r2 hr2
                obtain ⟨f1, f2, f3⟩ := zrun_mono _ _ _ _ _ _ _ _ hr
                refine zs_callx HT IH hM C hSF hLs hrel hS hos hsh hr1 hd c1 c2 c3 c4 c5 c6 hkd hc1 (by omega) (by omega) (fun ad' H1 locs1 q9 ce k1 k2 k3 k4 k5 k6 ks => ?_)
                have hl2 : r2.2.length = ls.length := zcatch_len hr2
                refine zs_catch HT hM C (zSF_ag hSF k1) hh hr2 (zlo_ag hL k1 hol) hlen k4 k5 k6 (fun lsC' hL' => ?_)
                exact IH (d' + 1) M hM r2.1 r2.2 [] S1 r hr (by rw [hl2]; exact hlen) (zcatch_ok hr2 (zoks_mono hol g3)) (fun v hv => by cases hv) ks p l e R s m args below meth c A C D cA ad' (zSF_ag hSF k1) H1 locs1 (cells + (S1.2.2.1 - S.2.2.1)) (slots + (S1.2.2.2 - S.2.2.2)) lsC' hL' k2 k3 mc ms (by omega) (by omega) hmcR hmsR Qc XC
                  (fun v hv hk ad2 t z1 z2 z3 => hQ v hv hk ad2 t (zagt k1 z1 g3) z2 z3) (fun E hE hk ad2 t z1 z2 z3 => hX E hE hk ad2 t (zagt k1 z1 g3) z2 z3)
              · cases hr
            · split at hr
              · rename_i hemp
                cases hr
                subst hmc; subst hms
                exact zs_callx HT IH hM C hSF hLs hrel hS hos hsh hr1 hd c1 c2 c3 c4 c5 c6 hkd hc1 hmcR hmsR (fun ad' H1 locs1 q9 ce k1 k2 k3 k4 k5 k6 ks => zs_out C hemp k3 k2 k4 k5 k6 (fun t z1 z2 => hX E rfl ks ad' t k1 z1 z2))
              · cases hr
          · cases hr
        · cases hr
    · cases hr
end
section
/-! what the claim's words say of the tables -/
theorem zwm {w : Cond} (i : Nat) (h : (match lw_tbl[i]? with | some w' => decide (w' = w) && goodWord w' | none => false) = true) : w ∈ zWS := by
  split at h
  · rename_i w' hw
    simp only [Bool.and_eq_true, decide_eq_true_eq] at h
    rw [← h.1]
    exact List.mem_filter.mpr ⟨List.mem_of_getElem? hw, h.2⟩
  · cases h
theorem zlook_mem {α : Type} : ∀ {r : List (Nat × α)} {k : Nat} {v : α}, zlook r k = some v → (k, v) ∈ r
  | [], _, _, h => by simp [zlook] at h
  | x :: r, k, v, h => by
    unfold zlook at h
    cases hb : Nat.beq x.1 k with
    | true =>
      rw [hb, cond_true] at h
      have e1 := Nat.eq_of_beq_eq_true hb
      cases h
      rw [← e1]
      exact List.mem_cons_self
    | false => rw [hb, cond_false] at h; exact List.mem_cons_of_mem _ (zlook_mem h)
theorem ztab_all {α : Type} {l : List (List (Nat × α))} {P : Nat → Nat → α → Prop} (h : ∀ c r, l[c]? = some r → ∀ q ∈ r, P c q.1 q.2) {c k : Nat} {v : α} (hv : ztab l c k = some v) : P c k v := by
  unfold ztab at hv
  split at hv
  · rename_i r hr
    exact h c r hr (k, v) (zlook_mem hv)
  · cases hv
theorem zu_0 : ∀ w ∈ u_ws RX0 TX0 2, w ∈ zWS := by
  intro w hw
  obtain ⟨k, hk, rfl⟩ := List.mem_map.mp hw
  have hk := List.mem_range.mp hk
  match k, hk with
  | 0, _ => exact zwm 179 (by decide +kernel)
  | 1, _ => exact zwm 181 (by decide +kernel)
  | k + 2, hk => exact absurd hk (by omega)
theorem zfi_0 : ∀ k, k < 2 → (TX0 k).1 = RX0 ∧ ∃ b, zfit (zfty 0 k) b (tyX0 k) := by
  intro k hk
  match k, hk with
  | 0, _ => exact ⟨rfl, false, Or.inr (Or.inr (Or.inr ⟨rfl, rfl, Or.inr ⟨_, rfl⟩⟩))⟩
  | 1, _ => exact ⟨rfl, false, Or.inr (Or.inr (Or.inr ⟨rfl, rfl, Or.inr ⟨_, rfl⟩⟩))⟩
  | k + 2, hk => exact absurd hk (by omega)
theorem zfo_0 : ∀ k, 2 ≤ k → zfty 0 k = 0 := by
  intro k hk
  show (match ([1, 1] : List Nat)[k]? with | some t => t | none => 0) = 0
  rw [List.getElem?_eq_none hk]
theorem zcp_0 : zclP 0 RX0 TX0 2 tyX0 := ⟨rfl, zu_0, tyX0_ok, nmX0, zfi_0, zfo_0⟩
theorem zu_1 : ∀ w ∈ u_ws RX1 TX1 2, w ∈ zWS := by
  intro w hw
  obtain ⟨k, hk, rfl⟩ := List.mem_map.mp hw
  have hk := List.mem_range.mp hk
  match k, hk with
  | 0, _ => exact zwm 134 (by decide +kernel)
  | 1, _ => exact zwm 136 (by decide +kernel)
  | k + 2, hk => exact absurd hk (by omega)
theorem zfi_1 : ∀ k, k < 2 → (TX1 k).1 = RX1 ∧ ∃ b, zfit (zfty 1 k) b (tyX1 k) := by
  intro k hk
  match k, hk with
  | 0, _ => exact ⟨rfl, false, Or.inr (Or.inr (Or.inr ⟨rfl, rfl, Or.inl ⟨_, rfl⟩⟩))⟩
  | 1, _ => exact ⟨rfl, false, Or.inr (Or.inr (Or.inr ⟨rfl, rfl, Or.inr ⟨_, rfl⟩⟩))⟩
  | k + 2, hk => exact absurd hk (by omega)
theorem zfo_1 : ∀ k, 2 ≤ k → zfty 1 k = 0 := by
  intro k hk
  show (match ([1, 1] : List Nat)[k]? with | some t => t | none => 0) = 0
  rw [List.getElem?_eq_none hk]
theorem zcp_1 : zclP 1 RX1 TX1 2 tyX1 := ⟨rfl, zu_1, tyX1_ok, nmX1, zfi_1, zfo_1⟩
theorem zu_2 : ∀ w ∈ u_ws RX2 TX2 3, w ∈ zWS := by
  intro w hw
  obtain ⟨k, hk, rfl⟩ := List.mem_map.mp hw
  have hk := List.mem_range.mp hk
  match k, hk with
  | 0, _ => exact zwm 142 (by decide +kernel)
  | 1, _ => exact zwm 144 (by decide +kernel)
  | 2, _ => exact zwm 146 (by decide +kernel)
  | k + 3, hk => exact absurd hk (by omega)
theorem zfi_2 : ∀ k, k < 3 → (TX2 k).1 = RX2 ∧ ∃ b, zfit (zfty 2 k) b (tyX2 k) := by
  intro k hk
  match k, hk with
  | 0, _ => exact ⟨rfl, false, Or.inr (Or.inr (Or.inr ⟨rfl, rfl, Or.inr ⟨_, rfl⟩⟩))⟩
  | 1, _ => exact ⟨rfl, false, Or.inl ⟨rfl, rfl, rfl⟩⟩
  | 2, _ => exact ⟨rfl, false, Or.inl ⟨rfl, rfl, rfl⟩⟩
  | k + 3, hk => exact absurd hk (by omega)
theorem zfo_2 : ∀ k, 3 ≤ k → zfty 2 k = 0 := by
  intro k hk
  show (match ([1, 0, 0] : List Nat)[k]? with | some t => t | none => 0) = 0
  rw [List.getElem?_eq_none hk]
theorem zcp_2 : zclP 2 RX2 TX2 3 tyX2 := ⟨rfl, zu_2, tyX2_ok, nmX2, zfi_2, zfo_2⟩
theorem zu_3 : ∀ w ∈ u_ws RX3 TX3 5, w ∈ zWS := by
  intro w hw
  obtain ⟨k, hk, rfl⟩ := List.mem_map.mp hw
  have hk := List.mem_range.mp hk
  match k, hk with
  | 0, _ => exact zwm 160 (by decide +kernel)
  | 1, _ => exact zwm 162 (by decide +kernel)
  | 2, _ => exact zwm 164 (by decide +kernel)
  | 3, _ => exact zwm 166 (by decide +kernel)
  | 4, _ => exact zwm 168 (by decide +kernel)
  | k + 5, hk => exact absurd hk (by omega)
theorem zfi_3 : ∀ k, k < 5 → (TX3 k).1 = RX3 ∧ ∃ b, zfit (zfty 3 k) b (tyX3 k) := by
  intro k hk
  match k, hk with
  | 0, _ => exact ⟨rfl, false, Or.inr (Or.inr (Or.inr ⟨rfl, rfl, Or.inr ⟨_, rfl⟩⟩))⟩
  | 1, _ => exact ⟨rfl, false, Or.inr (Or.inr (Or.inr ⟨rfl, rfl, Or.inr ⟨_, rfl⟩⟩))⟩
  | 2, _ => exact ⟨rfl, false, Or.inr (Or.inr (Or.inr ⟨rfl, rfl, Or.inr ⟨_, rfl⟩⟩))⟩
  | 3, _ => exact ⟨rfl, false, Or.inr (Or.inr (Or.inr ⟨rfl, rfl, Or.inr ⟨_, rfl⟩⟩))⟩
  | 4, _ => exact ⟨rfl, false, Or.inl ⟨rfl, rfl, rfl⟩⟩
  | k + 5, hk => exact absurd hk (by omega)
theorem zfo_3 : ∀ k, 5 ≤ k → zfty 3 k = 0 := by
  intro k hk
  show (match ([1, 1, 1, 1, 0] : List Nat)[k]? with | some t => t | none => 0) = 0
  rw [List.getElem?_eq_none hk]
theorem zcp_3 : zclP 3 RX3 TX3 5 tyX3 := ⟨rfl, zu_3, tyX3_ok, nmX3, zfi_3, zfo_3⟩
theorem zu_4 : ∀ w ∈ u_ws RX4 TX4 4, w ∈ zWS := by
  intro w hw
  obtain ⟨k, hk, rfl⟩ := List.mem_map.mp hw
  have hk := List.mem_range.mp hk
  match k, hk with
  | 0, _ => exact zwm 194 (by decide +kernel)
  | 1, _ => exact zwm 196 (by decide +kernel)
  | 2, _ => exact zwm 198 (by decide +kernel)
  | 3, _ => exact zwm 200 (by decide +kernel)
  | k + 4, hk => exact absurd hk (by omega)
theorem zfi_4 : ∀ k, k < 4 → (TX4 k).1 = RX4 ∧ ∃ b, zfit (zfty 4 k) b (tyX4 k) := by
  intro k hk
  match k, hk with
  | 0, _ => exact ⟨rfl, false, Or.inr (Or.inr (Or.inr ⟨rfl, rfl, Or.inr ⟨_, rfl⟩⟩))⟩
  | 1, _ => exact ⟨rfl, false, Or.inr (Or.inr (Or.inr ⟨rfl, rfl, Or.inr ⟨_, rfl⟩⟩))⟩
  | 2, _ => exact ⟨rfl, false, Or.inr (Or.inr (Or.inr ⟨rfl, rfl, Or.inr ⟨_, rfl⟩⟩))⟩
  | 3, _ => exact ⟨rfl, false, Or.inl ⟨rfl, rfl, rfl⟩⟩
  | k + 4, hk => exact absurd hk (by omega)
theorem zfo_4 : ∀ k, 4 ≤ k → zfty 4 k = 0 := by
  intro k hk
  show (match ([1, 1, 1, 0] : List Nat)[k]? with | some t => t | none => 0) = 0
  rw [List.getElem?_eq_none hk]
theorem zcp_4 : zclP 4 RX4 TX4 4 tyX4 := ⟨rfl, zu_4, tyX4_ok, nmX4, zfi_4, zfo_4⟩
theorem zu_5 : ∀ w ∈ u_ws RX5 TX5 3, w ∈ zWS := by
  intro w hw
  obtain ⟨k, hk, rfl⟩ := List.mem_map.mp hw
  have hk := List.mem_range.mp hk
  match k, hk with
  | 0, _ => exact zwm 110 (by decide +kernel)
  | 1, _ => exact zwm 112 (by decide +kernel)
  | 2, _ => exact zwm 114 (by decide +kernel)
  | k + 3, hk => exact absurd hk (by omega)
theorem zfi_5 : ∀ k, k < 3 → (TX5 k).1 = RX5 ∧ ∃ b, zfit (zfty 5 k) b (tyX5 k) := by
  intro k hk
  match k, hk with
  | 0, _ => exact ⟨rfl, false, Or.inr (Or.inr (Or.inr ⟨rfl, rfl, Or.inr ⟨_, rfl⟩⟩))⟩
  | 1, _ => exact ⟨rfl, false, Or.inr (Or.inr (Or.inr ⟨rfl, rfl, Or.inr ⟨_, rfl⟩⟩))⟩
  | 2, _ => exact ⟨rfl, false, Or.inl ⟨rfl, rfl, rfl⟩⟩
  | k + 3, hk => exact absurd hk (by omega)
theorem zfo_5 : ∀ k, 3 ≤ k → zfty 5 k = 0 := by
  intro k hk
  show (match ([1, 1, 0] : List Nat)[k]? with | some t => t | none => 0) = 0
  rw [List.getElem?_eq_none hk]
theorem zcp_5 : zclP 5 RX5 TX5 3 tyX5 := ⟨rfl, zu_5, tyX5_ok, nmX5, zfi_5, zfo_5⟩
theorem zu_6 : ∀ w ∈ u_ws RX6 TX6 5, w ∈ zWS := by
  intro w hw
  obtain ⟨k, hk, rfl⟩ := List.mem_map.mp hw
  have hk := List.mem_range.mp hk
  match k, hk with
  | 0, _ => exact zwm 79 (by decide +kernel)
  | 1, _ => exact zwm 81 (by decide +kernel)
  | 2, _ => exact zwm 83 (by decide +kernel)
  | 3, _ => exact zwm 85 (by decide +kernel)
  | 4, _ => exact zwm 87 (by decide +kernel)
  | k + 5, hk => exact absurd hk (by omega)
theorem zfi_6 : ∀ k, k < 5 → (TX6 k).1 = RX6 ∧ ∃ b, zfit (zfty 6 k) b (tyX6 k) := by
  intro k hk
  match k, hk with
  | 0, _ => exact ⟨rfl, false, Or.inr (Or.inr (Or.inr ⟨rfl, rfl, Or.inr ⟨_, rfl⟩⟩))⟩
  | 1, _ => exact ⟨rfl, false, Or.inr (Or.inr (Or.inr ⟨rfl, rfl, Or.inr ⟨_, rfl⟩⟩))⟩
  | 2, _ => exact ⟨rfl, false, Or.inr (Or.inr (Or.inr ⟨rfl, rfl, Or.inr ⟨_, rfl⟩⟩))⟩
  | 3, _ => exact ⟨rfl, false, Or.inr (Or.inr (Or.inr ⟨rfl, rfl, Or.inr ⟨_, rfl⟩⟩))⟩
  | 4, _ => exact ⟨rfl, false, Or.inl ⟨rfl, rfl, rfl⟩⟩
  | k + 5, hk => exact absurd hk (by omega)
theorem zfo_6 : ∀ k, 5 ≤ k → zfty 6 k = 0 := by
  intro k hk
  show (match ([1, 1, 1, 1, 0] : List Nat)[k]? with | some t => t | none => 0) = 0
  rw [List.getElem?_eq_none hk]
theorem zcp_6 : zclP 6 RX6 TX6 5 tyX6 := ⟨rfl, zu_6, tyX6_ok, nmX6, zfi_6, zfo_6⟩
theorem zu_7 : ∀ w ∈ u_ws RX7 TX7 9, w ∈ zWS := by
  intro w hw
  obtain ⟨k, hk, rfl⟩ := List.mem_map.mp hw
  have hk := List.mem_range.mp hk
  match k, hk with
  | 0, _ => exact zwm 212 (by decide +kernel)
  | 1, _ => exact zwm 214 (by decide +kernel)
  | 2, _ => exact zwm 216 (by decide +kernel)
  | 3, _ => exact zwm 218 (by decide +kernel)
  | 4, _ => exact zwm 220 (by decide +kernel)
  | 5, _ => exact zwm 222 (by decide +kernel)
  | 6, _ => exact zwm 224 (by decide +kernel)
  | 7, _ => exact zwm 226 (by decide +kernel)
  | 8, _ => exact zwm 228 (by decide +kernel)
  | k + 9, hk => exact absurd hk (by omega)
theorem zfi_7 : ∀ k, k < 9 → (TX7 k).1 = RX7 ∧ ∃ b, zfit (zfty 7 k) b (tyX7 k) := by
  intro k hk
  match k, hk with
  | 0, _ => exact ⟨rfl, false, Or.inr (Or.inr (Or.inr ⟨rfl, rfl, Or.inl ⟨_, rfl⟩⟩))⟩
  | 1, _ => exact ⟨rfl, false, Or.inr (Or.inr (Or.inr ⟨rfl, rfl, Or.inl ⟨_, rfl⟩⟩))⟩
  | 2, _ => exact ⟨rfl, false, Or.inr (Or.inr (Or.inr ⟨rfl, rfl, Or.inl ⟨_, rfl⟩⟩))⟩
  | 3, _ => exact ⟨rfl, false, Or.inr (Or.inr (Or.inr ⟨rfl, rfl, Or.inl ⟨_, rfl⟩⟩))⟩
  | 4, _ => exact ⟨rfl, false, Or.inr (Or.inr (Or.inr ⟨rfl, rfl, Or.inl ⟨_, rfl⟩⟩))⟩
  | 5, _ => exact ⟨rfl, false, Or.inr (Or.inr (Or.inr ⟨rfl, rfl, Or.inl ⟨_, rfl⟩⟩))⟩
  | 6, _ => exact ⟨rfl, false, Or.inr (Or.inr (Or.inr ⟨rfl, rfl, Or.inl ⟨_, rfl⟩⟩))⟩
  | 7, _ => exact ⟨rfl, false, Or.inl ⟨rfl, rfl, rfl⟩⟩
  | 8, _ => exact ⟨rfl, true, Or.inr (Or.inl ⟨rfl, rfl, rfl⟩)⟩
  | k + 9, hk => exact absurd hk (by omega)
theorem zfo_7 : ∀ k, 9 ≤ k → zfty 7 k = 0 := by
  intro k hk
  show (match ([1, 1, 1, 1, 1, 1, 1, 0, 0] : List Nat)[k]? with | some t => t | none => 0) = 0
  rw [List.getElem?_eq_none hk]
theorem zcp_7 : zclP 7 RX7 TX7 9 tyX7 := ⟨rfl, zu_7, tyX7_ok, nmX7, zfi_7, zfo_7⟩
theorem zu_8 : ∀ w ∈ u_ws RX8 TX8 26, w ∈ zWS := by
  intro w hw
  obtain ⟨k, hk, rfl⟩ := List.mem_map.mp hw
  have hk := List.mem_range.mp hk
  match k, hk with
  | 0, _ => exact zwm 1069 (by decide +kernel)
  | 1, _ => exact zwm 1071 (by decide +kernel)
  | 2, _ => exact zwm 1073 (by decide +kernel)
  | 3, _ => exact zwm 1075 (by decide +kernel)
  | 4, _ => exact zwm 1077 (by decide +kernel)
  | 5, _ => exact zwm 1079 (by decide +kernel)
  | 6, _ => exact zwm 1081 (by decide +kernel)
  | 7, _ => exact zwm 1083 (by decide +kernel)
  | 8, _ => exact zwm 1085 (by decide +kernel)
  | 9, _ => exact zwm 1087 (by decide +kernel)
  | 10, _ => exact zwm 1089 (by decide +kernel)
  | 11, _ => exact zwm 1091 (by decide +kernel)
  | 12, _ => exact zwm 1093 (by decide +kernel)
  | 13, _ => exact zwm 1095 (by decide +kernel)
  | 14, _ => exact zwm 1097 (by decide +kernel)
  | 15, _ => exact zwm 1099 (by decide +kernel)
  | 16, _ => exact zwm 1101 (by decide +kernel)
  | 17, _ => exact zwm 1103 (by decide +kernel)
  | 18, _ => exact zwm 1105 (by decide +kernel)
  | 19, _ => exact zwm 1107 (by decide +kernel)
  | 20, _ => exact zwm 1109 (by decide +kernel)
  | 21, _ => exact zwm 1111 (by decide +kernel)
  | 22, _ => exact zwm 1113 (by decide +kernel)
  | 23, _ => exact zwm 1115 (by decide +kernel)
  | 24, _ => exact zwm 1117 (by decide +kernel)
  | 25, _ => exact zwm 1119 (by decide +kernel)
  | k + 26, hk => exact absurd hk (by omega)
theorem zfi_8 : ∀ k, k < 26 → (TX8 k).1 = RX8 ∧ ∃ b, zfit (zfty 8 k) b (tyX8 k) := by
  intro k hk
  match k, hk with
  | 0, _ => exact ⟨rfl, false, Or.inl ⟨rfl, rfl, rfl⟩⟩
  | 1, _ => exact ⟨rfl, false, Or.inl ⟨rfl, rfl, rfl⟩⟩
  | 2, _ => exact ⟨rfl, false, Or.inr (Or.inr (Or.inr ⟨rfl, rfl, Or.inr ⟨_, rfl⟩⟩))⟩
  | 3, _ => exact ⟨rfl, false, Or.inr (Or.inr (Or.inr ⟨rfl, rfl, Or.inr ⟨_, rfl⟩⟩))⟩
  | 4, _ => exact ⟨rfl, false, Or.inr (Or.inr (Or.inr ⟨rfl, rfl, Or.inr ⟨_, rfl⟩⟩))⟩
  | 5, _ => exact ⟨rfl, false, Or.inr (Or.inr (Or.inr ⟨rfl, rfl, Or.inr ⟨_, rfl⟩⟩))⟩
  | 6, _ => exact ⟨rfl, false, Or.inl ⟨rfl, rfl, rfl⟩⟩
  | 7, _ => exact ⟨rfl, false, Or.inr (Or.inr (Or.inr ⟨rfl, rfl, Or.inr ⟨_, rfl⟩⟩))⟩
  | 8, _ => exact ⟨rfl, false, Or.inr (Or.inr (Or.inr ⟨rfl, rfl, Or.inr ⟨_, rfl⟩⟩))⟩
  | 9, _ => exact ⟨rfl, false, Or.inr (Or.inr (Or.inl ⟨rfl, rfl, rfl⟩))⟩
  | 10, _ => exact ⟨rfl, true, Or.inr (Or.inl ⟨rfl, rfl, rfl⟩)⟩
  | 11, _ => exact ⟨rfl, false, Or.inr (Or.inr (Or.inr ⟨rfl, rfl, Or.inr ⟨_, rfl⟩⟩))⟩
  | 12, _ => exact ⟨rfl, false, Or.inl ⟨rfl, rfl, rfl⟩⟩
  | 13, _ => exact ⟨rfl, false, Or.inr (Or.inr (Or.inr ⟨rfl, rfl, Or.inr ⟨_, rfl⟩⟩))⟩
  | 14, _ => exact ⟨rfl, false, Or.inr (Or.inr (Or.inr ⟨rfl, rfl, Or.inr ⟨_, rfl⟩⟩))⟩
  | 15, _ => exact ⟨rfl, false, Or.inr (Or.inr (Or.inr ⟨rfl, rfl, Or.inr ⟨_, rfl⟩⟩))⟩
  | 16, _ => exact ⟨rfl, false, Or.inr (Or.inr (Or.inr ⟨rfl, rfl, Or.inr ⟨_, rfl⟩⟩))⟩
  | 17, _ => exact ⟨rfl, false, Or.inr (Or.inr (Or.inr ⟨rfl, rfl, Or.inr ⟨_, rfl⟩⟩))⟩
  | 18, _ => exact ⟨rfl, false, Or.inr (Or.inr (Or.inr ⟨rfl, rfl, Or.inr ⟨_, rfl⟩⟩))⟩
  | 19, _ => exact ⟨rfl, false, Or.inl ⟨rfl, rfl, rfl⟩⟩
  | 20, _ => exact ⟨rfl, false, Or.inr (Or.inr (Or.inr ⟨rfl, rfl, Or.inr ⟨_, rfl⟩⟩))⟩
  | 21, _ => exact ⟨rfl, false, Or.inr (Or.inr (Or.inr ⟨rfl, rfl, Or.inr ⟨_, rfl⟩⟩))⟩
  | 22, _ => exact ⟨rfl, false, Or.inr (Or.inr (Or.inr ⟨rfl, rfl, Or.inr ⟨_, rfl⟩⟩))⟩
  | 23, _ => exact ⟨rfl, false, Or.inr (Or.inr (Or.inr ⟨rfl, rfl, Or.inr ⟨_, rfl⟩⟩))⟩
  | 24, _ => exact ⟨rfl, false, Or.inr (Or.inr (Or.inr ⟨rfl, rfl, Or.inr ⟨_, rfl⟩⟩))⟩
  | 25, _ => exact ⟨rfl, false, Or.inr (Or.inr (Or.inr ⟨rfl, rfl, Or.inr ⟨_, rfl⟩⟩))⟩
  | k + 26, hk => exact absurd hk (by omega)
theorem zfo_8 : ∀ k, 26 ≤ k → zfty 8 k = 0 := by
  intro k hk
  show (match ([0, 0, 1, 1, 1, 1, 0, 1, 1, 2, 0, 1, 0, 1, 1, 1, 1, 1, 1, 0, 1, 1, 1, 1, 1, 1] : List Nat)[k]? with | some t => t | none => 0) = 0
  rw [List.getElem?_eq_none hk]
theorem zcp_8 : zclP 8 RX8 TX8 26 tyX8 := ⟨rfl, zu_8, tyX8_ok, nmX8, zfi_8, zfo_8⟩
theorem zmp_X0_init : zMP mX0_init := ⟨rfl, by decide, by decide +kernel, kX0_init, zwm 175 (by decide +kernel), (zwm 45 (by decide +kernel)), ⟨by decide +kernel, by decide +kernel⟩, by decide⟩
theorem zmp_X0_sum : zMP mX0_sum := ⟨rfl, by decide, by decide +kernel, kX0_sum, zwm 341 (by decide +kernel), (zwm 45 (by decide +kernel)), ⟨by decide +kernel, by decide +kernel⟩, by decide⟩
theorem zmp_X0_holds : zMP mX0_holds := ⟨rfl, by decide, by decide +kernel, kX0_holds, zwm 429 (by decide +kernel), (zwm 45 (by decide +kernel)), ⟨by decide +kernel, by decide +kernel⟩, by decide⟩
theorem zmp_X0_choose : zMP mX0_choose := ⟨rfl, by decide, by decide +kernel, kX0_choose, zwm 303 (by decide +kernel), (zwm 45 (by decide +kernel)), ⟨by decide +kernel, by decide +kernel⟩, by decide⟩
theorem zmp_X0_hasClash : zMP mX0_hasClash := ⟨rfl, by decide, by decide +kernel, kX0_hasClash, zwm 425 (by decide +kernel), (zwm 45 (by decide +kernel)), ⟨by decide +kernel, by decide +kernel⟩, by decide⟩
theorem zmp_X0_sumUp : zMP mX0_sumUp := ⟨rfl, by decide, by decide +kernel, kX0_sumUp, zwm 307 (by decide +kernel), (zwm 45 (by decide +kernel)), ⟨by decide +kernel, by decide +kernel⟩, by decide⟩
theorem zmp_X0_sumWith : zMP mX0_sumWith := ⟨rfl, by decide, by decide +kernel, kX0_sumWith, zwm 314 (by decide +kernel), (zwm 45 (by decide +kernel)), ⟨by decide +kernel, by decide +kernel⟩, by decide⟩
theorem zmp_X0_isWorthTaking : zMP mX0_isWorthTaking := ⟨rfl, by decide, by decide +kernel, kX0_isWorthTaking, zwm 334 (by decide +kernel), (zwm 45 (by decide +kernel)), ⟨by decide +kernel, by decide +kernel⟩, by decide⟩
theorem zmp_X1_init : zMP mX1_init := ⟨rfl, by decide, by decide +kernel, kX1_init, zwm 128 (by decide +kernel), (zwm 43 (by decide +kernel)), ⟨by decide +kernel, by decide +kernel⟩, by decide⟩
theorem zmp_X1_start : zMP mX1_start := ⟨rfl, by decide, by decide +kernel, kX1_start, zwm 817 (by decide +kernel), (zwm 43 (by decide +kernel)), ⟨by decide +kernel, by decide +kernel⟩, by decide⟩
theorem zmp_X1_noteFix : zMP mX1_noteFix := ⟨rfl, by decide, by decide +kernel, kX1_noteFix, zwm 858 (by decide +kernel), (zwm 43 (by decide +kernel)), ⟨by decide +kernel, by decide +kernel⟩, by decide⟩
theorem zmp_X1_takeBack : zMP mX1_takeBack := ⟨rfl, by decide, by decide +kernel, kX1_takeBack, zwm 918 (by decide +kernel), (zwm 43 (by decide +kernel)), ⟨by decide +kernel, by decide +kernel⟩, by decide⟩
theorem zmp_X2_init : zMP mX2_init := ⟨rfl, by decide, by decide +kernel, kX2_init, zwm 121 (by decide +kernel), (zwm 42 (by decide +kernel)), ⟨by decide +kernel, by decide +kernel⟩, by decide⟩
theorem zmp_X2_count : zMP mX2_count := ⟨rfl, by decide, by decide +kernel, kX2_count, zwm 909 (by decide +kernel), (zwm 42 (by decide +kernel)), ⟨by decide +kernel, by decide +kernel⟩, by decide⟩
theorem zmp_X2_forget : zMP mX2_forget := ⟨rfl, by decide, by decide +kernel, kX2_forget, zwm 564 (by decide +kernel), (zwm 42 (by decide +kernel)), ⟨by decide +kernel, by decide +kernel⟩, by decide⟩
theorem zmp_X2_keep : zMP mX2_keep := ⟨rfl, by decide, by decide +kernel, kX2_keep, zwm 808 (by decide +kernel), (zwm 42 (by decide +kernel)), ⟨by decide +kernel, by decide +kernel⟩, by decide⟩
theorem zmp_X2_noteFix : zMP mX2_noteFix := ⟨rfl, by decide, by decide +kernel, kX2_noteFix, zwm 854 (by decide +kernel), (zwm 42 (by decide +kernel)), ⟨by decide +kernel, by decide +kernel⟩, by decide⟩
theorem zmp_X2_takeBack : zMP mX2_takeBack := ⟨rfl, by decide, by decide +kernel, kX2_takeBack, zwm 914 (by decide +kernel), (zwm 42 (by decide +kernel)), ⟨by decide +kernel, by decide +kernel⟩, by decide⟩
theorem zmp_X2_newestDeed : zMP mX2_newestDeed := ⟨rfl, by decide, by decide +kernel, kX2_newestDeed, zwm 813 (by decide +kernel), (zwm 42 (by decide +kernel)), ⟨by decide +kernel, by decide +kernel⟩, by decide⟩
theorem zmp_X3_init : zMP mX3_init := ⟨rfl, by decide, by decide +kernel, kX3_init, zwm 153 (by decide +kernel), (zwm 44 (by decide +kernel)), ⟨by decide +kernel, by decide +kernel⟩, by decide⟩
theorem zmp_X3_count : zMP mX3_count := ⟨rfl, by decide, by decide +kernel, kX3_count, zwm 291 (by decide +kernel), (zwm 44 (by decide +kernel)), ⟨by decide +kernel, by decide +kernel⟩, by decide⟩
theorem zmp_X3_rule : zMP mX3_rule := ⟨rfl, by decide, by decide +kernel, kX3_rule, zwm 739 (by decide +kernel), (zwm 44 (by decide +kernel)), ⟨by decide +kernel, by decide +kernel⟩, by decide⟩
theorem zmp_X3_first : zMP mX3_first := ⟨rfl, by decide, by decide +kernel, kX3_first, zwm 318 (by decide +kernel), (zwm 44 (by decide +kernel)), ⟨by decide +kernel, by decide +kernel⟩, by decide⟩
theorem zmp_X3_last : zMP mX3_last := ⟨rfl, by decide, by decide +kernel, kX3_last, zwm 323 (by decide +kernel), (zwm 44 (by decide +kernel)), ⟨by decide +kernel, by decide +kernel⟩, by decide⟩
theorem zmp_X3_gain : zMP mX3_gain := ⟨rfl, by decide, by decide +kernel, kX3_gain, zwm 327 (by decide +kernel), (zwm 44 (by decide +kernel)), ⟨by decide +kernel, by decide +kernel⟩, by decide⟩
theorem zmp_X3_fixable : zMP mX3_fixable := ⟨rfl, by decide, by decide +kernel, kX3_fixable, zwm 434 (by decide +kernel), (zwm 44 (by decide +kernel)), ⟨by decide +kernel, by decide +kernel⟩, by decide⟩
theorem zmp_X3_search : zMP mX3_search := ⟨rfl, by decide, by decide +kernel, kX3_search, zwm 246 (by decide +kernel), (zwm 44 (by decide +kernel)), ⟨by decide +kernel, by decide +kernel⟩, by decide⟩
theorem zmp_X3_ruleOfPair : zMP mX3_ruleOfPair := ⟨rfl, by decide, by decide +kernel, kX3_ruleOfPair, zwm 250 (by decide +kernel), (zwm 44 (by decide +kernel)), ⟨by decide +kernel, by decide +kernel⟩, by decide⟩
theorem zmp_X3_isNameInBlock : zMP mX3_isNameInBlock := ⟨rfl, by decide, by decide +kernel, kX3_isNameInBlock, zwm 287 (by decide +kernel), (zwm 44 (by decide +kernel)), ⟨by decide +kernel, by decide +kernel⟩, by decide⟩
theorem zmp_X3_note : zMP mX3_note := ⟨rfl, by decide, by decide +kernel, kX3_note, zwm 269 (by decide +kernel), (zwm 44 (by decide +kernel)), ⟨by decide +kernel, by decide +kernel⟩, by decide⟩
theorem zmp_X4_init : zMP mX4_init := ⟨rfl, by decide, by decide +kernel, kX4_init, zwm 188 (by decide +kernel), (zwm 46 (by decide +kernel)), ⟨by decide +kernel, by decide +kernel⟩, by decide⟩
theorem zmp_X4_lines : zMP mX4_lines := ⟨rfl, by decide, by decide +kernel, kX4_lines, zwm 377 (by decide +kernel), (zwm 46 (by decide +kernel)), ⟨by decide +kernel, by decide +kernel⟩, by decide⟩
theorem zmp_X4_least : zMP mX4_least := ⟨rfl, by decide, by decide +kernel, kX4_least, zwm 389 (by decide +kernel), (zwm 46 (by decide +kernel)), ⟨by decide +kernel, by decide +kernel⟩, by decide⟩
theorem zmp_X4_divide : zMP mX4_divide := ⟨rfl, by decide, by decide +kernel, kX4_divide, zwm 349 (by decide +kernel), (zwm 46 (by decide +kernel)), ⟨by decide +kernel, by decide +kernel⟩, by decide⟩
theorem zmp_X4_lineHolding : zMP mX4_lineHolding := ⟨rfl, by decide, by decide +kernel, kX4_lineHolding, zwm 413 (by decide +kernel), (zwm 46 (by decide +kernel)), ⟨by decide +kernel, by decide +kernel⟩, by decide⟩
theorem zmp_X4_widthOfLine : zMP mX4_widthOfLine := ⟨rfl, by decide, by decide +kernel, kX4_widthOfLine, zwm 405 (by decide +kernel), (zwm 46 (by decide +kernel)), ⟨by decide +kernel, by decide +kernel⟩, by decide⟩
theorem zmp_X4_sumOfCosts : zMP mX4_sumOfCosts := ⟨rfl, by decide, by decide +kernel, kX4_sumOfCosts, zwm 401 (by decide +kernel), (zwm 46 (by decide +kernel)), ⟨by decide +kernel, by decide +kernel⟩, by decide⟩
theorem zmp_X4_isSameAs : zMP mX4_isSameAs := ⟨rfl, by decide, by decide +kernel, kX4_isSameAs, zwm 409 (by decide +kernel), (zwm 46 (by decide +kernel)), ⟨by decide +kernel, by decide +kernel⟩, by decide⟩
theorem zmp_X4_chooseLineFrom : zMP mX4_chooseLineFrom := ⟨rfl, by decide, by decide +kernel, kX4_chooseLineFrom, zwm 355 (by decide +kernel), (zwm 46 (by decide +kernel)), ⟨by decide +kernel, by decide +kernel⟩, by decide⟩
theorem zmp_X5_init : zMP mX5_init := ⟨rfl, by decide, by decide +kernel, kX5_init, zwm 97 (by decide +kernel), (zwm 41 (by decide +kernel)), ⟨by decide +kernel, by decide +kernel⟩, by decide⟩
theorem zmp_X5_weightFor : zMP mX5_weightFor := ⟨rfl, by decide, by decide +kernel, kX5_weightFor, zwm 281 (by decide +kernel), (zwm 41 (by decide +kernel)), ⟨by decide +kernel, by decide +kernel⟩, by decide⟩
theorem zmp_X5_undoneFor : zMP mX5_undoneFor := ⟨rfl, by decide, by decide +kernel, kX5_undoneFor, zwm 926 (by decide +kernel), (zwm 41 (by decide +kernel)), ⟨by decide +kernel, by decide +kernel⟩, by decide⟩
theorem zmp_X5_allFixed : zMP mX5_allFixed := ⟨rfl, by decide, by decide +kernel, kX5_allFixed, zwm 983 (by decide +kernel), (zwm 41 (by decide +kernel)), ⟨by decide +kernel, by decide +kernel⟩, by decide⟩
theorem zmp_X5_allUndone : zMP mX5_allUndone := ⟨rfl, by decide, by decide +kernel, kX5_allUndone, zwm 990 (by decide +kernel), (zwm 41 (by decide +kernel)), ⟨by decide +kernel, by decide +kernel⟩, by decide⟩
theorem zmp_X5_rankFor : zMP mX5_rankFor := ⟨rfl, by decide, by decide +kernel, kX5_rankFor, zwm 949 (by decide +kernel), (zwm 41 (by decide +kernel)), ⟨by decide +kernel, by decide +kernel⟩, by decide⟩
theorem zmp_X5_reward : zMP mX5_reward := ⟨rfl, by decide, by decide +kernel, kX5_reward, zwm 848 (by decide +kernel), (zwm 41 (by decide +kernel)), ⟨by decide +kernel, by decide +kernel⟩, by decide⟩
theorem zmp_X5_punish : zMP mX5_punish := ⟨rfl, by decide, by decide +kernel, kX5_punish, zwm 922 (by decide +kernel), (zwm 41 (by decide +kernel)), ⟨by decide +kernel, by decide +kernel⟩, by decide⟩
theorem zmp_X6_init : zMP mX6_init := ⟨rfl, by decide, by decide +kernel, kX6_init, zwm 72 (by decide +kernel), (zwm 40 (by decide +kernel)), ⟨by decide +kernel, by decide +kernel⟩, by decide⟩
theorem zmp_X6_size : zMP mX6_size := ⟨rfl, by decide, by decide +kernel, kX6_size, zwm 238 (by decide +kernel), (zwm 40 (by decide +kernel)), ⟨by decide +kernel, by decide +kernel⟩, by decide⟩
theorem zmp_X6_kindAt : zMP mX6_kindAt := ⟨rfl, by decide, by decide +kernel, kX6_kindAt, zwm 254 (by decide +kernel), (zwm 40 (by decide +kernel)), ⟨by decide +kernel, by decide +kernel⟩, by decide⟩
theorem zmp_X6_nameAt : zMP mX6_nameAt := ⟨rfl, by decide, by decide +kernel, kX6_nameAt, zwm 258 (by decide +kernel), (zwm 40 (by decide +kernel)), ⟨by decide +kernel, by decide +kernel⟩, by decide⟩
theorem zmp_X6_lengthAt : zMP mX6_lengthAt := ⟨rfl, by decide, by decide +kernel, kX6_lengthAt, zwm 364 (by decide +kernel), (zwm 40 (by decide +kernel)), ⟨by decide +kernel, by decide +kernel⟩, by decide⟩
theorem zmp_X6_pinnedAt : zMP mX6_pinnedAt := ⟨rfl, by decide, by decide +kernel, kX6_pinnedAt, zwm 273 (by decide +kernel), (zwm 40 (by decide +kernel)), ⟨by decide +kernel, by decide +kernel⟩, by decide⟩
theorem zmp_X6_setPinned : zMP mX6_setPinned := ⟨rfl, by decide, by decide +kernel, kX6_setPinned, zwm 716 (by decide +kernel), (zwm 40 (by decide +kernel)), ⟨by decide +kernel, by decide +kernel⟩, by decide⟩
theorem zmp_X6_widthAt : zMP mX6_widthAt := ⟨rfl, by decide, by decide +kernel, kX6_widthAt, zwm 360 (by decide +kernel), (zwm 40 (by decide +kernel)), ⟨by decide +kernel, by decide +kernel⟩, by decide⟩
theorem zmp_X6_openAhead : zMP mX6_openAhead := ⟨rfl, by decide, by decide +kernel, kX6_openAhead, zwm 586 (by decide +kernel), (zwm 40 (by decide +kernel)), ⟨by decide +kernel, by decide +kernel⟩, by decide⟩
theorem zmp_X6_depthAt : zMP mX6_depthAt := ⟨rfl, by decide, by decide +kernel, kX6_depthAt, zwm 582 (by decide +kernel), (zwm 40 (by decide +kernel)), ⟨by decide +kernel, by decide +kernel⟩, by decide⟩
theorem zmp_X6_isNamed : zMP mX6_isNamed := ⟨rfl, by decide, by decide +kernel, kX6_isNamed, zwm 263 (by decide +kernel), (zwm 40 (by decide +kernel)), ⟨by decide +kernel, by decide +kernel⟩, by decide⟩
theorem zmp_X6_timesOf : zMP mX6_timesOf := ⟨rfl, by decide, by decide +kernel, kX6_timesOf, zwm 678 (by decide +kernel), (zwm 40 (by decide +kernel)), ⟨by decide +kernel, by decide +kernel⟩, by decide⟩
theorem zmp_X6_hasPinned : zMP mX6_hasPinned := ⟨rfl, by decide, by decide +kernel, kX6_hasPinned, zwm 880 (by decide +kernel), (zwm 40 (by decide +kernel)), ⟨by decide +kernel, by decide +kernel⟩, by decide⟩
theorem zmp_X6_allMovable : zMP mX6_allMovable := ⟨rfl, by decide, by decide +kernel, kX6_allMovable, zwm 897 (by decide +kernel), (zwm 40 (by decide +kernel)), ⟨by decide +kernel, by decide +kernel⟩, by decide⟩
theorem zmp_X6_canBreakBehind : zMP mX6_canBreakBehind := ⟨rfl, by decide, by decide +kernel, kX6_canBreakBehind, zwm 372 (by decide +kernel), (zwm 40 (by decide +kernel)), ⟨by decide +kernel, by decide +kernel⟩, by decide⟩
theorem zmp_X6_add : zMP mX6_add := ⟨rfl, by decide, by decide +kernel, kX6_add, zwm 554 (by decide +kernel), (zwm 40 (by decide +kernel)), ⟨by decide +kernel, by decide +kernel⟩, by decide⟩
theorem zmp_X6_replaceName : zMP mX6_replaceName := ⟨rfl, by decide, by decide +kernel, kX6_replaceName, zwm 885 (by decide +kernel), (zwm 40 (by decide +kernel)), ⟨by decide +kernel, by decide +kernel⟩, by decide⟩
theorem zmp_X6_takeAway : zMP mX6_takeAway := ⟨rfl, by decide, by decide +kernel, kX6_takeAway, zwm 834 (by decide +kernel), (zwm 40 (by decide +kernel)), ⟨by decide +kernel, by decide +kernel⟩, by decide⟩
theorem zmp_X6_carry : zMP mX6_carry := ⟨rfl, by decide, by decide +kernel, kX6_carry, zwm 838 (by decide +kernel), (zwm 40 (by decide +kernel)), ⟨by decide +kernel, by decide +kernel⟩, by decide⟩
theorem zmp_X6_joinWithNext : zMP mX6_joinWithNext := ⟨rfl, by decide, by decide +kernel, kX6_joinWithNext, zwm 842 (by decide +kernel), (zwm 40 (by decide +kernel)), ⟨by decide +kernel, by decide +kernel⟩, by decide⟩
theorem zmp_X6_copyFrom : zMP mX6_copyFrom := ⟨rfl, by decide, by decide +kernel, kX6_copyFrom, zwm 821 (by decide +kernel), (zwm 40 (by decide +kernel)), ⟨by decide +kernel, by decide +kernel⟩, by decide⟩
theorem zmp_X6_copyEntry : zMP mX6_copyEntry := ⟨rfl, by decide, by decide +kernel, kX6_copyEntry, zwm 825 (by decide +kernel), (zwm 40 (by decide +kernel)), ⟨by decide +kernel, by decide +kernel⟩, by decide⟩
theorem zmp_X6_put : zMP mX6_put := ⟨rfl, by decide, by decide +kernel, kX6_put, zwm 558 (by decide +kernel), (zwm 40 (by decide +kernel)), ⟨by decide +kernel, by decide +kernel⟩, by decide⟩
theorem zmp_X7_init : zMP mX7_init := ⟨rfl, by decide, by decide +kernel, kX7_init, zwm 64 (by decide +kernel), (zwm 39 (by decide +kernel)), ⟨by decide +kernel, by decide +kernel⟩, by decide⟩
theorem zmp_X7_addName : zMP mX7_addName := ⟨rfl, by decide, by decide +kernel, kX7_addName, zwm 451 (by decide +kernel), (zwm 39 (by decide +kernel)), ⟨by decide +kernel, by decide +kernel⟩, by decide⟩
theorem zmp_X7_addComment : zMP mX7_addComment := ⟨rfl, by decide, by decide +kernel, kX7_addComment, zwm 571 (by decide +kernel), (zwm 39 (by decide +kernel)), ⟨by decide +kernel, by decide +kernel⟩, by decide⟩
theorem zmp_X7_begin : zMP mX7_begin := ⟨rfl, by decide, by decide +kernel, kX7_begin, zwm 578 (by decide +kernel), (zwm 39 (by decide +kernel)), ⟨by decide +kernel, by decide +kernel⟩, by decide⟩
theorem zmp_X7_end : zMP mX7_end := ⟨rfl, by decide, by decide +kernel, kX7_end, zwm 593 (by decide +kernel), (zwm 39 (by decide +kernel)), ⟨by decide +kernel, by decide +kernel⟩, by decide⟩
theorem zmp_X7_entries : zMP mX7_entries := ⟨rfl, by decide, by decide +kernel, kX7_entries, zwm 234 (by decide +kernel), (zwm 39 (by decide +kernel)), ⟨by decide +kernel, by decide +kernel⟩, by decide⟩
theorem zmp_X7_kindOf : zMP mX7_kindOf := ⟨rfl, by decide, by decide +kernel, kX7_kindOf, zwm 626 (by decide +kernel), (zwm 39 (by decide +kernel)), ⟨by decide +kernel, by decide +kernel⟩, by decide⟩
theorem zmp_X7_nameOf : zMP mX7_nameOf := ⟨rfl, by decide, by decide +kernel, kX7_nameOf, zwm 651 (by decide +kernel), (zwm 39 (by decide +kernel)), ⟨by decide +kernel, by decide +kernel⟩, by decide⟩
theorem zmp_X7_widthOf : zMP mX7_widthOf := ⟨rfl, by decide, by decide +kernel, kX7_widthOf, zwm 660 (by decide +kernel), (zwm 39 (by decide +kernel)), ⟨by decide +kernel, by decide +kernel⟩, by decide⟩
theorem zmp_X7_depthOf : zMP mX7_depthOf := ⟨rfl, by decide, by decide +kernel, kX7_depthOf, zwm 667 (by decide +kernel), (zwm 39 (by decide +kernel)), ⟨by decide +kernel, by decide +kernel⟩, by decide⟩
theorem zmp_X7_occurrences : zMP mX7_occurrences := ⟨rfl, by decide, by decide +kernel, kX7_occurrences, zwm 674 (by decide +kernel), (zwm 39 (by decide +kernel)), ⟨by decide +kernel, by decide +kernel⟩, by decide⟩
theorem zmp_X7_commonest : zMP mX7_commonest := ⟨rfl, by decide, by decide +kernel, kX7_commonest, zwm 687 (by decide +kernel), (zwm 39 (by decide +kernel)), ⟨by decide +kernel, by decide +kernel⟩, by decide⟩
theorem zmp_X7_pin : zMP mX7_pin := ⟨rfl, by decide, by decide +kernel, kX7_pin, zwm 710 (by decide +kernel), (zwm 39 (by decide +kernel)), ⟨by decide +kernel, by decide +kernel⟩, by decide⟩
theorem zmp_X7_isPinned : zMP mX7_isPinned := ⟨rfl, by decide, by decide +kernel, kX7_isPinned, zwm 723 (by decide +kernel), (zwm 39 (by decide +kernel)), ⟨by decide +kernel, by decide +kernel⟩, by decide⟩
theorem zmp_X7_findings : zMP mX7_findings := ⟨rfl, by decide, by decide +kernel, kX7_findings, zwm 242 (by decide +kernel), (zwm 39 (by decide +kernel)), ⟨by decide +kernel, by decide +kernel⟩, by decide⟩
theorem zmp_X7_ruleOf : zMP mX7_ruleOf := ⟨rfl, by decide, by decide +kernel, kX7_ruleOf, zwm 730 (by decide +kernel), (zwm 39 (by decide +kernel)), ⟨by decide +kernel, by decide +kernel⟩, by decide⟩
theorem zmp_X7_firstOf : zMP mX7_firstOf := ⟨rfl, by decide, by decide +kernel, kX7_firstOf, zwm 746 (by decide +kernel), (zwm 39 (by decide +kernel)), ⟨by decide +kernel, by decide +kernel⟩, by decide⟩
theorem zmp_X7_lastOf : zMP mX7_lastOf := ⟨rfl, by decide, by decide +kernel, kX7_lastOf, zwm 753 (by decide +kernel), (zwm 39 (by decide +kernel)), ⟨by decide +kernel, by decide +kernel⟩, by decide⟩
theorem zmp_X7_canFix : zMP mX7_canFix := ⟨rfl, by decide, by decide +kernel, kX7_canFix, zwm 760 (by decide +kernel), (zwm 39 (by decide +kernel)), ⟨by decide +kernel, by decide +kernel⟩, by decide⟩
theorem zmp_X7_best : zMP mX7_best := ⟨rfl, by decide, by decide +kernel, kX7_best, zwm 295 (by decide +kernel), (zwm 39 (by decide +kernel)), ⟨by decide +kernel, by decide +kernel⟩, by decide⟩
theorem zmp_X7_bestByTrying : zMP mX7_bestByTrying := ⟨rfl, by decide, by decide +kernel, kX7_bestByTrying, zwm 768 (by decide +kernel), (zwm 39 (by decide +kernel)), ⟨by decide +kernel, by decide +kernel⟩, by decide⟩
theorem zmp_X7_isInBest : zMP mX7_isInBest := ⟨rfl, by decide, by decide +kernel, kX7_isInBest, zwm 791 (by decide +kernel), (zwm 39 (by decide +kernel)), ⟨by decide +kernel, by decide +kernel⟩, by decide⟩
theorem zmp_X7_fix : zMP mX7_fix := ⟨rfl, by decide, by decide +kernel, kX7_fix, zwm 799 (by decide +kernel), (zwm 39 (by decide +kernel)), ⟨by decide +kernel, by decide +kernel⟩, by decide⟩
theorem zmp_X7_fixBest : zMP mX7_fixBest := ⟨rfl, by decide, by decide +kernel, kX7_fixBest, zwm 866 (by decide +kernel), (zwm 39 (by decide +kernel)), ⟨by decide +kernel, by decide +kernel⟩, by decide⟩
theorem zmp_X7_rename : zMP mX7_rename := ⟨rfl, by decide, by decide +kernel, kX7_rename, zwm 874 (by decide +kernel), (zwm 39 (by decide +kernel)), ⟨by decide +kernel, by decide +kernel⟩, by decide⟩
theorem zmp_X7_move : zMP mX7_move := ⟨rfl, by decide, by decide +kernel, kX7_move, zwm 892 (by decide +kernel), (zwm 39 (by decide +kernel)), ⟨by decide +kernel, by decide +kernel⟩, by decide⟩
theorem zmp_X7_undo : zMP mX7_undo := ⟨rfl, by decide, by decide +kernel, kX7_undo, zwm 905 (by decide +kernel), (zwm 39 (by decide +kernel)), ⟨by decide +kernel, by decide +kernel⟩, by decide⟩
theorem zmp_X7_weight : zMP mX7_weight := ⟨rfl, by decide, by decide +kernel, kX7_weight, zwm 933 (by decide +kernel), (zwm 39 (by decide +kernel)), ⟨by decide +kernel, by decide +kernel⟩, by decide⟩
theorem zmp_X7_ruleAt : zMP mX7_ruleAt := ⟨rfl, by decide, by decide +kernel, kX7_ruleAt, zwm 945 (by decide +kernel), (zwm 39 (by decide +kernel)), ⟨by decide +kernel, by decide +kernel⟩, by decide⟩
theorem zmp_X7_undone : zMP mX7_undone := ⟨rfl, by decide, by decide +kernel, kX7_undone, zwm 957 (by decide +kernel), (zwm 39 (by decide +kernel)), ⟨by decide +kernel, by decide +kernel⟩, by decide⟩
theorem zmp_X7_undoneShare : zMP mX7_undoneShare := ⟨rfl, by decide, by decide +kernel, kX7_undoneShare, zwm 979 (by decide +kernel), (zwm 39 (by decide +kernel)), ⟨by decide +kernel, by decide +kernel⟩, by decide⟩
theorem zmp_X7_setWidth : zMP mX7_setWidth := ⟨rfl, by decide, by decide +kernel, kX7_setWidth, zwm 997 (by decide +kernel), (zwm 39 (by decide +kernel)), ⟨by decide +kernel, by decide +kernel⟩, by decide⟩
theorem zmp_X7_layOut : zMP mX7_layOut := ⟨rfl, by decide, by decide +kernel, kX7_layOut, zwm 345 (by decide +kernel), (zwm 39 (by decide +kernel)), ⟨by decide +kernel, by decide +kernel⟩, by decide⟩
theorem zmp_X7_isLaidOut : zMP mX7_isLaidOut := ⟨rfl, by decide, by decide +kernel, kX7_isLaidOut, zwm 381 (by decide +kernel), (zwm 39 (by decide +kernel)), ⟨by decide +kernel, by decide +kernel⟩, by decide⟩
theorem zmp_X7_cost : zMP mX7_cost := ⟨rfl, by decide, by decide +kernel, kX7_cost, zwm 385 (by decide +kernel), (zwm 39 (by decide +kernel)), ⟨by decide +kernel, by decide +kernel⟩, by decide⟩
theorem zmp_X7_costByTrying : zMP mX7_costByTrying := ⟨rfl, by decide, by decide +kernel, kX7_costByTrying, zwm 1005 (by decide +kernel), (zwm 39 (by decide +kernel)), ⟨by decide +kernel, by decide +kernel⟩, by decide⟩
theorem zmp_X7_lineOf : zMP mX7_lineOf := ⟨rfl, by decide, by decide +kernel, kX7_lineOf, zwm 1013 (by decide +kernel), (zwm 39 (by decide +kernel)), ⟨by decide +kernel, by decide +kernel⟩, by decide⟩
theorem zmp_X7_lineWidth : zMP mX7_lineWidth := ⟨rfl, by decide, by decide +kernel, kX7_lineWidth, zwm 1026 (by decide +kernel), (zwm 39 (by decide +kernel)), ⟨by decide +kernel, by decide +kernel⟩, by decide⟩
theorem zmp_X7_meanWidth : zMP mX7_meanWidth := ⟨rfl, by decide, by decide +kernel, kX7_meanWidth, zwm 1035 (by decide +kernel), (zwm 39 (by decide +kernel)), ⟨by decide +kernel, by decide +kernel⟩, by decide⟩
theorem zmp_X7_isTidy : zMP mX7_isTidy := ⟨rfl, by decide, by decide +kernel, kX7_isTidy, zwm 393 (by decide +kernel), (zwm 39 (by decide +kernel)), ⟨by decide +kernel, by decide +kernel⟩, by decide⟩
theorem zmp_X7_needName : zMP mX7_needName := ⟨rfl, by decide, by decide +kernel, kX7_needName, zwm 454 (by decide +kernel), (zwm 39 (by decide +kernel)), ⟨by decide +kernel, by decide +kernel⟩, by decide⟩
theorem zmp_X7_needLength : zMP mX7_needLength := ⟨rfl, by decide, by decide +kernel, kX7_needLength, zwm 529 (by decide +kernel), (zwm 39 (by decide +kernel)), ⟨by decide +kernel, by decide +kernel⟩, by decide⟩
theorem zmp_X7_needRule : zMP mX7_needRule := ⟨rfl, by decide, by decide +kernel, kX7_needRule, zwm 936 (by decide +kernel), (zwm 39 (by decide +kernel)), ⟨by decide +kernel, by decide +kernel⟩, by decide⟩
theorem zmp_X7_needEntry : zMP mX7_needEntry := ⟨rfl, by decide, by decide +kernel, kX7_needEntry, zwm 630 (by decide +kernel), (zwm 39 (by decide +kernel)), ⟨by decide +kernel, by decide +kernel⟩, by decide⟩
theorem zmp_X7_needFinding : zMP mX7_needFinding := ⟨rfl, by decide, by decide +kernel, kX7_needFinding, zwm 734 (by decide +kernel), (zwm 39 (by decide +kernel)), ⟨by decide +kernel, by decide +kernel⟩, by decide⟩
theorem zmp_X7_needLayout : zMP mX7_needLayout := ⟨rfl, by decide, by decide +kernel, kX7_needLayout, zwm 1017 (by decide +kernel), (zwm 39 (by decide +kernel)), ⟨by decide +kernel, by decide +kernel⟩, by decide⟩
theorem zmp_X7_append : zMP mX7_append := ⟨rfl, by decide, by decide +kernel, kX7_append, zwm 534 (by decide +kernel), (zwm 39 (by decide +kernel)), ⟨by decide +kernel, by decide +kernel⟩, by decide⟩
theorem zmp_X7_startDeed : zMP mX7_startDeed := ⟨rfl, by decide, by decide +kernel, kX7_startDeed, zwm 804 (by decide +kernel), (zwm 39 (by decide +kernel)), ⟨by decide +kernel, by decide +kernel⟩, by decide⟩
theorem zmp_X7_chooseBest : zMP mX7_chooseBest := ⟨rfl, by decide, by decide +kernel, kX7_chooseBest, zwm 299 (by decide +kernel), (zwm 39 (by decide +kernel)), ⟨by decide +kernel, by decide +kernel⟩, by decide⟩
theorem zmp_X7_applyFix : zMP mX7_applyFix := ⟨rfl, by decide, by decide +kernel, kX7_applyFix, zwm 830 (by decide +kernel), (zwm 39 (by decide +kernel)), ⟨by decide +kernel, by decide +kernel⟩, by decide⟩
theorem zmp_X7_shownIsLikeTried : zMP mX7_shownIsLikeTried := ⟨rfl, by decide, by decide +kernel, kX7_shownIsLikeTried, zwm 397 (by decide +kernel), (zwm 39 (by decide +kernel)), ⟨by decide +kernel, by decide +kernel⟩, by decide⟩
theorem zmp_X7_costOfLine : zMP mX7_costOfLine := ⟨rfl, by decide, by decide +kernel, kX7_costOfLine, zwm 367 (by decide +kernel), (zwm 39 (by decide +kernel)), ⟨by decide +kernel, by decide +kernel⟩, by decide⟩
theorem zmp_X7_leastByTrying : zMP mX7_leastByTrying := ⟨rfl, by decide, by decide +kernel, kX7_leastByTrying, zwm 416 (by decide +kernel), (zwm 39 (by decide +kernel)), ⟨by decide +kernel, by decide +kernel⟩, by decide⟩
theorem zmp_X7_mostByTrying : zMP mX7_mostByTrying := ⟨rfl, by decide, by decide +kernel, kX7_mostByTrying, zwm 438 (by decide +kernel), (zwm 39 (by decide +kernel)), ⟨by decide +kernel, by decide +kernel⟩, by decide⟩
theorem zmp_X7_read : zMP mX7_read := ⟨rfl, by decide, by decide +kernel, kX7_read, zwm 103 (by decide +kernel), (zwm 39 (by decide +kernel)), ⟨by decide +kernel, by decide +kernel⟩, by decide⟩
theorem zmp_X7_write : zMP mX7_write := ⟨rfl, by decide, by decide +kernel, kX7_write, zwm 106 (by decide +kernel), (zwm 39 (by decide +kernel)), ⟨by decide +kernel, by decide +kernel⟩, by decide⟩
theorem zmp_X7_readFlag : zMP mX7_readFlag := ⟨rfl, by decide, by decide +kernel, kX7_readFlag, zwm 276 (by decide +kernel), (zwm 39 (by decide +kernel)), ⟨by decide +kernel, by decide +kernel⟩, by decide⟩
theorem zmp_X7_writeFlag : zMP mX7_writeFlag := ⟨rfl, by decide, by decide +kernel, kX7_writeFlag, zwm 337 (by decide +kernel), (zwm 39 (by decide +kernel)), ⟨by decide +kernel, by decide +kernel⟩, by decide⟩
theorem zmp_X8_init : zMP mX8_init := ⟨rfl, by decide, by decide +kernel, kX8_init, zwm 1041 (by decide +kernel), (zwm 47 (by decide +kernel)), ⟨by decide +kernel, by decide +kernel⟩, by decide⟩
theorem zmp_X8_thrown : zMP mX8_thrown := ⟨rfl, by decide, by decide +kernel, kX8_thrown, zwm 1126 (by decide +kernel), (zwm 47 (by decide +kernel)), ⟨by decide +kernel, by decide +kernel⟩, by decide⟩
theorem zmp_X8_in : zMP mX8_in := ⟨rfl, by decide, by decide +kernel, kX8_in, zwm 1136 (by decide +kernel), (zwm 47 (by decide +kernel)), ⟨by decide +kernel, by decide +kernel⟩, by decide⟩
theorem zmp_X8_fails : zMP mX8_fails := ⟨rfl, by decide, by decide +kernel, kX8_fails, zwm 1140 (by decide +kernel), (zwm 47 (by decide +kernel)), ⟨by decide +kernel, by decide +kernel⟩, by decide⟩
theorem zmp_X8_noEntry : zMP mX8_noEntry := ⟨rfl, by decide, by decide +kernel, kX8_noEntry, zwm 1176 (by decide +kernel), (zwm 47 (by decide +kernel)), ⟨by decide +kernel, by decide +kernel⟩, by decide⟩
theorem zmp_X8_isName : zMP mX8_isName := ⟨rfl, by decide, by decide +kernel, kX8_isName, zwm 1133 (by decide +kernel), (zwm 47 (by decide +kernel)), ⟨by decide +kernel, by decide +kernel⟩, by decide⟩
theorem zmp_X8_add : zMP mX8_add := ⟨rfl, by decide, by decide +kernel, kX8_add, zwm 1144 (by decide +kernel), (zwm 47 (by decide +kernel)), ⟨by decide +kernel, by decide +kernel⟩, by decide⟩
theorem zmp_X8_depth : zMP mX8_depth := ⟨rfl, by decide, by decide +kernel, kX8_depth, zwm 1156 (by decide +kernel), (zwm 47 (by decide +kernel)), ⟨by decide +kernel, by decide +kernel⟩, by decide⟩
theorem zmp_X8_open : zMP mX8_open := ⟨rfl, by decide, by decide +kernel, kX8_open, zwm 1164 (by decide +kernel), (zwm 47 (by decide +kernel)), ⟨by decide +kernel, by decide +kernel⟩, by decide⟩
theorem zmp_X8_addName : zMP mX8_addName := ⟨rfl, by decide, by decide +kernel, kX8_addName, zwm 1130 (by decide +kernel), (zwm 47 (by decide +kernel)), ⟨by decide +kernel, by decide +kernel⟩, by decide⟩
theorem zmp_X8_addComment : zMP mX8_addComment := ⟨rfl, by decide, by decide +kernel, kX8_addComment, zwm 1148 (by decide +kernel), (zwm 47 (by decide +kernel)), ⟨by decide +kernel, by decide +kernel⟩, by decide⟩
theorem zmp_X8_begin : zMP mX8_begin := ⟨rfl, by decide, by decide +kernel, kX8_begin, zwm 1152 (by decide +kernel), (zwm 47 (by decide +kernel)), ⟨by decide +kernel, by decide +kernel⟩, by decide⟩
theorem zmp_X8_end : zMP mX8_end := ⟨rfl, by decide, by decide +kernel, kX8_end, zwm 1160 (by decide +kernel), (zwm 47 (by decide +kernel)), ⟨by decide +kernel, by decide +kernel⟩, by decide⟩
theorem zmp_X8_entries : zMP mX8_entries := ⟨rfl, by decide, by decide +kernel, kX8_entries, zwm 1168 (by decide +kernel), (zwm 47 (by decide +kernel)), ⟨by decide +kernel, by decide +kernel⟩, by decide⟩
theorem zmp_X8_kindOf : zMP mX8_kindOf := ⟨rfl, by decide, by decide +kernel, kX8_kindOf, zwm 1172 (by decide +kernel), (zwm 47 (by decide +kernel)), ⟨by decide +kernel, by decide +kernel⟩, by decide⟩
theorem zmp_X8_nameOf : zMP mX8_nameOf := ⟨rfl, by decide, by decide +kernel, kX8_nameOf, zwm 1180 (by decide +kernel), (zwm 47 (by decide +kernel)), ⟨by decide +kernel, by decide +kernel⟩, by decide⟩
theorem zmp_X8_wide : zMP mX8_wide := ⟨rfl, by decide, by decide +kernel, kX8_wide, zwm 1188 (by decide +kernel), (zwm 47 (by decide +kernel)), ⟨by decide +kernel, by decide +kernel⟩, by decide⟩
theorem zmp_X8_widthOf : zMP mX8_widthOf := ⟨rfl, by decide, by decide +kernel, kX8_widthOf, zwm 1184 (by decide +kernel), (zwm 47 (by decide +kernel)), ⟨by decide +kernel, by decide +kernel⟩, by decide⟩
theorem zmp_X8_depthOf : zMP mX8_depthOf := ⟨rfl, by decide, by decide +kernel, kX8_depthOf, zwm 1192 (by decide +kernel), (zwm 47 (by decide +kernel)), ⟨by decide +kernel, by decide +kernel⟩, by decide⟩
theorem zmp_X8_occurs : zMP mX8_occurs := ⟨rfl, by decide, by decide +kernel, kX8_occurs, zwm 1200 (by decide +kernel), (zwm 47 (by decide +kernel)), ⟨by decide +kernel, by decide +kernel⟩, by decide⟩
theorem zmp_X8_occurrences : zMP mX8_occurrences := ⟨rfl, by decide, by decide +kernel, kX8_occurrences, zwm 1196 (by decide +kernel), (zwm 47 (by decide +kernel)), ⟨by decide +kernel, by decide +kernel⟩, by decide⟩
theorem zmp_X8_commonest : zMP mX8_commonest := ⟨rfl, by decide, by decide +kernel, kX8_commonest, zwm 1204 (by decide +kernel), (zwm 47 (by decide +kernel)), ⟨by decide +kernel, by decide +kernel⟩, by decide⟩
theorem zmp_X8_pin : zMP mX8_pin := ⟨rfl, by decide, by decide +kernel, kX8_pin, zwm 1208 (by decide +kernel), (zwm 47 (by decide +kernel)), ⟨by decide +kernel, by decide +kernel⟩, by decide⟩
theorem zmp_X8_isPinned : zMP mX8_isPinned := ⟨rfl, by decide, by decide +kernel, kX8_isPinned, zwm 1212 (by decide +kernel), (zwm 47 (by decide +kernel)), ⟨by decide +kernel, by decide +kernel⟩, by decide⟩
theorem zmp_X8_are : zMP mX8_are := ⟨rfl, by decide, by decide +kernel, kX8_are, zwm 1224 (by decide +kernel), (zwm 47 (by decide +kernel)), ⟨by decide +kernel, by decide +kernel⟩, by decide⟩
theorem zmp_X8_find : zMP mX8_find := ⟨rfl, by decide, by decide +kernel, kX8_find, zwm 1228 (by decide +kernel), (zwm 47 (by decide +kernel)), ⟨by decide +kernel, by decide +kernel⟩, by decide⟩
theorem zmp_X8_fixable : zMP mX8_fixable := ⟨rfl, by decide, by decide +kernel, kX8_fixable, zwm 1232 (by decide +kernel), (zwm 47 (by decide +kernel)), ⟨by decide +kernel, by decide +kernel⟩, by decide⟩
theorem zmp_X8_look : zMP mX8_look := ⟨rfl, by decide, by decide +kernel, kX8_look, zwm 1220 (by decide +kernel), (zwm 47 (by decide +kernel)), ⟨by decide +kernel, by decide +kernel⟩, by decide⟩
theorem zmp_X8_findings : zMP mX8_findings := ⟨rfl, by decide, by decide +kernel, kX8_findings, zwm 1216 (by decide +kernel), (zwm 47 (by decide +kernel)), ⟨by decide +kernel, by decide +kernel⟩, by decide⟩
theorem zmp_X8_noFinding : zMP mX8_noFinding := ⟨rfl, by decide, by decide +kernel, kX8_noFinding, zwm 1240 (by decide +kernel), (zwm 47 (by decide +kernel)), ⟨by decide +kernel, by decide +kernel⟩, by decide⟩
theorem zmp_X8_ruleOf : zMP mX8_ruleOf := ⟨rfl, by decide, by decide +kernel, kX8_ruleOf, zwm 1236 (by decide +kernel), (zwm 47 (by decide +kernel)), ⟨by decide +kernel, by decide +kernel⟩, by decide⟩
theorem zmp_X8_firstOf : zMP mX8_firstOf := ⟨rfl, by decide, by decide +kernel, kX8_firstOf, zwm 1244 (by decide +kernel), (zwm 47 (by decide +kernel)), ⟨by decide +kernel, by decide +kernel⟩, by decide⟩
theorem zmp_X8_lastOf : zMP mX8_lastOf := ⟨rfl, by decide, by decide +kernel, kX8_lastOf, zwm 1248 (by decide +kernel), (zwm 47 (by decide +kernel)), ⟨by decide +kernel, by decide +kernel⟩, by decide⟩
theorem zmp_X8_canFix : zMP mX8_canFix := ⟨rfl, by decide, by decide +kernel, kX8_canFix, zwm 1252 (by decide +kernel), (zwm 47 (by decide +kernel)), ⟨by decide +kernel, by decide +kernel⟩, by decide⟩
theorem zmp_X8_fixables : zMP mX8_fixables := ⟨rfl, by decide, by decide +kernel, kX8_fixables, zwm 1264 (by decide +kernel), (zwm 47 (by decide +kernel)), ⟨by decide +kernel, by decide +kernel⟩, by decide⟩
theorem zmp_X8_best : zMP mX8_best := ⟨rfl, by decide, by decide +kernel, kX8_best, zwm 1256 (by decide +kernel), (zwm 47 (by decide +kernel)), ⟨by decide +kernel, by decide +kernel⟩, by decide⟩
theorem zmp_X8_bestByTrying : zMP mX8_bestByTrying := ⟨rfl, by decide, by decide +kernel, kX8_bestByTrying, zwm 1260 (by decide +kernel), (zwm 47 (by decide +kernel)), ⟨by decide +kernel, by decide +kernel⟩, by decide⟩
theorem zmp_X8_isInBest : zMP mX8_isInBest := ⟨rfl, by decide, by decide +kernel, kX8_isInBest, zwm 1268 (by decide +kernel), (zwm 47 (by decide +kernel)), ⟨by decide +kernel, by decide +kernel⟩, by decide⟩
theorem zmp_X8_keep : zMP mX8_keep := ⟨rfl, by decide, by decide +kernel, kX8_keep, zwm 1276 (by decide +kernel), (zwm 47 (by decide +kernel)), ⟨by decide +kernel, by decide +kernel⟩, by decide⟩
theorem zmp_X8_put : zMP mX8_put := ⟨rfl, by decide, by decide +kernel, kX8_put, zwm 1288 (by decide +kernel), (zwm 47 (by decide +kernel)), ⟨by decide +kernel, by decide +kernel⟩, by decide⟩
theorem zmp_X8_remove : zMP mX8_remove := ⟨rfl, by decide, by decide +kernel, kX8_remove, zwm 1292 (by decide +kernel), (zwm 47 (by decide +kernel)), ⟨by decide +kernel, by decide +kernel⟩, by decide⟩
theorem zmp_X8_change : zMP mX8_change := ⟨rfl, by decide, by decide +kernel, kX8_change, zwm 1284 (by decide +kernel), (zwm 47 (by decide +kernel)), ⟨by decide +kernel, by decide +kernel⟩, by decide⟩
theorem zmp_X8_fixes : zMP mX8_fixes := ⟨rfl, by decide, by decide +kernel, kX8_fixes, zwm 1280 (by decide +kernel), (zwm 47 (by decide +kernel)), ⟨by decide +kernel, by decide +kernel⟩, by decide⟩
theorem zmp_X8_fix : zMP mX8_fix := ⟨rfl, by decide, by decide +kernel, kX8_fix, zwm 1272 (by decide +kernel), (zwm 47 (by decide +kernel)), ⟨by decide +kernel, by decide +kernel⟩, by decide⟩
theorem zmp_X8_fixBest : zMP mX8_fixBest := ⟨rfl, by decide, by decide +kernel, kX8_fixBest, zwm 1296 (by decide +kernel), (zwm 47 (by decide +kernel)), ⟨by decide +kernel, by decide +kernel⟩, by decide⟩
theorem zmp_X8_rename : zMP mX8_rename := ⟨rfl, by decide, by decide +kernel, kX8_rename, zwm 1300 (by decide +kernel), (zwm 47 (by decide +kernel)), ⟨by decide +kernel, by decide +kernel⟩, by decide⟩
theorem zmp_X8_move : zMP mX8_move := ⟨rfl, by decide, by decide +kernel, kX8_move, zwm 1304 (by decide +kernel), (zwm 47 (by decide +kernel)), ⟨by decide +kernel, by decide +kernel⟩, by decide⟩
theorem zmp_X8_undo : zMP mX8_undo := ⟨rfl, by decide, by decide +kernel, kX8_undo, zwm 1308 (by decide +kernel), (zwm 47 (by decide +kernel)), ⟨by decide +kernel, by decide +kernel⟩, by decide⟩
theorem zmp_X8_isRule : zMP mX8_isRule := ⟨rfl, by decide, by decide +kernel, kX8_isRule, zwm 1315 (by decide +kernel), (zwm 47 (by decide +kernel)), ⟨by decide +kernel, by decide +kernel⟩, by decide⟩
theorem zmp_X8_weight : zMP mX8_weight := ⟨rfl, by decide, by decide +kernel, kX8_weight, zwm 1312 (by decide +kernel), (zwm 47 (by decide +kernel)), ⟨by decide +kernel, by decide +kernel⟩, by decide⟩
theorem zmp_X8_ruleAt : zMP mX8_ruleAt := ⟨rfl, by decide, by decide +kernel, kX8_ruleAt, zwm 1319 (by decide +kernel), (zwm 47 (by decide +kernel)), ⟨by decide +kernel, by decide +kernel⟩, by decide⟩
theorem zmp_X8_undone : zMP mX8_undone := ⟨rfl, by decide, by decide +kernel, kX8_undone, zwm 1323 (by decide +kernel), (zwm 47 (by decide +kernel)), ⟨by decide +kernel, by decide +kernel⟩, by decide⟩
theorem zmp_X8_undoneShare : zMP mX8_undoneShare := ⟨rfl, by decide, by decide +kernel, kX8_undoneShare, zwm 1327 (by decide +kernel), (zwm 47 (by decide +kernel)), ⟨by decide +kernel, by decide +kernel⟩, by decide⟩
theorem zmp_X8_setWidth : zMP mX8_setWidth := ⟨rfl, by decide, by decide +kernel, kX8_setWidth, zwm 1331 (by decide +kernel), (zwm 47 (by decide +kernel)), ⟨by decide +kernel, by decide +kernel⟩, by decide⟩
theorem zmp_X8_span : zMP mX8_span := ⟨rfl, by decide, by decide +kernel, kX8_span, zwm 1348 (by decide +kernel), (zwm 47 (by decide +kernel)), ⟨by decide +kernel, by decide +kernel⟩, by decide⟩
theorem zmp_X8_costs : zMP mX8_costs := ⟨rfl, by decide, by decide +kernel, kX8_costs, zwm 1344 (by decide +kernel), (zwm 47 (by decide +kernel)), ⟨by decide +kernel, by decide +kernel⟩, by decide⟩
theorem zmp_X8_measure : zMP mX8_measure := ⟨rfl, by decide, by decide +kernel, kX8_measure, zwm 1339 (by decide +kernel), (zwm 47 (by decide +kernel)), ⟨by decide +kernel, by decide +kernel⟩, by decide⟩
theorem zmp_X8_layOut : zMP mX8_layOut := ⟨rfl, by decide, by decide +kernel, kX8_layOut, zwm 1335 (by decide +kernel), (zwm 47 (by decide +kernel)), ⟨by decide +kernel, by decide +kernel⟩, by decide⟩
theorem zmp_X8_isLaidOut : zMP mX8_isLaidOut := ⟨rfl, by decide, by decide +kernel, kX8_isLaidOut, zwm 1352 (by decide +kernel), (zwm 47 (by decide +kernel)), ⟨by decide +kernel, by decide +kernel⟩, by decide⟩
theorem zmp_X8_cost : zMP mX8_cost := ⟨rfl, by decide, by decide +kernel, kX8_cost, zwm 1356 (by decide +kernel), (zwm 47 (by decide +kernel)), ⟨by decide +kernel, by decide +kernel⟩, by decide⟩
theorem zmp_X8_costByTrying : zMP mX8_costByTrying := ⟨rfl, by decide, by decide +kernel, kX8_costByTrying, zwm 1360 (by decide +kernel), (zwm 47 (by decide +kernel)), ⟨by decide +kernel, by decide +kernel⟩, by decide⟩
theorem zmp_X8_lineOf : zMP mX8_lineOf := ⟨rfl, by decide, by decide +kernel, kX8_lineOf, zwm 1364 (by decide +kernel), (zwm 47 (by decide +kernel)), ⟨by decide +kernel, by decide +kernel⟩, by decide⟩
theorem zmp_X8_lineWidth : zMP mX8_lineWidth := ⟨rfl, by decide, by decide +kernel, kX8_lineWidth, zwm 1368 (by decide +kernel), (zwm 47 (by decide +kernel)), ⟨by decide +kernel, by decide +kernel⟩, by decide⟩
theorem zmp_X8_meanWidth : zMP mX8_meanWidth := ⟨rfl, by decide, by decide +kernel, kX8_meanWidth, zwm 1372 (by decide +kernel), (zwm 47 (by decide +kernel)), ⟨by decide +kernel, by decide +kernel⟩, by decide⟩
theorem zmp_X8_isTidy : zMP mX8_isTidy := ⟨rfl, by decide, by decide +kernel, kX8_isTidy, zwm 1376 (by decide +kernel), (zwm 47 (by decide +kernel)), ⟨by decide +kernel, by decide +kernel⟩, by decide⟩
theorem zmp_L_addName : zMP mL_addName := ⟨rfl, by decide, by decide +kernel, kL_addName, zwm 445 (by decide +kernel), (zwm 38 (by decide +kernel)), ⟨by decide +kernel, by decide +kernel⟩, by decide⟩
theorem zmp_L_addComment : zMP mL_addComment := ⟨rfl, by decide, by decide +kernel, kL_addComment, zwm 567 (by decide +kernel), (zwm 38 (by decide +kernel)), ⟨by decide +kernel, by decide +kernel⟩, by decide⟩
theorem zmp_L_begin : zMP mL_begin := ⟨rfl, by decide, by decide +kernel, kL_begin, zwm 574 (by decide +kernel), (zwm 38 (by decide +kernel)), ⟨by decide +kernel, by decide +kernel⟩, by decide⟩
theorem zmp_L_end : zMP mL_end := ⟨rfl, by decide, by decide +kernel, kL_end, zwm 589 (by decide +kernel), (zwm 38 (by decide +kernel)), ⟨by decide +kernel, by decide +kernel⟩, by decide⟩
theorem zmp_L_kindOf : zMP mL_kindOf := ⟨rfl, by decide, by decide +kernel, kL_kindOf, zwm 598 (by decide +kernel), (zwm 38 (by decide +kernel)), ⟨by decide +kernel, by decide +kernel⟩, by decide⟩
theorem zmp_L_nameOf : zMP mL_nameOf := ⟨rfl, by decide, by decide +kernel, kL_nameOf, zwm 647 (by decide +kernel), (zwm 38 (by decide +kernel)), ⟨by decide +kernel, by decide +kernel⟩, by decide⟩
theorem zmp_L_widthOf : zMP mL_widthOf := ⟨rfl, by decide, by decide +kernel, kL_widthOf, zwm 656 (by decide +kernel), (zwm 38 (by decide +kernel)), ⟨by decide +kernel, by decide +kernel⟩, by decide⟩
theorem zmp_L_depthOf : zMP mL_depthOf := ⟨rfl, by decide, by decide +kernel, kL_depthOf, zwm 663 (by decide +kernel), (zwm 38 (by decide +kernel)), ⟨by decide +kernel, by decide +kernel⟩, by decide⟩
theorem zmp_L_occurrences : zMP mL_occurrences := ⟨rfl, by decide, by decide +kernel, kL_occurrences, zwm 670 (by decide +kernel), (zwm 38 (by decide +kernel)), ⟨by decide +kernel, by decide +kernel⟩, by decide⟩
theorem zmp_L_commonest : zMP mL_commonest := ⟨rfl, by decide, by decide +kernel, kL_commonest, zwm 682 (by decide +kernel), (zwm 38 (by decide +kernel)), ⟨by decide +kernel, by decide +kernel⟩, by decide⟩
theorem zmp_L_pin : zMP mL_pin := ⟨rfl, by decide, by decide +kernel, kL_pin, zwm 706 (by decide +kernel), (zwm 38 (by decide +kernel)), ⟨by decide +kernel, by decide +kernel⟩, by decide⟩
theorem zmp_L_isPinned : zMP mL_isPinned := ⟨rfl, by decide, by decide +kernel, kL_isPinned, zwm 719 (by decide +kernel), (zwm 38 (by decide +kernel)), ⟨by decide +kernel, by decide +kernel⟩, by decide⟩
theorem zmp_L_ruleOf : zMP mL_ruleOf := ⟨rfl, by decide, by decide +kernel, kL_ruleOf, zwm 726 (by decide +kernel), (zwm 38 (by decide +kernel)), ⟨by decide +kernel, by decide +kernel⟩, by decide⟩
theorem zmp_L_firstOf : zMP mL_firstOf := ⟨rfl, by decide, by decide +kernel, kL_firstOf, zwm 742 (by decide +kernel), (zwm 38 (by decide +kernel)), ⟨by decide +kernel, by decide +kernel⟩, by decide⟩
theorem zmp_L_lastOf : zMP mL_lastOf := ⟨rfl, by decide, by decide +kernel, kL_lastOf, zwm 749 (by decide +kernel), (zwm 38 (by decide +kernel)), ⟨by decide +kernel, by decide +kernel⟩, by decide⟩
theorem zmp_L_canFix : zMP mL_canFix := ⟨rfl, by decide, by decide +kernel, kL_canFix, zwm 756 (by decide +kernel), (zwm 38 (by decide +kernel)), ⟨by decide +kernel, by decide +kernel⟩, by decide⟩
theorem zmp_L_bestByTrying : zMP mL_bestByTrying := ⟨rfl, by decide, by decide +kernel, kL_bestByTrying, zwm 763 (by decide +kernel), (zwm 38 (by decide +kernel)), ⟨by decide +kernel, by decide +kernel⟩, by decide⟩
theorem zmp_L_isInBest : zMP mL_isInBest := ⟨rfl, by decide, by decide +kernel, kL_isInBest, zwm 787 (by decide +kernel), (zwm 38 (by decide +kernel)), ⟨by decide +kernel, by decide +kernel⟩, by decide⟩
theorem zmp_L_fix : zMP mL_fix := ⟨rfl, by decide, by decide +kernel, kL_fix, zwm 795 (by decide +kernel), (zwm 38 (by decide +kernel)), ⟨by decide +kernel, by decide +kernel⟩, by decide⟩
theorem zmp_L_fixBest : zMP mL_fixBest := ⟨rfl, by decide, by decide +kernel, kL_fixBest, zwm 862 (by decide +kernel), (zwm 38 (by decide +kernel)), ⟨by decide +kernel, by decide +kernel⟩, by decide⟩
theorem zmp_L_rename : zMP mL_rename := ⟨rfl, by decide, by decide +kernel, kL_rename, zwm 870 (by decide +kernel), (zwm 38 (by decide +kernel)), ⟨by decide +kernel, by decide +kernel⟩, by decide⟩
theorem zmp_L_move : zMP mL_move := ⟨rfl, by decide, by decide +kernel, kL_move, zwm 888 (by decide +kernel), (zwm 38 (by decide +kernel)), ⟨by decide +kernel, by decide +kernel⟩, by decide⟩
theorem zmp_L_undo : zMP mL_undo := ⟨rfl, by decide, by decide +kernel, kL_undo, zwm 901 (by decide +kernel), (zwm 38 (by decide +kernel)), ⟨by decide +kernel, by decide +kernel⟩, by decide⟩
theorem zmp_L_weight : zMP mL_weight := ⟨rfl, by decide, by decide +kernel, kL_weight, zwm 929 (by decide +kernel), (zwm 38 (by decide +kernel)), ⟨by decide +kernel, by decide +kernel⟩, by decide⟩
theorem zmp_L_ruleAt : zMP mL_ruleAt := ⟨rfl, by decide, by decide +kernel, kL_ruleAt, zwm 941 (by decide +kernel), (zwm 38 (by decide +kernel)), ⟨by decide +kernel, by decide +kernel⟩, by decide⟩
theorem zmp_L_undone : zMP mL_undone := ⟨rfl, by decide, by decide +kernel, kL_undone, zwm 953 (by decide +kernel), (zwm 38 (by decide +kernel)), ⟨by decide +kernel, by decide +kernel⟩, by decide⟩
theorem zmp_L_undoneShare : zMP mL_undoneShare := ⟨rfl, by decide, by decide +kernel, kL_undoneShare, zwm 961 (by decide +kernel), (zwm 38 (by decide +kernel)), ⟨by decide +kernel, by decide +kernel⟩, by decide⟩
theorem zmp_L_setWidth : zMP mL_setWidth := ⟨rfl, by decide, by decide +kernel, kL_setWidth, zwm 993 (by decide +kernel), (zwm 38 (by decide +kernel)), ⟨by decide +kernel, by decide +kernel⟩, by decide⟩
theorem zmp_L_costByTrying : zMP mL_costByTrying := ⟨rfl, by decide, by decide +kernel, kL_costByTrying, zwm 1001 (by decide +kernel), (zwm 38 (by decide +kernel)), ⟨by decide +kernel, by decide +kernel⟩, by decide⟩
theorem zmp_L_lineOf : zMP mL_lineOf := ⟨rfl, by decide, by decide +kernel, kL_lineOf, zwm 1009 (by decide +kernel), (zwm 38 (by decide +kernel)), ⟨by decide +kernel, by decide +kernel⟩, by decide⟩
theorem zmp_L_lineWidth : zMP mL_lineWidth := ⟨rfl, by decide, by decide +kernel, kL_lineWidth, zwm 1022 (by decide +kernel), (zwm 38 (by decide +kernel)), ⟨by decide +kernel, by decide +kernel⟩, by decide⟩
theorem zmp_L_meanWidth : zMP mL_meanWidth := ⟨rfl, by decide, by decide +kernel, kL_meanWidth, zwm 1031 (by decide +kernel), (zwm 38 (by decide +kernel)), ⟨by decide +kernel, by decide +kernel⟩, by decide⟩
theorem zcon_r0 : ∀ q ∈ zconL0, (fun c k v => Cond.constant (zown c) k (Int32.ofInt v) ∈ zWS ∧ zi32 v) 0 q.1 q.2 := fun _ h => absurd h List.not_mem_nil
theorem zcon_r1 : ∀ q ∈ zconL1, (fun c k v => Cond.constant (zown c) k (Int32.ofInt v) ∈ zWS ∧ zi32 v) 1 q.1 q.2 := fun _ h => absurd h List.not_mem_nil
theorem zcon_r2 : ∀ q ∈ zconL2, (fun c k v => Cond.constant (zown c) k (Int32.ofInt v) ∈ zWS ∧ zi32 v) 2 q.1 q.2 := fun _ h => absurd h List.not_mem_nil
theorem zcon_r3 : ∀ q ∈ zconL3, (fun c k v => Cond.constant (zown c) k (Int32.ofInt v) ∈ zWS ∧ zi32 v) 3 q.1 q.2 := fun _ h => absurd h List.not_mem_nil
theorem zcon_4_58 : (fun c k v => Cond.constant (zown c) k (Int32.ofInt v) ∈ zWS ∧ zi32 v) 4 58 (1000000000) := ⟨(zwm 356 (by decide +kernel)), by decide, by decide⟩
theorem zcon_r4 : ∀ q ∈ zconL4, (fun c k v => Cond.constant (zown c) k (Int32.ofInt v) ∈ zWS ∧ zi32 v) 4 q.1 q.2 := List.forall_mem_cons.mpr ⟨zcon_4_58, fun _ h => absurd h List.not_mem_nil⟩
theorem zcon_r5 : ∀ q ∈ zconL5, (fun c k v => Cond.constant (zown c) k (Int32.ofInt v) ∈ zWS ∧ zi32 v) 5 q.1 q.2 := fun _ h => absurd h List.not_mem_nil
theorem zcon_r6 : ∀ q ∈ zconL6, (fun c k v => Cond.constant (zown c) k (Int32.ofInt v) ∈ zWS ∧ zi32 v) 6 q.1 q.2 := fun _ h => absurd h List.not_mem_nil
theorem zcon_7_335 : (fun c k v => Cond.constant (zown c) k (Int32.ofInt v) ∈ zWS ∧ zi32 v) 7 335 (1000000000) := ⟨(zwm 417 (by decide +kernel)), by decide, by decide⟩
theorem zcon_r7 : ∀ q ∈ zconL7, (fun c k v => Cond.constant (zown c) k (Int32.ofInt v) ∈ zWS ∧ zi32 v) 7 q.1 q.2 := List.forall_mem_cons.mpr ⟨zcon_7_335, fun _ h => absurd h List.not_mem_nil⟩
theorem zcon_8_166 : (fun c k v => Cond.constant (zown c) k (Int32.ofInt v) ∈ zWS ∧ zi32 v) 8 166 (1000000000) := ⟨(zwm 1340 (by decide +kernel)), by decide, by decide⟩
theorem zcon_r8 : ∀ q ∈ zconL8, (fun c k v => Cond.constant (zown c) k (Int32.ofInt v) ∈ zWS ∧ zi32 v) 8 q.1 q.2 := List.forall_mem_cons.mpr ⟨zcon_8_166, fun _ h => absurd h List.not_mem_nil⟩
theorem zcon_r9 : ∀ q ∈ zconL9, (fun c k v => Cond.constant (zown c) k (Int32.ofInt v) ∈ zWS ∧ zi32 v) 9 q.1 q.2 := fun _ h => absurd h List.not_mem_nil
theorem zcon_ok : ∀ c k v, zcon c k = some v → Cond.constant (zown c) k (Int32.ofInt v) ∈ zWS ∧ zi32 v := by
  intro c k v h
  refine ztab_all (P := (fun c k v => Cond.constant (zown c) k (Int32.ofInt v) ∈ zWS ∧ zi32 v)) (fun c r hr => ?_) h
  match c, hr with
  | 0, hr => cases hr; exact zcon_r0
  | 1, hr => cases hr; exact zcon_r1
  | 2, hr => cases hr; exact zcon_r2
  | 3, hr => cases hr; exact zcon_r3
  | 4, hr => cases hr; exact zcon_r4
  | 5, hr => cases hr; exact zcon_r5
  | 6, hr => cases hr; exact zcon_r6
  | 7, hr => cases hr; exact zcon_r7
  | 8, hr => cases hr; exact zcon_r8
  | 9, hr => cases hr; exact zcon_r9
  | n + 10, hr => simp [zconL] at hr
def zmthP (c k n : Nat) : Prop := (n = 1 → Cond.methodLink (zown c) k Lib.Math.max.name ∈ zWS ∧ Cond.static Lib.Math.max.name ∈ zWS ∧ Cond.initialized "java/lang/Math" ∈ zWS ∧ Cond.code Lib.Math.max.name Lib.Math.max.code 2 (some .int) ∈ zWS) ∧
    (n = 2 → Cond.methodLink (zown c) k Lib.Math.min.name ∈ zWS ∧ Cond.static Lib.Math.min.name ∈ zWS ∧ Cond.initialized "java/lang/Math" ∈ zWS ∧ Cond.code Lib.Math.min.name Lib.Math.min.code 2 (some .int) ∈ zWS) ∧
    (n = 3 → Cond.methodLink (zown c) k Lib.objectInit ∈ zWS ∧ Cond.instanceMethod Lib.objectInit ∈ zWS ∧ Cond.code Lib.objectInit ⟨#[0xb1]⟩ 1 none ∈ zWS)
theorem zm_max : Cond.static Lib.Math.max.name ∈ zWS ∧ Cond.initialized "java/lang/Math" ∈ zWS ∧ Cond.code Lib.Math.max.name Lib.Math.max.code 2 (some .int) ∈ zWS := ⟨(zwm 329 (by decide +kernel)), (zwm 57 (by decide +kernel)), zwm 330 (by decide +kernel)⟩
theorem zm_min : Cond.static Lib.Math.min.name ∈ zWS ∧ Cond.initialized "java/lang/Math" ∈ zWS ∧ Cond.code Lib.Math.min.name Lib.Math.min.code 2 (some .int) ∈ zWS := ⟨(zwm 283 (by decide +kernel)), (zwm 57 (by decide +kernel)), zwm 284 (by decide +kernel)⟩
theorem zm_oin : Cond.instanceMethod Lib.objectInit ∈ zWS ∧ Cond.code Lib.objectInit ⟨#[0xb1]⟩ 1 none ∈ zWS := ⟨(zwm 66 (by decide +kernel)), zwm 67 (by decide +kernel)⟩
theorem zmth_0_3 : zmthP 0 3 3 := ⟨fun h => absurd h (by decide), fun h => absurd h (by decide), fun _ => ⟨(zwm 176 (by decide +kernel)), zm_oin⟩⟩
theorem zmth_0_64 : zmthP 0 64 1 := ⟨fun _ => ⟨(zwm 328 (by decide +kernel)), zm_max⟩, fun h => absurd h (by decide), fun h => absurd h (by decide)⟩
theorem zmth_r0 : ∀ q ∈ zmthL0, zmthP 0 q.1 q.2 := List.forall_mem_cons.mpr ⟨zmth_0_3, List.forall_mem_cons.mpr ⟨zmth_0_64, fun _ h => absurd h List.not_mem_nil⟩⟩
theorem zmth_1_3 : zmthP 1 3 3 := ⟨fun h => absurd h (by decide), fun h => absurd h (by decide), fun _ => ⟨(zwm 129 (by decide +kernel)), zm_oin⟩⟩
theorem zmth_r1 : ∀ q ∈ zmthL1, zmthP 1 q.1 q.2 := List.forall_mem_cons.mpr ⟨zmth_1_3, fun _ h => absurd h List.not_mem_nil⟩
theorem zmth_2_3 : zmthP 2 3 3 := ⟨fun h => absurd h (by decide), fun h => absurd h (by decide), fun _ => ⟨(zwm 122 (by decide +kernel)), zm_oin⟩⟩
theorem zmth_2_25 : zmthP 2 25 2 := ⟨fun h => absurd h (by decide), fun _ => ⟨(zwm 809 (by decide +kernel)), zm_min⟩, fun h => absurd h (by decide)⟩
theorem zmth_r2 : ∀ q ∈ zmthL2, zmthP 2 q.1 q.2 := List.forall_mem_cons.mpr ⟨zmth_2_3, List.forall_mem_cons.mpr ⟨zmth_2_25, fun _ h => absurd h List.not_mem_nil⟩⟩
theorem zmth_3_3 : zmthP 3 3 3 := ⟨fun h => absurd h (by decide), fun h => absurd h (by decide), fun _ => ⟨(zwm 154 (by decide +kernel)), zm_oin⟩⟩
theorem zmth_3_78 : zmthP 3 78 2 := ⟨fun h => absurd h (by decide), fun _ => ⟨(zwm 282 (by decide +kernel)), zm_min⟩, fun h => absurd h (by decide)⟩
theorem zmth_r3 : ∀ q ∈ zmthL3, zmthP 3 q.1 q.2 := List.forall_mem_cons.mpr ⟨zmth_3_3, List.forall_mem_cons.mpr ⟨zmth_3_78, fun _ h => absurd h List.not_mem_nil⟩⟩
theorem zmth_4_3 : zmthP 4 3 3 := ⟨fun h => absurd h (by decide), fun h => absurd h (by decide), fun _ => ⟨(zwm 189 (by decide +kernel)), zm_oin⟩⟩
theorem zmth_r4 : ∀ q ∈ zmthL4, zmthP 4 q.1 q.2 := List.forall_mem_cons.mpr ⟨zmth_4_3, fun _ h => absurd h List.not_mem_nil⟩
theorem zmth_5_3 : zmthP 5 3 3 := ⟨fun h => absurd h (by decide), fun h => absurd h (by decide), fun _ => ⟨(zwm 98 (by decide +kernel)), zm_oin⟩⟩
theorem zmth_5_40 : zmthP 5 40 2 := ⟨fun h => absurd h (by decide), fun _ => ⟨(zwm 850 (by decide +kernel)), zm_min⟩, fun h => absurd h (by decide)⟩
theorem zmth_r5 : ∀ q ∈ zmthL5, zmthP 5 q.1 q.2 := List.forall_mem_cons.mpr ⟨zmth_5_3, List.forall_mem_cons.mpr ⟨zmth_5_40, fun _ h => absurd h List.not_mem_nil⟩⟩
theorem zmth_6_3 : zmthP 6 3 3 := ⟨fun h => absurd h (by decide), fun h => absurd h (by decide), fun _ => ⟨(zwm 73 (by decide +kernel)), zm_oin⟩⟩
theorem zmth_6_76 : zmthP 6 76 2 := ⟨fun h => absurd h (by decide), fun _ => ⟨(zwm 843 (by decide +kernel)), zm_min⟩, fun h => absurd h (by decide)⟩
theorem zmth_r6 : ∀ q ∈ zmthL6, zmthP 6 q.1 q.2 := List.forall_mem_cons.mpr ⟨zmth_6_3, List.forall_mem_cons.mpr ⟨zmth_6_76, fun _ h => absurd h List.not_mem_nil⟩⟩
theorem zmth_7_1 : zmthP 7 1 3 := ⟨fun h => absurd h (by decide), fun h => absurd h (by decide), fun _ => ⟨(zwm 65 (by decide +kernel)), zm_oin⟩⟩
theorem zmth_7_199 : zmthP 7 199 2 := ⟨fun h => absurd h (by decide), fun _ => ⟨(zwm 421 (by decide +kernel)), zm_min⟩, fun h => absurd h (by decide)⟩
theorem zmth_7_205 : zmthP 7 205 1 := ⟨fun _ => ⟨(zwm 442 (by decide +kernel)), zm_max⟩, fun h => absurd h (by decide), fun h => absurd h (by decide)⟩
theorem zmth_r7 : ∀ q ∈ zmthL7, zmthP 7 q.1 q.2 := List.forall_mem_cons.mpr ⟨zmth_7_1, List.forall_mem_cons.mpr ⟨zmth_7_199, List.forall_mem_cons.mpr ⟨zmth_7_205, fun _ h => absurd h List.not_mem_nil⟩⟩⟩
theorem zmth_8_1 : zmthP 8 1 3 := ⟨fun h => absurd h (by decide), fun h => absurd h (by decide), fun _ => ⟨(zwm 1042 (by decide +kernel)), zm_oin⟩⟩
theorem zmth_r8 : ∀ q ∈ zmthL8, zmthP 8 q.1 q.2 := List.forall_mem_cons.mpr ⟨zmth_8_1, fun _ h => absurd h List.not_mem_nil⟩
theorem zmth_r9 : ∀ q ∈ zmthL9, zmthP 9 q.1 q.2 := fun _ h => absurd h List.not_mem_nil
theorem zmth_ok0 : ∀ c k v, ztab zmthL c k = some v → zmthP c k v := by
  intro c k v h
  refine ztab_all (P := zmthP) (fun c r hr => ?_) h
  match c, hr with
  | 0, hr => cases hr; exact zmth_r0
  | 1, hr => cases hr; exact zmth_r1
  | 2, hr => cases hr; exact zmth_r2
  | 3, hr => cases hr; exact zmth_r3
  | 4, hr => cases hr; exact zmth_r4
  | 5, hr => cases hr; exact zmth_r5
  | 6, hr => cases hr; exact zmth_r6
  | 7, hr => cases hr; exact zmth_r7
  | 8, hr => cases hr; exact zmth_r8
  | 9, hr => cases hr; exact zmth_r9
  | n + 10, hr => simp [zmthL] at hr
theorem zmth_ok : ∀ c k, zmthP c k (zmth c k) := by
  intro c k
  unfold zmth
  split
  · rename_i n hn; exact zmth_ok0 _ _ _ hn
  · exact ⟨fun h => absurd h (by decide), fun h => absurd h (by decide), fun h => absurd h (by decide)⟩
theorem zfld_0_9 : zfldP 0 9 (0, 0, 1, false, true) := ⟨_, _, _, _, zcp_0, by decide, zwm 177 (by decide +kernel), rfl, Or.inr (Or.inr (Or.inr ⟨rfl, rfl, Or.inr ⟨_, rfl⟩⟩)), rfl, fun _ => rfl⟩
theorem zfld_0_15 : zfldP 0 15 (0, 1, 1, false, true) := ⟨_, _, _, _, zcp_0, by decide, zwm 178 (by decide +kernel), rfl, Or.inr (Or.inr (Or.inr ⟨rfl, rfl, Or.inr ⟨_, rfl⟩⟩)), rfl, fun _ => rfl⟩
theorem zfld_r0 : ∀ q ∈ zfldL0, zfldP 0 q.1 q.2 := List.forall_mem_cons.mpr ⟨zfld_0_9, List.forall_mem_cons.mpr ⟨zfld_0_15, fun _ h => absurd h List.not_mem_nil⟩⟩
theorem zfld_1_12 : zfldP 1 12 (1, 0, 1, false, true) := ⟨_, _, _, _, zcp_1, by decide, zwm 132 (by decide +kernel), rfl, Or.inr (Or.inr (Or.inr ⟨rfl, rfl, Or.inl ⟨_, rfl⟩⟩)), rfl, fun _ => rfl⟩
theorem zfld_1_18 : zfldP 1 18 (1, 1, 1, false, true) := ⟨_, _, _, _, zcp_1, by decide, zwm 133 (by decide +kernel), rfl, Or.inr (Or.inr (Or.inr ⟨rfl, rfl, Or.inr ⟨_, rfl⟩⟩)), rfl, fun _ => rfl⟩
theorem zfld_r1 : ∀ q ∈ zfldL1, zfldP 1 q.1 q.2 := List.forall_mem_cons.mpr ⟨zfld_1_12, List.forall_mem_cons.mpr ⟨zfld_1_18, fun _ h => absurd h List.not_mem_nil⟩⟩
theorem zfld_2_11 : zfldP 2 11 (2, 0, 1, false, true) := ⟨_, _, _, _, zcp_2, by decide, zwm 139 (by decide +kernel), rfl, Or.inr (Or.inr (Or.inr ⟨rfl, rfl, Or.inr ⟨_, rfl⟩⟩)), rfl, fun _ => rfl⟩
theorem zfld_2_17 : zfldP 2 17 (2, 1, 0, false, false) := ⟨_, _, _, _, zcp_2, by decide, zwm 140 (by decide +kernel), rfl, Or.inl ⟨rfl, rfl, rfl⟩, rfl, fun h => absurd h (by decide)⟩
theorem zfld_2_21 : zfldP 2 21 (2, 2, 0, false, false) := ⟨_, _, _, _, zcp_2, by decide, zwm 141 (by decide +kernel), rfl, Or.inl ⟨rfl, rfl, rfl⟩, rfl, fun h => absurd h (by decide)⟩
theorem zfld_r2 : ∀ q ∈ zfldL2, zfldP 2 q.1 q.2 := List.forall_mem_cons.mpr ⟨zfld_2_11, List.forall_mem_cons.mpr ⟨zfld_2_17, List.forall_mem_cons.mpr ⟨zfld_2_21, fun _ h => absurd h List.not_mem_nil⟩⟩⟩
theorem zfld_3_9 : zfldP 3 9 (3, 0, 1, false, true) := ⟨_, _, _, _, zcp_3, by decide, zwm 155 (by decide +kernel), rfl, Or.inr (Or.inr (Or.inr ⟨rfl, rfl, Or.inr ⟨_, rfl⟩⟩)), rfl, fun _ => rfl⟩
theorem zfld_3_15 : zfldP 3 15 (3, 1, 1, false, true) := ⟨_, _, _, _, zcp_3, by decide, zwm 156 (by decide +kernel), rfl, Or.inr (Or.inr (Or.inr ⟨rfl, rfl, Or.inr ⟨_, rfl⟩⟩)), rfl, fun _ => rfl⟩
theorem zfld_3_18 : zfldP 3 18 (3, 2, 1, false, true) := ⟨_, _, _, _, zcp_3, by decide, zwm 157 (by decide +kernel), rfl, Or.inr (Or.inr (Or.inr ⟨rfl, rfl, Or.inr ⟨_, rfl⟩⟩)), rfl, fun _ => rfl⟩
theorem zfld_3_21 : zfldP 3 21 (3, 3, 1, false, true) := ⟨_, _, _, _, zcp_3, by decide, zwm 158 (by decide +kernel), rfl, Or.inr (Or.inr (Or.inr ⟨rfl, rfl, Or.inr ⟨_, rfl⟩⟩)), rfl, fun _ => rfl⟩
theorem zfld_3_24 : zfldP 3 24 (3, 4, 0, false, false) := ⟨_, _, _, _, zcp_3, by decide, zwm 159 (by decide +kernel), rfl, Or.inl ⟨rfl, rfl, rfl⟩, rfl, fun h => absurd h (by decide)⟩
theorem zfld_r3 : ∀ q ∈ zfldL3, zfldP 3 q.1 q.2 := List.forall_mem_cons.mpr ⟨zfld_3_9, List.forall_mem_cons.mpr ⟨zfld_3_15, List.forall_mem_cons.mpr ⟨zfld_3_18, List.forall_mem_cons.mpr ⟨zfld_3_21, List.forall_mem_cons.mpr ⟨zfld_3_24, fun _ h => absurd h List.not_mem_nil⟩⟩⟩⟩⟩
theorem zfld_4_9 : zfldP 4 9 (4, 0, 1, false, true) := ⟨_, _, _, _, zcp_4, by decide, zwm 190 (by decide +kernel), rfl, Or.inr (Or.inr (Or.inr ⟨rfl, rfl, Or.inr ⟨_, rfl⟩⟩)), rfl, fun _ => rfl⟩
theorem zfld_4_15 : zfldP 4 15 (4, 1, 1, false, true) := ⟨_, _, _, _, zcp_4, by decide, zwm 191 (by decide +kernel), rfl, Or.inr (Or.inr (Or.inr ⟨rfl, rfl, Or.inr ⟨_, rfl⟩⟩)), rfl, fun _ => rfl⟩
theorem zfld_4_18 : zfldP 4 18 (4, 2, 1, false, true) := ⟨_, _, _, _, zcp_4, by decide, zwm 192 (by decide +kernel), rfl, Or.inr (Or.inr (Or.inr ⟨rfl, rfl, Or.inr ⟨_, rfl⟩⟩)), rfl, fun _ => rfl⟩
theorem zfld_4_21 : zfldP 4 21 (4, 3, 0, false, false) := ⟨_, _, _, _, zcp_4, by decide, zwm 193 (by decide +kernel), rfl, Or.inl ⟨rfl, rfl, rfl⟩, rfl, fun h => absurd h (by decide)⟩
theorem zfld_r4 : ∀ q ∈ zfldL4, zfldP 4 q.1 q.2 := List.forall_mem_cons.mpr ⟨zfld_4_9, List.forall_mem_cons.mpr ⟨zfld_4_15, List.forall_mem_cons.mpr ⟨zfld_4_18, List.forall_mem_cons.mpr ⟨zfld_4_21, fun _ h => absurd h List.not_mem_nil⟩⟩⟩⟩
theorem zfld_5_9 : zfldP 5 9 (5, 0, 1, false, true) := ⟨_, _, _, _, zcp_5, by decide, zwm 107 (by decide +kernel), rfl, Or.inr (Or.inr (Or.inr ⟨rfl, rfl, Or.inr ⟨_, rfl⟩⟩)), rfl, fun _ => rfl⟩
theorem zfld_5_15 : zfldP 5 15 (5, 1, 1, false, true) := ⟨_, _, _, _, zcp_5, by decide, zwm 108 (by decide +kernel), rfl, Or.inr (Or.inr (Or.inr ⟨rfl, rfl, Or.inr ⟨_, rfl⟩⟩)), rfl, fun _ => rfl⟩
theorem zfld_5_18 : zfldP 5 18 (5, 2, 0, false, false) := ⟨_, _, _, _, zcp_5, by decide, zwm 109 (by decide +kernel), rfl, Or.inl ⟨rfl, rfl, rfl⟩, rfl, fun h => absurd h (by decide)⟩
theorem zfld_r5 : ∀ q ∈ zfldL5, zfldP 5 q.1 q.2 := List.forall_mem_cons.mpr ⟨zfld_5_9, List.forall_mem_cons.mpr ⟨zfld_5_15, List.forall_mem_cons.mpr ⟨zfld_5_18, fun _ h => absurd h List.not_mem_nil⟩⟩⟩
theorem zfld_6_9 : zfldP 6 9 (6, 0, 1, false, true) := ⟨_, _, _, _, zcp_6, by decide, zwm 74 (by decide +kernel), rfl, Or.inr (Or.inr (Or.inr ⟨rfl, rfl, Or.inr ⟨_, rfl⟩⟩)), rfl, fun _ => rfl⟩
theorem zfld_6_15 : zfldP 6 15 (6, 1, 1, false, true) := ⟨_, _, _, _, zcp_6, by decide, zwm 75 (by decide +kernel), rfl, Or.inr (Or.inr (Or.inr ⟨rfl, rfl, Or.inr ⟨_, rfl⟩⟩)), rfl, fun _ => rfl⟩
theorem zfld_6_19 : zfldP 6 19 (6, 2, 1, false, true) := ⟨_, _, _, _, zcp_6, by decide, zwm 76 (by decide +kernel), rfl, Or.inr (Or.inr (Or.inr ⟨rfl, rfl, Or.inr ⟨_, rfl⟩⟩)), rfl, fun _ => rfl⟩
theorem zfld_6_22 : zfldP 6 22 (6, 3, 1, false, true) := ⟨_, _, _, _, zcp_6, by decide, zwm 77 (by decide +kernel), rfl, Or.inr (Or.inr (Or.inr ⟨rfl, rfl, Or.inr ⟨_, rfl⟩⟩)), rfl, fun _ => rfl⟩
theorem zfld_6_26 : zfldP 6 26 (6, 4, 0, false, false) := ⟨_, _, _, _, zcp_6, by decide, zwm 78 (by decide +kernel), rfl, Or.inl ⟨rfl, rfl, rfl⟩, rfl, fun h => absurd h (by decide)⟩
theorem zfld_r6 : ∀ q ∈ zfldL6, zfldP 6 q.1 q.2 := List.forall_mem_cons.mpr ⟨zfld_6_9, List.forall_mem_cons.mpr ⟨zfld_6_15, List.forall_mem_cons.mpr ⟨zfld_6_19, List.forall_mem_cons.mpr ⟨zfld_6_22, List.forall_mem_cons.mpr ⟨zfld_6_26, fun _ h => absurd h List.not_mem_nil⟩⟩⟩⟩⟩
theorem zfld_7_10 : zfldP 7 10 (7, 0, 1, false, true) := ⟨_, _, _, _, zcp_7, by decide, zwm 203 (by decide +kernel), rfl, Or.inr (Or.inr (Or.inr ⟨rfl, rfl, Or.inl ⟨_, rfl⟩⟩)), rfl, fun _ => rfl⟩
theorem zfld_7_19 : zfldP 7 19 (7, 1, 1, false, true) := ⟨_, _, _, _, zcp_7, by decide, zwm 204 (by decide +kernel), rfl, Or.inr (Or.inr (Or.inr ⟨rfl, rfl, Or.inl ⟨_, rfl⟩⟩)), rfl, fun _ => rfl⟩
theorem zfld_7_26 : zfldP 7 26 (7, 2, 1, false, true) := ⟨_, _, _, _, zcp_7, by decide, zwm 205 (by decide +kernel), rfl, Or.inr (Or.inr (Or.inr ⟨rfl, rfl, Or.inl ⟨_, rfl⟩⟩)), rfl, fun _ => rfl⟩
theorem zfld_7_33 : zfldP 7 33 (7, 3, 1, false, true) := ⟨_, _, _, _, zcp_7, by decide, zwm 206 (by decide +kernel), rfl, Or.inr (Or.inr (Or.inr ⟨rfl, rfl, Or.inl ⟨_, rfl⟩⟩)), rfl, fun _ => rfl⟩
theorem zfld_7_40 : zfldP 7 40 (7, 4, 1, false, true) := ⟨_, _, _, _, zcp_7, by decide, zwm 207 (by decide +kernel), rfl, Or.inr (Or.inr (Or.inr ⟨rfl, rfl, Or.inl ⟨_, rfl⟩⟩)), rfl, fun _ => rfl⟩
theorem zfld_7_47 : zfldP 7 47 (7, 5, 1, false, true) := ⟨_, _, _, _, zcp_7, by decide, zwm 208 (by decide +kernel), rfl, Or.inr (Or.inr (Or.inr ⟨rfl, rfl, Or.inl ⟨_, rfl⟩⟩)), rfl, fun _ => rfl⟩
theorem zfld_7_51 : zfldP 7 51 (7, 6, 1, false, true) := ⟨_, _, _, _, zcp_7, by decide, zwm 209 (by decide +kernel), rfl, Or.inr (Or.inr (Or.inr ⟨rfl, rfl, Or.inl ⟨_, rfl⟩⟩)), rfl, fun _ => rfl⟩
theorem zfld_7_54 : zfldP 7 54 (7, 7, 0, false, false) := ⟨_, _, _, _, zcp_7, by decide, zwm 210 (by decide +kernel), rfl, Or.inl ⟨rfl, rfl, rfl⟩, rfl, fun h => absurd h (by decide)⟩
theorem zfld_7_58 : zfldP 7 58 (7, 8, 0, true, false) := ⟨_, _, _, _, zcp_7, by decide, zwm 211 (by decide +kernel), rfl, Or.inr (Or.inl ⟨rfl, rfl, rfl⟩), rfl, fun h => absurd h (by decide)⟩
theorem zfld_r7 : ∀ q ∈ zfldL7, zfldP 7 q.1 q.2 := List.forall_mem_cons.mpr ⟨zfld_7_10, List.forall_mem_cons.mpr ⟨zfld_7_19, List.forall_mem_cons.mpr ⟨zfld_7_26, List.forall_mem_cons.mpr ⟨zfld_7_33, List.forall_mem_cons.mpr ⟨zfld_7_40, List.forall_mem_cons.mpr ⟨zfld_7_47, List.forall_mem_cons.mpr ⟨zfld_7_51, List.forall_mem_cons.mpr ⟨zfld_7_54, List.forall_mem_cons.mpr ⟨zfld_7_58, fun _ h => absurd h List.not_mem_nil⟩⟩⟩⟩⟩⟩⟩⟩⟩
theorem zfld_8_7 : zfldP 8 7 (8, 2, 1, false, true) := ⟨_, _, _, _, zcp_8, by decide, zwm 1045 (by decide +kernel), rfl, Or.inr (Or.inr (Or.inr ⟨rfl, rfl, Or.inr ⟨_, rfl⟩⟩)), rfl, fun _ => rfl⟩
theorem zfld_8_13 : zfldP 8 13 (8, 3, 1, false, true) := ⟨_, _, _, _, zcp_8, by decide, zwm 1046 (by decide +kernel), rfl, Or.inr (Or.inr (Or.inr ⟨rfl, rfl, Or.inr ⟨_, rfl⟩⟩)), rfl, fun _ => rfl⟩
theorem zfld_8_17 : zfldP 8 17 (8, 4, 1, false, true) := ⟨_, _, _, _, zcp_8, by decide, zwm 1047 (by decide +kernel), rfl, Or.inr (Or.inr (Or.inr ⟨rfl, rfl, Or.inr ⟨_, rfl⟩⟩)), rfl, fun _ => rfl⟩
theorem zfld_8_20 : zfldP 8 20 (8, 5, 1, false, true) := ⟨_, _, _, _, zcp_8, by decide, zwm 1048 (by decide +kernel), rfl, Or.inr (Or.inr (Or.inr ⟨rfl, rfl, Or.inr ⟨_, rfl⟩⟩)), rfl, fun _ => rfl⟩
theorem zfld_8_24 : zfldP 8 24 (8, 6, 0, false, false) := ⟨_, _, _, _, zcp_8, by decide, zwm 1049 (by decide +kernel), rfl, Or.inl ⟨rfl, rfl, rfl⟩, rfl, fun h => absurd h (by decide)⟩
theorem zfld_8_28 : zfldP 8 28 (8, 7, 1, false, true) := ⟨_, _, _, _, zcp_8, by decide, zwm 1050 (by decide +kernel), rfl, Or.inr (Or.inr (Or.inr ⟨rfl, rfl, Or.inr ⟨_, rfl⟩⟩)), rfl, fun _ => rfl⟩
theorem zfld_8_31 : zfldP 8 31 (8, 8, 1, false, true) := ⟨_, _, _, _, zcp_8, by decide, zwm 1051 (by decide +kernel), rfl, Or.inr (Or.inr (Or.inr ⟨rfl, rfl, Or.inr ⟨_, rfl⟩⟩)), rfl, fun _ => rfl⟩
theorem zfld_8_35 : zfldP 8 35 (8, 11, 1, false, true) := ⟨_, _, _, _, zcp_8, by decide, zwm 1054 (by decide +kernel), rfl, Or.inr (Or.inr (Or.inr ⟨rfl, rfl, Or.inr ⟨_, rfl⟩⟩)), rfl, fun _ => rfl⟩
theorem zfld_8_38 : zfldP 8 38 (8, 13, 1, false, true) := ⟨_, _, _, _, zcp_8, by decide, zwm 1056 (by decide +kernel), rfl, Or.inr (Or.inr (Or.inr ⟨rfl, rfl, Or.inr ⟨_, rfl⟩⟩)), rfl, fun _ => rfl⟩
theorem zfld_8_41 : zfldP 8 41 (8, 14, 1, false, true) := ⟨_, _, _, _, zcp_8, by decide, zwm 1057 (by decide +kernel), rfl, Or.inr (Or.inr (Or.inr ⟨rfl, rfl, Or.inr ⟨_, rfl⟩⟩)), rfl, fun _ => rfl⟩
theorem zfld_8_44 : zfldP 8 44 (8, 15, 1, false, true) := ⟨_, _, _, _, zcp_8, by decide, zwm 1058 (by decide +kernel), rfl, Or.inr (Or.inr (Or.inr ⟨rfl, rfl, Or.inr ⟨_, rfl⟩⟩)), rfl, fun _ => rfl⟩
theorem zfld_8_47 : zfldP 8 47 (8, 16, 1, false, true) := ⟨_, _, _, _, zcp_8, by decide, zwm 1059 (by decide +kernel), rfl, Or.inr (Or.inr (Or.inr ⟨rfl, rfl, Or.inr ⟨_, rfl⟩⟩)), rfl, fun _ => rfl⟩
theorem zfld_8_50 : zfldP 8 50 (8, 17, 1, false, true) := ⟨_, _, _, _, zcp_8, by decide, zwm 1060 (by decide +kernel), rfl, Or.inr (Or.inr (Or.inr ⟨rfl, rfl, Or.inr ⟨_, rfl⟩⟩)), rfl, fun _ => rfl⟩
theorem zfld_8_53 : zfldP 8 53 (8, 18, 1, false, true) := ⟨_, _, _, _, zcp_8, by decide, zwm 1061 (by decide +kernel), rfl, Or.inr (Or.inr (Or.inr ⟨rfl, rfl, Or.inr ⟨_, rfl⟩⟩)), rfl, fun _ => rfl⟩
theorem zfld_8_56 : zfldP 8 56 (8, 20, 1, false, true) := ⟨_, _, _, _, zcp_8, by decide, zwm 1063 (by decide +kernel), rfl, Or.inr (Or.inr (Or.inr ⟨rfl, rfl, Or.inr ⟨_, rfl⟩⟩)), rfl, fun _ => rfl⟩
theorem zfld_8_59 : zfldP 8 59 (8, 21, 1, false, true) := ⟨_, _, _, _, zcp_8, by decide, zwm 1064 (by decide +kernel), rfl, Or.inr (Or.inr (Or.inr ⟨rfl, rfl, Or.inr ⟨_, rfl⟩⟩)), rfl, fun _ => rfl⟩
theorem zfld_8_62 : zfldP 8 62 (8, 22, 1, false, true) := ⟨_, _, _, _, zcp_8, by decide, zwm 1065 (by decide +kernel), rfl, Or.inr (Or.inr (Or.inr ⟨rfl, rfl, Or.inr ⟨_, rfl⟩⟩)), rfl, fun _ => rfl⟩
theorem zfld_8_65 : zfldP 8 65 (8, 23, 1, false, true) := ⟨_, _, _, _, zcp_8, by decide, zwm 1066 (by decide +kernel), rfl, Or.inr (Or.inr (Or.inr ⟨rfl, rfl, Or.inr ⟨_, rfl⟩⟩)), rfl, fun _ => rfl⟩
theorem zfld_8_68 : zfldP 8 68 (8, 24, 1, false, true) := ⟨_, _, _, _, zcp_8, by decide, zwm 1067 (by decide +kernel), rfl, Or.inr (Or.inr (Or.inr ⟨rfl, rfl, Or.inr ⟨_, rfl⟩⟩)), rfl, fun _ => rfl⟩
theorem zfld_8_71 : zfldP 8 71 (8, 25, 1, false, true) := ⟨_, _, _, _, zcp_8, by decide, zwm 1068 (by decide +kernel), rfl, Or.inr (Or.inr (Or.inr ⟨rfl, rfl, Or.inr ⟨_, rfl⟩⟩)), rfl, fun _ => rfl⟩
theorem zfld_8_74 : zfldP 8 74 (8, 0, 0, false, false) := ⟨_, _, _, _, zcp_8, by decide, zwm 1043 (by decide +kernel), rfl, Or.inl ⟨rfl, rfl, rfl⟩, rfl, fun h => absurd h (by decide)⟩
theorem zfld_8_77 : zfldP 8 77 (8, 1, 0, false, false) := ⟨_, _, _, _, zcp_8, by decide, zwm 1044 (by decide +kernel), rfl, Or.inl ⟨rfl, rfl, rfl⟩, rfl, fun h => absurd h (by decide)⟩
theorem zfld_8_84 : zfldP 8 84 (8, 12, 0, false, false) := ⟨_, _, _, _, zcp_8, by decide, zwm 1055 (by decide +kernel), rfl, Or.inl ⟨rfl, rfl, rfl⟩, rfl, fun h => absurd h (by decide)⟩
theorem zfld_8_87 : zfldP 8 87 (8, 10, 0, true, false) := ⟨_, _, _, _, zcp_8, by decide, zwm 1053 (by decide +kernel), rfl, Or.inr (Or.inl ⟨rfl, rfl, rfl⟩), rfl, fun h => absurd h (by decide)⟩
theorem zfld_8_120 : zfldP 8 120 (8, 19, 0, false, false) := ⟨_, _, _, _, zcp_8, by decide, zwm 1062 (by decide +kernel), rfl, Or.inl ⟨rfl, rfl, rfl⟩, rfl, fun h => absurd h (by decide)⟩
theorem zfld_8_154 : zfldP 8 154 (8, 9, 2, false, false) := ⟨_, _, _, _, zcp_8, by decide, zwm 1052 (by decide +kernel), rfl, Or.inr (Or.inr (Or.inl ⟨rfl, rfl, rfl⟩)), rfl, fun h => absurd h (by decide)⟩
theorem zfld_r8 : ∀ q ∈ zfldL8, zfldP 8 q.1 q.2 := List.forall_mem_cons.mpr ⟨zfld_8_7, List.forall_mem_cons.mpr ⟨zfld_8_13, List.forall_mem_cons.mpr ⟨zfld_8_17, List.forall_mem_cons.mpr ⟨zfld_8_20, List.forall_mem_cons.mpr ⟨zfld_8_24, List.forall_mem_cons.mpr ⟨zfld_8_28, List.forall_mem_cons.mpr ⟨zfld_8_31, List.forall_mem_cons.mpr ⟨zfld_8_35, List.forall_mem_cons.mpr ⟨zfld_8_38, List.forall_mem_cons.mpr ⟨zfld_8_41, List.forall_mem_cons.mpr ⟨zfld_8_44, List.forall_mem_cons.mpr ⟨zfld_8_47, List.forall_mem_cons.mpr ⟨zfld_8_50, List.forall_mem_cons.mpr ⟨zfld_8_53, List.forall_mem_cons.mpr ⟨zfld_8_56, List.forall_mem_cons.mpr ⟨zfld_8_59, List.forall_mem_cons.mpr ⟨zfld_8_62, List.forall_mem_cons.mpr ⟨zfld_8_65, List.forall_mem_cons.mpr ⟨zfld_8_68, List.forall_mem_cons.mpr ⟨zfld_8_71, List.forall_mem_cons.mpr ⟨zfld_8_74, List.forall_mem_cons.mpr ⟨zfld_8_77, List.forall_mem_cons.mpr ⟨zfld_8_84, List.forall_mem_cons.mpr ⟨zfld_8_87, List.forall_mem_cons.mpr ⟨zfld_8_120, List.forall_mem_cons.mpr ⟨zfld_8_154, fun _ h => absurd h List.not_mem_nil⟩⟩⟩⟩⟩⟩⟩⟩⟩⟩⟩⟩⟩⟩⟩⟩⟩⟩⟩⟩⟩⟩⟩⟩⟩⟩
theorem zfld_r9 : ∀ q ∈ zfldL9, zfldP 9 q.1 q.2 := fun _ h => absurd h List.not_mem_nil
theorem zfld_ok : ∀ c k f, zfld c k = some f → zfldP c k f := by
  intro c k v h
  refine ztab_all (P := zfldP) (fun c r hr => ?_) h
  match c, hr with
  | 0, hr => cases hr; exact zfld_r0
  | 1, hr => cases hr; exact zfld_r1
  | 2, hr => cases hr; exact zfld_r2
  | 3, hr => cases hr; exact zfld_r3
  | 4, hr => cases hr; exact zfld_r4
  | 5, hr => cases hr; exact zfld_r5
  | 6, hr => cases hr; exact zfld_r6
  | 7, hr => cases hr; exact zfld_r7
  | 8, hr => cases hr; exact zfld_r8
  | 9, hr => cases hr; exact zfld_r9
  | n + 10, hr => simp [zfldL] at hr
theorem zcls_r0 : ∀ q ∈ zclsL0, zclsP 0 q.1 q.2 := fun _ h => absurd h List.not_mem_nil
theorem zcls_1_9 : zclsP 1 9 (6, 5) := ⟨_, _, _, _, zcp_6, rfl, by decide, zwm 130 (by decide +kernel), (zwm 69 (by decide +kernel)), (zwm 40 (by decide +kernel))⟩
theorem zcls_r1 : ∀ q ∈ zclsL1, zclsP 1 q.1 q.2 := List.forall_mem_cons.mpr ⟨zcls_1_9, fun _ h => absurd h List.not_mem_nil⟩
theorem zcls_2_9 : zclsP 2 9 (1, 2) := ⟨_, _, _, _, zcp_1, rfl, by decide, zwm 123 (by decide +kernel), (zwm 125 (by decide +kernel)), (zwm 43 (by decide +kernel))⟩
theorem zcls_r2 : ∀ q ∈ zclsL2, zclsP 2 q.1 q.2 := List.forall_mem_cons.mpr ⟨zcls_2_9, fun _ h => absurd h List.not_mem_nil⟩
theorem zcls_r3 : ∀ q ∈ zclsL3, zclsP 3 q.1 q.2 := fun _ h => absurd h List.not_mem_nil
theorem zcls_r4 : ∀ q ∈ zclsL4, zclsP 4 q.1 q.2 := fun _ h => absurd h List.not_mem_nil
theorem zcls_r5 : ∀ q ∈ zclsL5, zclsP 5 q.1 q.2 := fun _ h => absurd h List.not_mem_nil
theorem zcls_r6 : ∀ q ∈ zclsL6, zclsP 6 q.1 q.2 := fun _ h => absurd h List.not_mem_nil
theorem zcls_7_7 : zclsP 7 7 (6, 5) := ⟨_, _, _, _, zcp_6, rfl, by decide, zwm 68 (by decide +kernel), (zwm 69 (by decide +kernel)), (zwm 40 (by decide +kernel))⟩
theorem zcls_7_16 : zclsP 7 16 (5, 3) := ⟨_, _, _, _, zcp_5, rfl, by decide, zwm 93 (by decide +kernel), (zwm 94 (by decide +kernel)), (zwm 41 (by decide +kernel))⟩
theorem zcls_7_23 : zclsP 7 23 (2, 3) := ⟨_, _, _, _, zcp_2, rfl, by decide, zwm 117 (by decide +kernel), (zwm 118 (by decide +kernel)), (zwm 42 (by decide +kernel))⟩
theorem zcls_7_30 : zclsP 7 30 (3, 5) := ⟨_, _, _, _, zcp_3, rfl, by decide, zwm 149 (by decide +kernel), (zwm 150 (by decide +kernel)), (zwm 44 (by decide +kernel))⟩
theorem zcls_7_37 : zclsP 7 37 (0, 2) := ⟨_, _, _, _, zcp_0, rfl, by decide, zwm 171 (by decide +kernel), (zwm 172 (by decide +kernel)), (zwm 45 (by decide +kernel))⟩
theorem zcls_7_44 : zclsP 7 44 (4, 4) := ⟨_, _, _, _, zcp_4, rfl, by decide, zwm 184 (by decide +kernel), (zwm 185 (by decide +kernel)), (zwm 46 (by decide +kernel))⟩
theorem zcls_r7 : ∀ q ∈ zclsL7, zclsP 7 q.1 q.2 := List.forall_mem_cons.mpr ⟨zcls_7_7, List.forall_mem_cons.mpr ⟨zcls_7_16, List.forall_mem_cons.mpr ⟨zcls_7_23, List.forall_mem_cons.mpr ⟨zcls_7_30, List.forall_mem_cons.mpr ⟨zcls_7_37, List.forall_mem_cons.mpr ⟨zcls_7_44, fun _ h => absurd h List.not_mem_nil⟩⟩⟩⟩⟩⟩
theorem zcls_r8 : ∀ q ∈ zclsL8, zclsP 8 q.1 q.2 := fun _ h => absurd h List.not_mem_nil
theorem zcls_9_8 : zclsP 9 8 (7, 9) := ⟨_, _, _, _, zcp_7, rfl, by decide, zwm 60 (by decide +kernel), (zwm 61 (by decide +kernel)), (zwm 39 (by decide +kernel))⟩
theorem zcls_9_127 : zclsP 9 127 (8, 26) := ⟨_, _, _, _, zcp_8, rfl, by decide, zwm 1037 (by decide +kernel), (zwm 1038 (by decide +kernel)), (zwm 47 (by decide +kernel))⟩
theorem zcls_r9 : ∀ q ∈ zclsL9, zclsP 9 q.1 q.2 := List.forall_mem_cons.mpr ⟨zcls_9_8, List.forall_mem_cons.mpr ⟨zcls_9_127, fun _ h => absurd h List.not_mem_nil⟩⟩
theorem zcls_ok : ∀ c k q, zcls c k = some q → zclsP c k q := by
  intro c k v h
  refine ztab_all (P := zclsP) (fun c r hr => ?_) h
  match c, hr with
  | 0, hr => cases hr; exact zcls_r0
  | 1, hr => cases hr; exact zcls_r1
  | 2, hr => cases hr; exact zcls_r2
  | 3, hr => cases hr; exact zcls_r3
  | 4, hr => cases hr; exact zcls_r4
  | 5, hr => cases hr; exact zcls_r5
  | 6, hr => cases hr; exact zcls_r6
  | 7, hr => cases hr; exact zcls_r7
  | 8, hr => cases hr; exact zcls_r8
  | 9, hr => cases hr; exact zcls_r9
  | n + 10, hr => simp [zclsL] at hr
theorem zstc_r0 : ∀ q ∈ zstcL0, (fun c k r => r = -2 ∧ ∃ host, Cond.fieldLinkNest (zown c) k RX7 "FIRST_WEIGHTS" "[I" host ∈ zNW) 0 q.1 q.2 := fun _ h => absurd h List.not_mem_nil
theorem zstc_r1 : ∀ q ∈ zstcL1, (fun c k r => r = -2 ∧ ∃ host, Cond.fieldLinkNest (zown c) k RX7 "FIRST_WEIGHTS" "[I" host ∈ zNW) 1 q.1 q.2 := fun _ h => absurd h List.not_mem_nil
theorem zstc_r2 : ∀ q ∈ zstcL2, (fun c k r => r = -2 ∧ ∃ host, Cond.fieldLinkNest (zown c) k RX7 "FIRST_WEIGHTS" "[I" host ∈ zNW) 2 q.1 q.2 := fun _ h => absurd h List.not_mem_nil
theorem zstc_r3 : ∀ q ∈ zstcL3, (fun c k r => r = -2 ∧ ∃ host, Cond.fieldLinkNest (zown c) k RX7 "FIRST_WEIGHTS" "[I" host ∈ zNW) 3 q.1 q.2 := fun _ h => absurd h List.not_mem_nil
theorem zstc_r4 : ∀ q ∈ zstcL4, (fun c k r => r = -2 ∧ ∃ host, Cond.fieldLinkNest (zown c) k RX7 "FIRST_WEIGHTS" "[I" host ∈ zNW) 4 q.1 q.2 := fun _ h => absurd h List.not_mem_nil
theorem zstc_5_22 : (fun c k r => r = -2 ∧ ∃ host, Cond.fieldLinkNest (zown c) k RX7 "FIRST_WEIGHTS" "[I" host ∈ zNW) 5 22 (-2 : Int) := ⟨rfl, "LintPress", by decide +kernel⟩
theorem zstc_r5 : ∀ q ∈ zstcL5, (fun c k r => r = -2 ∧ ∃ host, Cond.fieldLinkNest (zown c) k RX7 "FIRST_WEIGHTS" "[I" host ∈ zNW) 5 q.1 q.2 := List.forall_mem_cons.mpr ⟨zstc_5_22, fun _ h => absurd h List.not_mem_nil⟩
theorem zstc_r6 : ∀ q ∈ zstcL6, (fun c k r => r = -2 ∧ ∃ host, Cond.fieldLinkNest (zown c) k RX7 "FIRST_WEIGHTS" "[I" host ∈ zNW) 6 q.1 q.2 := fun _ h => absurd h List.not_mem_nil
theorem zstc_r7 : ∀ q ∈ zstcL7, (fun c k r => r = -2 ∧ ∃ host, Cond.fieldLinkNest (zown c) k RX7 "FIRST_WEIGHTS" "[I" host ∈ zNW) 7 q.1 q.2 := fun _ h => absurd h List.not_mem_nil
theorem zstc_r8 : ∀ q ∈ zstcL8, (fun c k r => r = -2 ∧ ∃ host, Cond.fieldLinkNest (zown c) k RX7 "FIRST_WEIGHTS" "[I" host ∈ zNW) 8 q.1 q.2 := fun _ h => absurd h List.not_mem_nil
theorem zstc_r9 : ∀ q ∈ zstcL9, (fun c k r => r = -2 ∧ ∃ host, Cond.fieldLinkNest (zown c) k RX7 "FIRST_WEIGHTS" "[I" host ∈ zNW) 9 q.1 q.2 := fun _ h => absurd h List.not_mem_nil
theorem zstc_ok : ∀ c k r, zstc c k = some r → r = -2 ∧ ∃ host, Cond.fieldLinkNest (zown c) k RX7 "FIRST_WEIGHTS" "[I" host ∈ zNW := by
  intro c k v h
  refine ztab_all (P := (fun c k r => r = -2 ∧ ∃ host, Cond.fieldLinkNest (zown c) k RX7 "FIRST_WEIGHTS" "[I" host ∈ zNW)) (fun c r hr => ?_) h
  match c, hr with
  | 0, hr => cases hr; exact zstc_r0
  | 1, hr => cases hr; exact zstc_r1
  | 2, hr => cases hr; exact zstc_r2
  | 3, hr => cases hr; exact zstc_r3
  | 4, hr => cases hr; exact zstc_r4
  | 5, hr => cases hr; exact zstc_r5
  | 6, hr => cases hr; exact zstc_r6
  | 7, hr => cases hr; exact zstc_r7
  | 8, hr => cases hr; exact zstc_r8
  | 9, hr => cases hr; exact zstc_r9
  | n + 10, hr => simp [zstcL] at hr
theorem zexn_r0 : ∀ q ∈ zexnL0, zexnP 0 q.1 q.2 := fun _ h => absurd h List.not_mem_nil
theorem zexn_r1 : ∀ q ∈ zexnL1, zexnP 1 q.1 q.2 := fun _ h => absurd h List.not_mem_nil
theorem zexn_r2 : ∀ q ∈ zexnL2, zexnP 2 q.1 q.2 := fun _ h => absurd h List.not_mem_nil
theorem zexn_r3 : ∀ q ∈ zexnL3, zexnP 3 q.1 q.2 := fun _ h => absurd h List.not_mem_nil
theorem zexn_r4 : ∀ q ∈ zexnL4, zexnP 4 q.1 q.2 := fun _ h => absurd h List.not_mem_nil
theorem zexn_r5 : ∀ q ∈ zexnL5, zexnP 5 q.1 q.2 := fun _ h => absurd h List.not_mem_nil
theorem zexn_r6 : ∀ q ∈ zexnL6, zexnP 6 q.1 q.2 := fun _ h => absurd h List.not_mem_nil
theorem zexn_7_84 : zexnP 7 84 "java/lang/IllegalStateException" := (zwm 535 (by decide +kernel) : Cond.classLink (zown 7) 84 "java/lang/IllegalStateException" ∈ zWS)
theorem zexn_7_109 : zexnP 7 109 "java/util/NoSuchElementException" := (zwm 688 (by decide +kernel) : Cond.classLink (zown 7) 109 "java/util/NoSuchElementException" ∈ zWS)
theorem zexn_7_114 : zexnP 7 114 "java/lang/IllegalArgumentException" := (zwm 455 (by decide +kernel) : Cond.classLink (zown 7) 114 "java/lang/IllegalArgumentException" ∈ zWS)
theorem zexn_7_158 : zexnP 7 158 "java/lang/UnsupportedOperationException" := (zwm 769 (by decide +kernel) : Cond.classLink (zown 7) 158 "java/lang/UnsupportedOperationException" ∈ zWS)
theorem zexn_7_240 : zexnP 7 240 "java/lang/ArithmeticException" := (zwm 984 (by decide +kernel) : Cond.classLink (zown 7) 240 "java/lang/ArithmeticException" ∈ zWS)
theorem zexn_7_294 : zexnP 7 294 "java/lang/IndexOutOfBoundsException" := (zwm 631 (by decide +kernel) : Cond.classLink (zown 7) 294 "java/lang/IndexOutOfBoundsException" ∈ zWS)
theorem zexn_r7 : ∀ q ∈ zexnL7, zexnP 7 q.1 q.2 := List.forall_mem_cons.mpr ⟨zexn_7_84, List.forall_mem_cons.mpr ⟨zexn_7_109, List.forall_mem_cons.mpr ⟨zexn_7_114, List.forall_mem_cons.mpr ⟨zexn_7_158, List.forall_mem_cons.mpr ⟨zexn_7_240, List.forall_mem_cons.mpr ⟨zexn_7_294, fun _ h => absurd h List.not_mem_nil⟩⟩⟩⟩⟩⟩
theorem zexn_r8 : ∀ q ∈ zexnL8, zexnP 8 q.1 q.2 := fun _ h => absurd h List.not_mem_nil
theorem zexn_9_13 : zexnP 9 13 "java/lang/IllegalArgumentException" := (zwm 446 (by decide +kernel) : Cond.classLink (zown 9) 13 "java/lang/IllegalArgumentException" ∈ zWS)
theorem zexn_9_15 : zexnP 9 15 "java/lang/IllegalStateException" := (zwm 447 (by decide +kernel) : Cond.classLink (zown 9) 15 "java/lang/IllegalStateException" ∈ zWS)
theorem zexn_9_32 : zexnP 9 32 "java/lang/IndexOutOfBoundsException" := (zwm 599 (by decide +kernel) : Cond.classLink (zown 9) 32 "java/lang/IndexOutOfBoundsException" ∈ zWS)
theorem zexn_9_49 : zexnP 9 49 "java/util/NoSuchElementException" := (zwm 683 (by decide +kernel) : Cond.classLink (zown 9) 49 "java/util/NoSuchElementException" ∈ zWS)
theorem zexn_9_74 : zexnP 9 74 "java/lang/UnsupportedOperationException" := (zwm 764 (by decide +kernel) : Cond.classLink (zown 9) 74 "java/lang/UnsupportedOperationException" ∈ zWS)
theorem zexn_9_108 : zexnP 9 108 "java/lang/ArithmeticException" := (zwm 962 (by decide +kernel) : Cond.classLink (zown 9) 108 "java/lang/ArithmeticException" ∈ zWS)
theorem zexn_r9 : ∀ q ∈ zexnL9, zexnP 9 q.1 q.2 := List.forall_mem_cons.mpr ⟨zexn_9_13, List.forall_mem_cons.mpr ⟨zexn_9_15, List.forall_mem_cons.mpr ⟨zexn_9_32, List.forall_mem_cons.mpr ⟨zexn_9_49, List.forall_mem_cons.mpr ⟨zexn_9_74, List.forall_mem_cons.mpr ⟨zexn_9_108, fun _ h => absurd h List.not_mem_nil⟩⟩⟩⟩⟩⟩
theorem zexn_ok : ∀ c k E, zexn c k = some E → zexnP c k E := by
  intro c k v h
  refine ztab_all (P := zexnP) (fun c r hr => ?_) h
  match c, hr with
  | 0, hr => cases hr; exact zexn_r0
  | 1, hr => cases hr; exact zexn_r1
  | 2, hr => cases hr; exact zexn_r2
  | 3, hr => cases hr; exact zexn_r3
  | 4, hr => cases hr; exact zexn_r4
  | 5, hr => cases hr; exact zexn_r5
  | 6, hr => cases hr; exact zexn_r6
  | 7, hr => cases hr; exact zexn_r7
  | 8, hr => cases hr; exact zexn_r8
  | 9, hr => cases hr; exact zexn_r9
  | n + 10, hr => simp [zexnL] at hr
theorem zxic_r0 : ∀ q ∈ zxicL0, zxicP zNW 0 q.1 q.2 := fun _ h => absurd h List.not_mem_nil
theorem zxic_r1 : ∀ q ∈ zxicL1, zxicP zNW 1 q.1 q.2 := fun _ h => absurd h List.not_mem_nil
theorem zxic_r2 : ∀ q ∈ zxicL2, zxicP zNW 2 q.1 q.2 := fun _ h => absurd h List.not_mem_nil
theorem zxic_r3 : ∀ q ∈ zxicL3, zxicP zNW 3 q.1 q.2 := fun _ h => absurd h List.not_mem_nil
theorem zxic_r4 : ∀ q ∈ zxicL4, zxicP zNW 4 q.1 q.2 := fun _ h => absurd h List.not_mem_nil
theorem zxic_r5 : ∀ q ∈ zxicL5, zxicP zNW 5 q.1 q.2 := fun _ h => absurd h List.not_mem_nil
theorem zxic_r6 : ∀ q ∈ zxicL6, zxicP zNW 6 q.1 q.2 := fun _ h => absurd h List.not_mem_nil
theorem zxic_7_88 : zxicP zNW 7 88 "java/lang/IllegalStateException" := ⟨"java/lang/RuntimeException", ["java/lang/Exception"], 7, prog_16_method_2_code, by decide +kernel, by decide +kernel, by decide +kernel, by decide, ⟨by decide +kernel, by decide +kernel, by decide +kernel, by decide +kernel⟩, (zwm 52 (by decide +kernel)), by
  have h : (zx_at (zown 7) 88 "java/lang/IllegalStateException" "java/lang/RuntimeException" ["java/lang/Exception"] 7 prog_16_method_2_code).all (fun w => vx_ot w && (decide (w ∈ zWS) || decide (w ∈ zNW))) = true := by decide +kernel
  intro w hw
  have h := List.all_eq_true.mp h w hw
  simp only [Bool.and_eq_true, Bool.or_eq_true, decide_eq_true_eq] at h
  exact h⟩
theorem zxic_7_113 : zxicP zNW 7 113 "java/util/NoSuchElementException" := ⟨"java/lang/RuntimeException", ["java/lang/Exception"], 13, prog_23_method_4_code, by decide +kernel, by decide +kernel, by decide +kernel, by decide, ⟨by decide +kernel, by decide +kernel, by decide +kernel, by decide +kernel⟩, (zwm 56 (by decide +kernel)), by
  have h : (zx_at (zown 7) 113 "java/util/NoSuchElementException" "java/lang/RuntimeException" ["java/lang/Exception"] 13 prog_23_method_4_code).all (fun w => vx_ot w && (decide (w ∈ zWS) || decide (w ∈ zNW))) = true := by decide +kernel
  intro w hw
  have h := List.all_eq_true.mp h w hw
  simp only [Bool.and_eq_true, Bool.or_eq_true, decide_eq_true_eq] at h
  exact h⟩
theorem zxic_7_118 : zxicP zNW 7 118 "java/lang/IllegalArgumentException" := ⟨"java/lang/RuntimeException", ["java/lang/Exception"], 7, prog_15_method_2_code, by decide +kernel, by decide +kernel, by decide +kernel, by decide, ⟨by decide +kernel, by decide +kernel, by decide +kernel, by decide +kernel⟩, (zwm 51 (by decide +kernel)), by
  have h : (zx_at (zown 7) 118 "java/lang/IllegalArgumentException" "java/lang/RuntimeException" ["java/lang/Exception"] 7 prog_15_method_2_code).all (fun w => vx_ot w && (decide (w ∈ zWS) || decide (w ∈ zNW))) = true := by decide +kernel
  intro w hw
  have h := List.all_eq_true.mp h w hw
  simp only [Bool.and_eq_true, Bool.or_eq_true, decide_eq_true_eq] at h
  exact h⟩
theorem zxic_7_162 : zxicP zNW 7 162 "java/lang/UnsupportedOperationException" := ⟨"java/lang/RuntimeException", ["java/lang/Exception"], 7, prog_22_method_2_code, by decide +kernel, by decide +kernel, by decide +kernel, by decide, ⟨by decide +kernel, by decide +kernel, by decide +kernel, by decide +kernel⟩, (zwm 58 (by decide +kernel)), by
  have h : (zx_at (zown 7) 162 "java/lang/UnsupportedOperationException" "java/lang/RuntimeException" ["java/lang/Exception"] 7 prog_22_method_2_code).all (fun w => vx_ot w && (decide (w ∈ zWS) || decide (w ∈ zNW))) = true := by decide +kernel
  intro w hw
  have h := List.all_eq_true.mp h w hw
  simp only [Bool.and_eq_true, Bool.or_eq_true, decide_eq_true_eq] at h
  exact h⟩
theorem zxic_7_244 : zxicP zNW 7 244 "java/lang/ArithmeticException" := ⟨"java/lang/RuntimeException", ["java/lang/Exception"], 7, prog_12_method_2_code, by decide +kernel, by decide +kernel, by decide +kernel, by decide, ⟨by decide +kernel, by decide +kernel, by decide +kernel, by decide +kernel⟩, (zwm 59 (by decide +kernel)), by
  have h : (zx_at (zown 7) 244 "java/lang/ArithmeticException" "java/lang/RuntimeException" ["java/lang/Exception"] 7 prog_12_method_2_code).all (fun w => vx_ot w && (decide (w ∈ zWS) || decide (w ∈ zNW))) = true := by decide +kernel
  intro w hw
  have h := List.all_eq_true.mp h w hw
  simp only [Bool.and_eq_true, Bool.or_eq_true, decide_eq_true_eq] at h
  exact h⟩
theorem zxic_7_298 : zxicP zNW 7 298 "java/lang/IndexOutOfBoundsException" := ⟨"java/lang/RuntimeException", ["java/lang/Exception"], 7, prog_17_method_2_code, by decide +kernel, by decide +kernel, by decide +kernel, by decide, ⟨by decide +kernel, by decide +kernel, by decide +kernel, by decide +kernel⟩, (zwm 53 (by decide +kernel)), by
  have h : (zx_at (zown 7) 298 "java/lang/IndexOutOfBoundsException" "java/lang/RuntimeException" ["java/lang/Exception"] 7 prog_17_method_2_code).all (fun w => vx_ot w && (decide (w ∈ zWS) || decide (w ∈ zNW))) = true := by decide +kernel
  intro w hw
  have h := List.all_eq_true.mp h w hw
  simp only [Bool.and_eq_true, Bool.or_eq_true, decide_eq_true_eq] at h
  exact h⟩
theorem zxic_r7 : ∀ q ∈ zxicL7, zxicP zNW 7 q.1 q.2 := List.forall_mem_cons.mpr ⟨zxic_7_88, List.forall_mem_cons.mpr ⟨zxic_7_113, List.forall_mem_cons.mpr ⟨zxic_7_118, List.forall_mem_cons.mpr ⟨zxic_7_162, List.forall_mem_cons.mpr ⟨zxic_7_244, List.forall_mem_cons.mpr ⟨zxic_7_298, fun _ h => absurd h List.not_mem_nil⟩⟩⟩⟩⟩⟩
theorem zxic_r8 : ∀ q ∈ zxicL8, zxicP zNW 8 q.1 q.2 := fun _ h => absurd h List.not_mem_nil
theorem zxic_r9 : ∀ q ∈ zxicL9, zxicP zNW 9 q.1 q.2 := fun _ h => absurd h List.not_mem_nil
theorem zxic_ok : ∀ c k E, zxic c k = some E → zxicP zNW c k E := by
  intro c k v h
  refine ztab_all (P := (zxicP zNW)) (fun c r hr => ?_) h
  match c, hr with
  | 0, hr => cases hr; exact zxic_r0
  | 1, hr => cases hr; exact zxic_r1
  | 2, hr => cases hr; exact zxic_r2
  | 3, hr => cases hr; exact zxic_r3
  | 4, hr => cases hr; exact zxic_r4
  | 5, hr => cases hr; exact zxic_r5
  | 6, hr => cases hr; exact zxic_r6
  | 7, hr => cases hr; exact zxic_r7
  | 8, hr => cases hr; exact zxic_r8
  | 9, hr => cases hr; exact zxic_r9
  | n + 10, hr => simp [zxicL] at hr
theorem zstr_r0 : ∀ q ∈ zstrL0, (fun c k tx => (zown c, k, tx) ∈ zTX) 0 q.1 q.2 := fun _ h => absurd h List.not_mem_nil
theorem zstr_r1 : ∀ q ∈ zstrL1, (fun c k tx => (zown c, k, tx) ∈ zTX) 1 q.1 q.2 := fun _ h => absurd h List.not_mem_nil
theorem zstr_r2 : ∀ q ∈ zstrL2, (fun c k tx => (zown c, k, tx) ∈ zTX) 2 q.1 q.2 := fun _ h => absurd h List.not_mem_nil
theorem zstr_r3 : ∀ q ∈ zstrL3, (fun c k tx => (zown c, k, tx) ∈ zTX) 3 q.1 q.2 := fun _ h => absurd h List.not_mem_nil
theorem zstr_r4 : ∀ q ∈ zstrL4, (fun c k tx => (zown c, k, tx) ∈ zTX) 4 q.1 q.2 := fun _ h => absurd h List.not_mem_nil
theorem zstr_r5 : ∀ q ∈ zstrL5, (fun c k tx => (zown c, k, tx) ∈ zTX) 5 q.1 q.2 := fun _ h => absurd h List.not_mem_nil
theorem zstr_r6 : ∀ q ∈ zstrL6, (fun c k tx => (zown c, k, tx) ∈ zTX) 6 q.1 q.2 := fun _ h => absurd h List.not_mem_nil
theorem zstr_7_86 : (fun c k tx => (zown c, k, tx) ∈ zTX) 7 86 "no block is open" := by decide +kernel
theorem zstr_7_98 : (fun c k tx => (zown c, k, tx) ∈ zTX) 7 98 "the entry is no name" := by decide +kernel
theorem zstr_7_111 : (fun c k tx => (zown c, k, tx) ∈ zTX) 7 111 "there is no name" := by decide +kernel
theorem zstr_7_116 : (fun c k tx => (zown c, k, tx) ∈ zTX) 7 116 "the last entry is ahead of the first one" := by decide +kernel
theorem zstr_7_160 : (fun c k tx => (zown c, k, tx) ∈ zTX) 7 160 "too many findings can be fixed" := by decide +kernel
theorem zstr_7_174 : (fun c k tx => (zown c, k, tx) ∈ zTX) 7 174 "the finding cannot be fixed" := by decide +kernel
theorem zstr_7_182 : (fun c k tx => (zown c, k, tx) ∈ zTX) 7 182 "no finding can be fixed" := by decide +kernel
theorem zstr_7_184 : (fun c k tx => (zown c, k, tx) ∈ zTX) 7 184 "both names are the same" := by decide +kernel
theorem zstr_7_186 : (fun c k tx => (zown c, k, tx) ∈ zTX) 7 186 "the name does not occur" := by decide +kernel
theorem zstr_7_191 : (fun c k tx => (zown c, k, tx) ∈ zTX) 7 191 "the name is pinned, or the new one occurs" := by decide +kernel
theorem zstr_7_197 : (fun c k tx => (zown c, k, tx) ∈ zTX) 7 197 "both places are the same" := by decide +kernel
theorem zstr_7_212 : (fun c k tx => (zown c, k, tx) ∈ zTX) 7 212 "an entry there is pinned, a beginning or an end" := by decide +kernel
theorem zstr_7_218 : (fun c k tx => (zown c, k, tx) ∈ zTX) 7 218 "no deed can be undone" := by decide +kernel
theorem zstr_7_232 : (fun c k tx => (zown c, k, tx) ∈ zTX) 7 232 "there is no such rank" := by decide +kernel
theorem zstr_7_242 : (fun c k tx => (zown c, k, tx) ∈ zTX) 7 242 "nothing was fixed" := by decide +kernel
theorem zstr_7_248 : (fun c k tx => (zown c, k, tx) ∈ zTX) 7 248 "the width is out of range" := by decide +kernel
theorem zstr_7_260 : (fun c k tx => (zown c, k, tx) ∈ zTX) 7 260 "there are too many entries" := by decide +kernel
theorem zstr_7_272 : (fun c k tx => (zown c, k, tx) ∈ zTX) 7 272 "there is no such line" := by decide +kernel
theorem zstr_7_278 : (fun c k tx => (zown c, k, tx) ∈ zTX) 7 278 "there are no entries" := by decide +kernel
theorem zstr_7_288 : (fun c k tx => (zown c, k, tx) ∈ zTX) 7 288 "the name is out of range" := by decide +kernel
theorem zstr_7_290 : (fun c k tx => (zown c, k, tx) ∈ zTX) 7 290 "the length is out of range" := by decide +kernel
theorem zstr_7_292 : (fun c k tx => (zown c, k, tx) ∈ zTX) 7 292 "there is no such rule" := by decide +kernel
theorem zstr_7_296 : (fun c k tx => (zown c, k, tx) ∈ zTX) 7 296 "there is no such entry" := by decide +kernel
theorem zstr_7_299 : (fun c k tx => (zown c, k, tx) ∈ zTX) 7 299 "there is no such finding" := by decide +kernel
theorem zstr_7_301 : (fun c k tx => (zown c, k, tx) ∈ zTX) 7 301 "the text is not laid out" := by decide +kernel
theorem zstr_7_303 : (fun c k tx => (zown c, k, tx) ∈ zTX) 7 303 "there are as many entries as there can be" := by decide +kernel
theorem zstr_r7 : ∀ q ∈ zstrL7, (fun c k tx => (zown c, k, tx) ∈ zTX) 7 q.1 q.2 := List.forall_mem_cons.mpr ⟨zstr_7_86, List.forall_mem_cons.mpr ⟨zstr_7_98, List.forall_mem_cons.mpr ⟨zstr_7_111, List.forall_mem_cons.mpr ⟨zstr_7_116, List.forall_mem_cons.mpr ⟨zstr_7_160, List.forall_mem_cons.mpr ⟨zstr_7_174, List.forall_mem_cons.mpr ⟨zstr_7_182, List.forall_mem_cons.mpr ⟨zstr_7_184, List.forall_mem_cons.mpr ⟨zstr_7_186, List.forall_mem_cons.mpr ⟨zstr_7_191, List.forall_mem_cons.mpr ⟨zstr_7_197, List.forall_mem_cons.mpr ⟨zstr_7_212, List.forall_mem_cons.mpr ⟨zstr_7_218, List.forall_mem_cons.mpr ⟨zstr_7_232, List.forall_mem_cons.mpr ⟨zstr_7_242, List.forall_mem_cons.mpr ⟨zstr_7_248, List.forall_mem_cons.mpr ⟨zstr_7_260, List.forall_mem_cons.mpr ⟨zstr_7_272, List.forall_mem_cons.mpr ⟨zstr_7_278, List.forall_mem_cons.mpr ⟨zstr_7_288, List.forall_mem_cons.mpr ⟨zstr_7_290, List.forall_mem_cons.mpr ⟨zstr_7_292, List.forall_mem_cons.mpr ⟨zstr_7_296, List.forall_mem_cons.mpr ⟨zstr_7_299, List.forall_mem_cons.mpr ⟨zstr_7_301, List.forall_mem_cons.mpr ⟨zstr_7_303, fun _ h => absurd h List.not_mem_nil⟩⟩⟩⟩⟩⟩⟩⟩⟩⟩⟩⟩⟩⟩⟩⟩⟩⟩⟩⟩⟩⟩⟩⟩⟩⟩
theorem zstr_r8 : ∀ q ∈ zstrL8, (fun c k tx => (zown c, k, tx) ∈ zTX) 8 q.1 q.2 := fun _ h => absurd h List.not_mem_nil
theorem zstr_r9 : ∀ q ∈ zstrL9, (fun c k tx => (zown c, k, tx) ∈ zTX) 9 q.1 q.2 := fun _ h => absurd h List.not_mem_nil
theorem zstr_ok : ∀ c k tx, zstr c k = some tx → (zown c, k, tx) ∈ zTX := by
  intro c k v h
  refine ztab_all (P := (fun c k tx => (zown c, k, tx) ∈ zTX)) (fun c r hr => ?_) h
  match c, hr with
  | 0, hr => cases hr; exact zstr_r0
  | 1, hr => cases hr; exact zstr_r1
  | 2, hr => cases hr; exact zstr_r2
  | 3, hr => cases hr; exact zstr_r3
  | 4, hr => cases hr; exact zstr_r4
  | 5, hr => cases hr; exact zstr_r5
  | 6, hr => cases hr; exact zstr_r6
  | 7, hr => cases hr; exact zstr_r7
  | 8, hr => cases hr; exact zstr_r8
  | 9, hr => cases hr; exact zstr_r9
  | n + 10, hr => simp [zstrL] at hr
end
section
theorem zcall_0_19 : zcallP zNW 0 19 (2, 2, mX7_read) := ⟨zmp_X7_read, 2, by decide +kernel, Or.inr (Or.inr (Or.inl ⟨rfl, rfl, rfl, ⟨"LintPress", by decide +kernel⟩, (zwm 102 (by decide +kernel))⟩))⟩
theorem zcall_0_23 : zcallP zNW 0 23 (2, 2, mX7_readFlag) := ⟨zmp_X7_readFlag, 2, by decide +kernel, Or.inr (Or.inr (Or.inl ⟨rfl, rfl, rfl, ⟨"LintPress", by decide +kernel⟩, (zwm 275 (by decide +kernel))⟩))⟩
theorem zcall_0_27 : zcallP zNW 0 27 (0, 2, mX0_sumUp) := ⟨zmp_X0_sumUp, 1, by decide +kernel, Or.inl ⟨rfl, rfl, rfl, zwm 304 (by decide +kernel), (zwm 306 (by decide +kernel)), zwm 2 (by decide +kernel)⟩⟩
theorem zcall_0_31 : zcallP zNW 0 31 (0, 1, mX3_count) := ⟨zmp_X3_count, 0, by decide +kernel, Or.inl ⟨rfl, rfl, rfl, zwm 308 (by decide +kernel), (zwm 289 (by decide +kernel)), zwm 290 (by decide +kernel)⟩⟩
theorem zcall_0_37 : zcallP zNW 0 37 (0, 2, mX3_first) := ⟨zmp_X3_first, 1, by decide +kernel, Or.inl ⟨rfl, rfl, rfl, zwm 315 (by decide +kernel), (zwm 316 (by decide +kernel)), zwm 317 (by decide +kernel)⟩⟩
theorem zcall_0_41 : zcallP zNW 0 41 (0, 3, mX0_isWorthTaking) := ⟨zmp_X0_isWorthTaking, 2, by decide +kernel, Or.inl ⟨rfl, rfl, rfl, zwm 331 (by decide +kernel), (zwm 333 (by decide +kernel)), zwm 4 (by decide +kernel)⟩⟩
theorem zcall_0_45 : zcallP zNW 0 45 (2, 3, mX7_writeFlag) := ⟨zmp_X7_writeFlag, 3, by decide +kernel, Or.inr (Or.inr (Or.inl ⟨rfl, rfl, rfl, ⟨"LintPress", by decide +kernel⟩, (zwm 336 (by decide +kernel))⟩))⟩
theorem zcall_0_49 : zcallP zNW 0 49 (0, 2, mX3_last) := ⟨zmp_X3_last, 1, by decide +kernel, Or.inl ⟨rfl, rfl, rfl, zwm 320 (by decide +kernel), (zwm 321 (by decide +kernel)), zwm 322 (by decide +kernel)⟩⟩
theorem zcall_0_52 : zcallP zNW 0 52 (0, 2, mX0_holds) := ⟨zmp_X0_holds, 1, by decide +kernel, Or.inl ⟨rfl, rfl, rfl, zwm 426 (by decide +kernel), (zwm 427 (by decide +kernel)), zwm 428 (by decide +kernel)⟩⟩
theorem zcall_0_56 : zcallP zNW 0 56 (2, 3, mX7_write) := ⟨zmp_X7_write, 3, by decide +kernel, Or.inr (Or.inr (Or.inl ⟨rfl, rfl, rfl, ⟨"LintPress", by decide +kernel⟩, (zwm 105 (by decide +kernel))⟩))⟩
theorem zcall_0_60 : zcallP zNW 0 60 (0, 3, mX0_sumWith) := ⟨zmp_X0_sumWith, 2, by decide +kernel, Or.inl ⟨rfl, rfl, rfl, zwm 311 (by decide +kernel), (zwm 313 (by decide +kernel)), zwm 3 (by decide +kernel)⟩⟩
theorem zcall_0_70 : zcallP zNW 0 70 (0, 2, mX3_gain) := ⟨zmp_X3_gain, 1, by decide +kernel, Or.inl ⟨rfl, rfl, rfl, zwm 324 (by decide +kernel), (zwm 325 (by decide +kernel)), zwm 326 (by decide +kernel)⟩⟩
theorem zcall_r0 : ∀ q ∈ zcallL0, zcallP zNW 0 q.1 q.2 := List.forall_mem_cons.mpr ⟨zcall_0_19, List.forall_mem_cons.mpr ⟨zcall_0_23, List.forall_mem_cons.mpr ⟨zcall_0_27, List.forall_mem_cons.mpr ⟨zcall_0_31, List.forall_mem_cons.mpr ⟨zcall_0_37, List.forall_mem_cons.mpr ⟨zcall_0_41, List.forall_mem_cons.mpr ⟨zcall_0_45, List.forall_mem_cons.mpr ⟨zcall_0_49, List.forall_mem_cons.mpr ⟨zcall_0_52, List.forall_mem_cons.mpr ⟨zcall_0_56, List.forall_mem_cons.mpr ⟨zcall_0_60, List.forall_mem_cons.mpr ⟨zcall_0_70, fun _ h => absurd h List.not_mem_nil⟩⟩⟩⟩⟩⟩⟩⟩⟩⟩⟩⟩
theorem zcall_1_11 : zcallP zNW 1 11 (4, 1, mX6_init) := ⟨zmp_X6_init, 0, by decide +kernel, Or.inr (Or.inr (Or.inr (Or.inr (Or.inl ⟨rfl, rfl, rfl, rfl, rfl, ⟨"LintPress", by decide +kernel⟩, (zwm 71 (by decide +kernel))⟩))))⟩
theorem zcall_1_22 : zcallP zNW 1 22 (0, 2, mX6_copyFrom) := ⟨zmp_X6_copyFrom, 1, by decide +kernel, Or.inl ⟨rfl, rfl, rfl, zwm 818 (by decide +kernel), (zwm 819 (by decide +kernel)), zwm 820 (by decide +kernel)⟩⟩
theorem zcall_1_26 : zcallP zNW 1 26 (2, 3, mX7_write) := ⟨zmp_X7_write, 3, by decide +kernel, Or.inr (Or.inr (Or.inl ⟨rfl, rfl, rfl, ⟨"LintPress", by decide +kernel⟩, (zwm 105 (by decide +kernel))⟩))⟩
theorem zcall_1_30 : zcallP zNW 1 30 (2, 2, mX7_read) := ⟨zmp_X7_read, 2, by decide +kernel, Or.inr (Or.inr (Or.inl ⟨rfl, rfl, rfl, ⟨"LintPress", by decide +kernel⟩, (zwm 102 (by decide +kernel))⟩))⟩
theorem zcall_1_34 : zcallP zNW 1 34 (0, 2, mX5_punish) := ⟨zmp_X5_punish, 1, by decide +kernel, Or.inl ⟨rfl, rfl, rfl, zwm 919 (by decide +kernel), (zwm 920 (by decide +kernel)), zwm 921 (by decide +kernel)⟩⟩
theorem zcall_r1 : ∀ q ∈ zcallL1, zcallP zNW 1 q.1 q.2 := List.forall_mem_cons.mpr ⟨zcall_1_11, List.forall_mem_cons.mpr ⟨zcall_1_22, List.forall_mem_cons.mpr ⟨zcall_1_26, List.forall_mem_cons.mpr ⟨zcall_1_30, List.forall_mem_cons.mpr ⟨zcall_1_34, fun _ h => absurd h List.not_mem_nil⟩⟩⟩⟩⟩
theorem zcall_2_24 : zcallP zNW 2 24 (4, 1, mX1_init) := ⟨zmp_X1_init, 0, by decide +kernel, Or.inr (Or.inr (Or.inr (Or.inr (Or.inl ⟨rfl, rfl, rfl, rfl, rfl, ⟨"LintPress", by decide +kernel⟩, (zwm 127 (by decide +kernel))⟩))))⟩
theorem zcall_2_31 : zcallP zNW 2 31 (0, 1, mX2_newestDeed) := ⟨zmp_X2_newestDeed, 0, by decide +kernel, Or.inl ⟨rfl, rfl, rfl, zwm 810 (by decide +kernel), (zwm 812 (by decide +kernel)), zwm 13 (by decide +kernel)⟩⟩
theorem zcall_2_35 : zcallP zNW 2 35 (0, 2, mX1_start) := ⟨zmp_X1_start, 1, by decide +kernel, Or.inl ⟨rfl, rfl, rfl, zwm 814 (by decide +kernel), (zwm 815 (by decide +kernel)), zwm 816 (by decide +kernel)⟩⟩
theorem zcall_2_39 : zcallP zNW 2 39 (0, 2, mX1_noteFix) := ⟨zmp_X1_noteFix, 1, by decide +kernel, Or.inl ⟨rfl, rfl, rfl, zwm 855 (by decide +kernel), (zwm 856 (by decide +kernel)), zwm 857 (by decide +kernel)⟩⟩
theorem zcall_2_43 : zcallP zNW 2 43 (0, 3, mX1_takeBack) := ⟨zmp_X1_takeBack, 2, by decide +kernel, Or.inl ⟨rfl, rfl, rfl, zwm 915 (by decide +kernel), (zwm 916 (by decide +kernel)), zwm 917 (by decide +kernel)⟩⟩
theorem zcall_r2 : ∀ q ∈ zcallL2, zcallP zNW 2 q.1 q.2 := List.forall_mem_cons.mpr ⟨zcall_2_24, List.forall_mem_cons.mpr ⟨zcall_2_31, List.forall_mem_cons.mpr ⟨zcall_2_35, List.forall_mem_cons.mpr ⟨zcall_2_39, List.forall_mem_cons.mpr ⟨zcall_2_43, fun _ h => absurd h List.not_mem_nil⟩⟩⟩⟩⟩
theorem zcall_3_28 : zcallP zNW 3 28 (2, 2, mX7_read) := ⟨zmp_X7_read, 2, by decide +kernel, Or.inr (Or.inr (Or.inl ⟨rfl, rfl, rfl, ⟨"LintPress", by decide +kernel⟩, (zwm 102 (by decide +kernel))⟩))⟩
theorem zcall_3_32 : zcallP zNW 3 32 (0, 2, mX3_gain) := ⟨zmp_X3_gain, 1, by decide +kernel, Or.inl ⟨rfl, rfl, rfl, zwm 435 (by decide +kernel), (zwm 325 (by decide +kernel)), zwm 326 (by decide +kernel)⟩⟩
theorem zcall_3_36 : zcallP zNW 3 36 (0, 1, mX6_size) := ⟨zmp_X6_size, 0, by decide +kernel, Or.inl ⟨rfl, rfl, rfl, zwm 247 (by decide +kernel), (zwm 236 (by decide +kernel)), zwm 237 (by decide +kernel)⟩⟩
theorem zcall_3_42 : zcallP zNW 3 42 (1, 2, mX3_ruleOfPair) := ⟨zmp_X3_ruleOfPair, 2, by decide +kernel, Or.inr (Or.inl ⟨rfl, rfl, rfl, rfl, zwm 248 (by decide +kernel), (zwm 249 (by decide +kernel))⟩)⟩
theorem zcall_3_46 : zcallP zNW 3 46 (0, 6, mX3_note) := ⟨zmp_X3_note, 5, by decide +kernel, Or.inl ⟨rfl, rfl, rfl, zwm 266 (by decide +kernel), (zwm 268 (by decide +kernel)), zwm 0 (by decide +kernel)⟩⟩
theorem zcall_3_50 : zcallP zNW 3 50 (1, 2, mX3_isNameInBlock) := ⟨zmp_X3_isNameInBlock, 2, by decide +kernel, Or.inr (Or.inl ⟨rfl, rfl, rfl, rfl, zwm 285 (by decide +kernel), (zwm 286 (by decide +kernel))⟩)⟩
theorem zcall_3_54 : zcallP zNW 3 54 (0, 2, mX6_kindAt) := ⟨zmp_X6_kindAt, 1, by decide +kernel, Or.inl ⟨rfl, rfl, rfl, zwm 251 (by decide +kernel), (zwm 252 (by decide +kernel)), zwm 253 (by decide +kernel)⟩⟩
theorem zcall_3_58 : zcallP zNW 3 58 (0, 2, mX6_nameAt) := ⟨zmp_X6_nameAt, 1, by decide +kernel, Or.inl ⟨rfl, rfl, rfl, zwm 255 (by decide +kernel), (zwm 256 (by decide +kernel)), zwm 257 (by decide +kernel)⟩⟩
theorem zcall_3_61 : zcallP zNW 3 61 (0, 3, mX6_isNamed) := ⟨zmp_X6_isNamed, 2, by decide +kernel, Or.inl ⟨rfl, rfl, rfl, zwm 260 (by decide +kernel), (zwm 261 (by decide +kernel)), zwm 262 (by decide +kernel)⟩⟩
theorem zcall_3_65 : zcallP zNW 3 65 (0, 2, mX6_pinnedAt) := ⟨zmp_X6_pinnedAt, 1, by decide +kernel, Or.inl ⟨rfl, rfl, rfl, zwm 270 (by decide +kernel), (zwm 271 (by decide +kernel)), zwm 272 (by decide +kernel)⟩⟩
theorem zcall_3_69 : zcallP zNW 3 69 (2, 3, mX7_write) := ⟨zmp_X7_write, 3, by decide +kernel, Or.inr (Or.inr (Or.inl ⟨rfl, rfl, rfl, ⟨"LintPress", by decide +kernel⟩, (zwm 105 (by decide +kernel))⟩))⟩
theorem zcall_3_73 : zcallP zNW 3 73 (0, 2, mX5_weightFor) := ⟨zmp_X5_weightFor, 1, by decide +kernel, Or.inl ⟨rfl, rfl, rfl, zwm 278 (by decide +kernel), (zwm 279 (by decide +kernel)), zwm 280 (by decide +kernel)⟩⟩
theorem zcall_r3 : ∀ q ∈ zcallL3, zcallP zNW 3 q.1 q.2 := List.forall_mem_cons.mpr ⟨zcall_3_28, List.forall_mem_cons.mpr ⟨zcall_3_32, List.forall_mem_cons.mpr ⟨zcall_3_36, List.forall_mem_cons.mpr ⟨zcall_3_42, List.forall_mem_cons.mpr ⟨zcall_3_46, List.forall_mem_cons.mpr ⟨zcall_3_50, List.forall_mem_cons.mpr ⟨zcall_3_54, List.forall_mem_cons.mpr ⟨zcall_3_58, List.forall_mem_cons.mpr ⟨zcall_3_61, List.forall_mem_cons.mpr ⟨zcall_3_65, List.forall_mem_cons.mpr ⟨zcall_3_69, List.forall_mem_cons.mpr ⟨zcall_3_73, fun _ h => absurd h List.not_mem_nil⟩⟩⟩⟩⟩⟩⟩⟩⟩⟩⟩⟩
theorem zcall_4_25 : zcallP zNW 4 25 (2, 2, mX7_read) := ⟨zmp_X7_read, 2, by decide +kernel, Or.inr (Or.inr (Or.inl ⟨rfl, rfl, rfl, ⟨"LintPress", by decide +kernel⟩, (zwm 102 (by decide +kernel))⟩))⟩
theorem zcall_4_29 : zcallP zNW 4 29 (0, 1, mX6_size) := ⟨zmp_X6_size, 0, by decide +kernel, Or.inl ⟨rfl, rfl, rfl, zwm 350 (by decide +kernel), (zwm 236 (by decide +kernel)), zwm 237 (by decide +kernel)⟩⟩
theorem zcall_4_35 : zcallP zNW 4 35 (2, 3, mX7_write) := ⟨zmp_X7_write, 3, by decide +kernel, Or.inr (Or.inr (Or.inl ⟨rfl, rfl, rfl, ⟨"LintPress", by decide +kernel⟩, (zwm 105 (by decide +kernel))⟩))⟩
theorem zcall_4_39 : zcallP zNW 4 39 (0, 4, mX4_chooseLineFrom) := ⟨zmp_X4_chooseLineFrom, 3, by decide +kernel, Or.inl ⟨rfl, rfl, rfl, zwm 352 (by decide +kernel), (zwm 354 (by decide +kernel)), zwm 5 (by decide +kernel)⟩⟩
theorem zcall_4_43 : zcallP zNW 4 43 (0, 2, mX6_widthAt) := ⟨zmp_X6_widthAt, 1, by decide +kernel, Or.inl ⟨rfl, rfl, rfl, zwm 357 (by decide +kernel), (zwm 358 (by decide +kernel)), zwm 359 (by decide +kernel)⟩⟩
theorem zcall_4_47 : zcallP zNW 4 47 (0, 3, mX4_widthOfLine) := ⟨zmp_X4_widthOfLine, 2, by decide +kernel, Or.inl ⟨rfl, rfl, rfl, zwm 402 (by decide +kernel), (zwm 403 (by decide +kernel)), zwm 404 (by decide +kernel)⟩⟩
theorem zcall_4_51 : zcallP zNW 4 51 (2, 3, mX7_costOfLine) := ⟨zmp_X7_costOfLine, 3, by decide +kernel, Or.inr (Or.inr (Or.inl ⟨rfl, rfl, rfl, ⟨"LintPress", by decide +kernel⟩, (zwm 366 (by decide +kernel))⟩))⟩
theorem zcall_4_55 : zcallP zNW 4 55 (0, 2, mX4_lineHolding) := ⟨zmp_X4_lineHolding, 1, by decide +kernel, Or.inl ⟨rfl, rfl, rfl, zwm 410 (by decide +kernel), (zwm 411 (by decide +kernel)), zwm 412 (by decide +kernel)⟩⟩
theorem zcall_4_59 : zcallP zNW 4 59 (0, 2, mX6_canBreakBehind) := ⟨zmp_X6_canBreakBehind, 1, by decide +kernel, Or.inl ⟨rfl, rfl, rfl, zwm 369 (by decide +kernel), (zwm 370 (by decide +kernel)), zwm 371 (by decide +kernel)⟩⟩
theorem zcall_r4 : ∀ q ∈ zcallL4, zcallP zNW 4 q.1 q.2 := List.forall_mem_cons.mpr ⟨zcall_4_25, List.forall_mem_cons.mpr ⟨zcall_4_29, List.forall_mem_cons.mpr ⟨zcall_4_35, List.forall_mem_cons.mpr ⟨zcall_4_39, List.forall_mem_cons.mpr ⟨zcall_4_43, List.forall_mem_cons.mpr ⟨zcall_4_47, List.forall_mem_cons.mpr ⟨zcall_4_51, List.forall_mem_cons.mpr ⟨zcall_4_55, List.forall_mem_cons.mpr ⟨zcall_4_59, fun _ h => absurd h List.not_mem_nil⟩⟩⟩⟩⟩⟩⟩⟩⟩
theorem zcall_5_25 : zcallP zNW 5 25 (2, 2, mX7_read) := ⟨zmp_X7_read, 2, by decide +kernel, Or.inr (Or.inr (Or.inl ⟨rfl, rfl, rfl, ⟨"LintPress", by decide +kernel⟩, (zwm 102 (by decide +kernel))⟩))⟩
theorem zcall_5_29 : zcallP zNW 5 29 (2, 3, mX7_write) := ⟨zmp_X7_write, 3, by decide +kernel, Or.inr (Or.inr (Or.inl ⟨rfl, rfl, rfl, ⟨"LintPress", by decide +kernel⟩, (zwm 105 (by decide +kernel))⟩))⟩
theorem zcall_5_33 : zcallP zNW 5 33 (0, 2, mX5_undoneFor) := ⟨zmp_X5_undoneFor, 1, by decide +kernel, Or.inl ⟨rfl, rfl, rfl, zwm 923 (by decide +kernel), (zwm 924 (by decide +kernel)), zwm 925 (by decide +kernel)⟩⟩
theorem zcall_5_37 : zcallP zNW 5 37 (0, 2, mX5_weightFor) := ⟨zmp_X5_weightFor, 1, by decide +kernel, Or.inl ⟨rfl, rfl, rfl, zwm 849 (by decide +kernel), (zwm 279 (by decide +kernel)), zwm 280 (by decide +kernel)⟩⟩
theorem zcall_r5 : ∀ q ∈ zcallL5, zcallP zNW 5 q.1 q.2 := List.forall_mem_cons.mpr ⟨zcall_5_25, List.forall_mem_cons.mpr ⟨zcall_5_29, List.forall_mem_cons.mpr ⟨zcall_5_33, List.forall_mem_cons.mpr ⟨zcall_5_37, fun _ h => absurd h List.not_mem_nil⟩⟩⟩⟩
theorem zcall_6_30 : zcallP zNW 6 30 (2, 2, mX7_read) := ⟨zmp_X7_read, 2, by decide +kernel, Or.inr (Or.inr (Or.inl ⟨rfl, rfl, rfl, ⟨"LintPress", by decide +kernel⟩, (zwm 102 (by decide +kernel))⟩))⟩
theorem zcall_6_34 : zcallP zNW 6 34 (2, 2, mX7_readFlag) := ⟨zmp_X7_readFlag, 2, by decide +kernel, Or.inr (Or.inr (Or.inl ⟨rfl, rfl, rfl, ⟨"LintPress", by decide +kernel⟩, (zwm 275 (by decide +kernel))⟩))⟩
theorem zcall_6_38 : zcallP zNW 6 38 (2, 3, mX7_writeFlag) := ⟨zmp_X7_writeFlag, 3, by decide +kernel, Or.inr (Or.inr (Or.inl ⟨rfl, rfl, rfl, ⟨"LintPress", by decide +kernel⟩, (zwm 336 (by decide +kernel))⟩))⟩
theorem zcall_6_42 : zcallP zNW 6 42 (0, 2, mX6_kindAt) := ⟨zmp_X6_kindAt, 1, by decide +kernel, Or.inl ⟨rfl, rfl, rfl, zwm 264 (by decide +kernel), (zwm 252 (by decide +kernel)), zwm 253 (by decide +kernel)⟩⟩
theorem zcall_6_46 : zcallP zNW 6 46 (0, 2, mX6_lengthAt) := ⟨zmp_X6_lengthAt, 1, by decide +kernel, Or.inl ⟨rfl, rfl, rfl, zwm 361 (by decide +kernel), (zwm 362 (by decide +kernel)), zwm 363 (by decide +kernel)⟩⟩
theorem zcall_6_50 : zcallP zNW 6 50 (0, 2, mX6_openAhead) := ⟨zmp_X6_openAhead, 1, by decide +kernel, Or.inl ⟨rfl, rfl, rfl, zwm 583 (by decide +kernel), (zwm 584 (by decide +kernel)), zwm 585 (by decide +kernel)⟩⟩
theorem zcall_6_53 : zcallP zNW 6 53 (0, 2, mX6_nameAt) := ⟨zmp_X6_nameAt, 1, by decide +kernel, Or.inl ⟨rfl, rfl, rfl, zwm 265 (by decide +kernel), (zwm 256 (by decide +kernel)), zwm 257 (by decide +kernel)⟩⟩
theorem zcall_6_56 : zcallP zNW 6 56 (0, 3, mX6_isNamed) := ⟨zmp_X6_isNamed, 2, by decide +kernel, Or.inl ⟨rfl, rfl, rfl, zwm 679 (by decide +kernel), (zwm 261 (by decide +kernel)), zwm 262 (by decide +kernel)⟩⟩
theorem zcall_6_60 : zcallP zNW 6 60 (0, 2, mX6_pinnedAt) := ⟨zmp_X6_pinnedAt, 1, by decide +kernel, Or.inl ⟨rfl, rfl, rfl, zwm 373 (by decide +kernel), (zwm 271 (by decide +kernel)), zwm 272 (by decide +kernel)⟩⟩
theorem zcall_6_64 : zcallP zNW 6 64 (0, 6, mX6_put) := ⟨zmp_X6_put, 5, by decide +kernel, Or.inl ⟨rfl, rfl, rfl, zwm 555 (by decide +kernel), (zwm 557 (by decide +kernel)), zwm 9 (by decide +kernel)⟩⟩
theorem zcall_6_68 : zcallP zNW 6 68 (2, 3, mX7_write) := ⟨zmp_X7_write, 3, by decide +kernel, Or.inr (Or.inr (Or.inl ⟨rfl, rfl, rfl, ⟨"LintPress", by decide +kernel⟩, (zwm 105 (by decide +kernel))⟩))⟩
theorem zcall_6_72 : zcallP zNW 6 72 (0, 4, mX6_copyEntry) := ⟨zmp_X6_copyEntry, 3, by decide +kernel, Or.inl ⟨rfl, rfl, rfl, zwm 822 (by decide +kernel), (zwm 824 (by decide +kernel)), zwm 14 (by decide +kernel)⟩⟩
theorem zcall_6_82 : zcallP zNW 6 82 (0, 2, mX6_takeAway) := ⟨zmp_X6_takeAway, 1, by decide +kernel, Or.inl ⟨rfl, rfl, rfl, zwm 844 (by decide +kernel), (zwm 832 (by decide +kernel)), zwm 833 (by decide +kernel)⟩⟩
theorem zcall_r6 : ∀ q ∈ zcallL6, zcallP zNW 6 q.1 q.2 := List.forall_mem_cons.mpr ⟨zcall_6_30, List.forall_mem_cons.mpr ⟨zcall_6_34, List.forall_mem_cons.mpr ⟨zcall_6_38, List.forall_mem_cons.mpr ⟨zcall_6_42, List.forall_mem_cons.mpr ⟨zcall_6_46, List.forall_mem_cons.mpr ⟨zcall_6_50, List.forall_mem_cons.mpr ⟨zcall_6_53, List.forall_mem_cons.mpr ⟨zcall_6_56, List.forall_mem_cons.mpr ⟨zcall_6_60, List.forall_mem_cons.mpr ⟨zcall_6_64, List.forall_mem_cons.mpr ⟨zcall_6_68, List.forall_mem_cons.mpr ⟨zcall_6_72, List.forall_mem_cons.mpr ⟨zcall_6_82, fun _ h => absurd h List.not_mem_nil⟩⟩⟩⟩⟩⟩⟩⟩⟩⟩⟩⟩⟩
theorem zcall_7_9 : zcallP zNW 7 9 (4, 1, mX6_init) := ⟨zmp_X6_init, 0, by decide +kernel, Or.inr (Or.inr (Or.inr (Or.inr (Or.inl ⟨rfl, rfl, rfl, rfl, rfl, ⟨"LintPress", by decide +kernel⟩, (zwm 71 (by decide +kernel))⟩))))⟩
theorem zcall_7_18 : zcallP zNW 7 18 (3, 1, mX5_init) := ⟨zmp_X5_init, 0, by decide +kernel, Or.inr (Or.inr (Or.inr (Or.inl ⟨rfl, rfl, rfl, rfl, rfl, zwm 95 (by decide +kernel), (zwm 96 (by decide +kernel))⟩)))⟩
theorem zcall_7_25 : zcallP zNW 7 25 (3, 1, mX2_init) := ⟨zmp_X2_init, 0, by decide +kernel, Or.inr (Or.inr (Or.inr (Or.inl ⟨rfl, rfl, rfl, rfl, rfl, zwm 119 (by decide +kernel), (zwm 120 (by decide +kernel))⟩)))⟩
theorem zcall_7_32 : zcallP zNW 7 32 (4, 1, mX3_init) := ⟨zmp_X3_init, 0, by decide +kernel, Or.inr (Or.inr (Or.inr (Or.inr (Or.inl ⟨rfl, rfl, rfl, rfl, rfl, ⟨"LintPress", by decide +kernel⟩, (zwm 152 (by decide +kernel))⟩))))⟩
theorem zcall_7_39 : zcallP zNW 7 39 (4, 1, mX0_init) := ⟨zmp_X0_init, 0, by decide +kernel, Or.inr (Or.inr (Or.inr (Or.inr (Or.inl ⟨rfl, rfl, rfl, rfl, rfl, ⟨"LintPress", by decide +kernel⟩, (zwm 174 (by decide +kernel))⟩))))⟩
theorem zcall_7_46 : zcallP zNW 7 46 (4, 1, mX4_init) := ⟨zmp_X4_init, 0, by decide +kernel, Or.inr (Or.inr (Or.inr (Or.inr (Or.inl ⟨rfl, rfl, rfl, rfl, rfl, ⟨"LintPress", by decide +kernel⟩, (zwm 187 (by decide +kernel))⟩))))⟩
theorem zcall_7_62 : zcallP zNW 7 62 (1, 1, mX7_needName) := ⟨zmp_X7_needName, 1, by decide +kernel, Or.inr (Or.inl ⟨rfl, rfl, rfl, rfl, zwm 452 (by decide +kernel), (zwm 453 (by decide +kernel))⟩)⟩
theorem zcall_7_66 : zcallP zNW 7 66 (1, 1, mX7_needLength) := ⟨zmp_X7_needLength, 1, by decide +kernel, Or.inr (Or.inl ⟨rfl, rfl, rfl, rfl, zwm 527 (by decide +kernel), (zwm 528 (by decide +kernel))⟩)⟩
theorem zcall_7_69 : zcallP zNW 7 69 (0, 4, mX7_append) := ⟨zmp_X7_append, 3, by decide +kernel, Or.inl ⟨rfl, rfl, rfl, zwm 531 (by decide +kernel), (zwm 533 (by decide +kernel)), zwm 8 (by decide +kernel)⟩⟩
theorem zcall_7_73 : zcallP zNW 7 73 (0, 2, mX6_depthAt) := ⟨zmp_X6_depthAt, 1, by decide +kernel, Or.inl ⟨rfl, rfl, rfl, zwm 579 (by decide +kernel), (zwm 580 (by decide +kernel)), zwm 581 (by decide +kernel)⟩⟩
theorem zcall_7_77 : zcallP zNW 7 77 (0, 1, mX6_size) := ⟨zmp_X6_size, 0, by decide +kernel, Or.inl ⟨rfl, rfl, rfl, zwm 235 (by decide +kernel), (zwm 236 (by decide +kernel)), zwm 237 (by decide +kernel)⟩⟩
theorem zcall_7_81 : zcallP zNW 7 81 (0, 2, mX6_openAhead) := ⟨zmp_X6_openAhead, 1, by decide +kernel, Or.inl ⟨rfl, rfl, rfl, zwm 594 (by decide +kernel), (zwm 584 (by decide +kernel)), zwm 585 (by decide +kernel)⟩⟩
theorem zcall_7_91 : zcallP zNW 7 91 (0, 2, mX7_needEntry) := ⟨zmp_X7_needEntry, 1, by decide +kernel, Or.inl ⟨rfl, rfl, rfl, zwm 627 (by decide +kernel), (zwm 629 (by decide +kernel)), zwm 10 (by decide +kernel)⟩⟩
theorem zcall_7_94 : zcallP zNW 7 94 (0, 2, mX6_kindAt) := ⟨zmp_X6_kindAt, 1, by decide +kernel, Or.inl ⟨rfl, rfl, rfl, zwm 644 (by decide +kernel), (zwm 252 (by decide +kernel)), zwm 253 (by decide +kernel)⟩⟩
theorem zcall_7_100 : zcallP zNW 7 100 (0, 2, mX6_nameAt) := ⟨zmp_X6_nameAt, 1, by decide +kernel, Or.inl ⟨rfl, rfl, rfl, zwm 653 (by decide +kernel), (zwm 256 (by decide +kernel)), zwm 257 (by decide +kernel)⟩⟩
theorem zcall_7_103 : zcallP zNW 7 103 (0, 2, mX6_widthAt) := ⟨zmp_X6_widthAt, 1, by decide +kernel, Or.inl ⟨rfl, rfl, rfl, zwm 418 (by decide +kernel), (zwm 358 (by decide +kernel)), zwm 359 (by decide +kernel)⟩⟩
theorem zcall_7_106 : zcallP zNW 7 106 (0, 2, mX6_timesOf) := ⟨zmp_X6_timesOf, 1, by decide +kernel, Or.inl ⟨rfl, rfl, rfl, zwm 675 (by decide +kernel), (zwm 676 (by decide +kernel)), zwm 677 (by decide +kernel)⟩⟩
theorem zcall_7_119 : zcallP zNW 7 119 (0, 2, mX6_pinnedAt) := ⟨zmp_X6_pinnedAt, 1, by decide +kernel, Or.inl ⟨rfl, rfl, rfl, zwm 712 (by decide +kernel), (zwm 271 (by decide +kernel)), zwm 272 (by decide +kernel)⟩⟩
theorem zcall_7_123 : zcallP zNW 7 123 (0, 3, mX6_setPinned) := ⟨zmp_X6_setPinned, 2, by decide +kernel, Or.inl ⟨rfl, rfl, rfl, zwm 713 (by decide +kernel), (zwm 714 (by decide +kernel)), zwm 715 (by decide +kernel)⟩⟩
theorem zcall_7_127 : zcallP zNW 7 127 (0, 3, mX3_search) := ⟨zmp_X3_search, 2, by decide +kernel, Or.inl ⟨rfl, rfl, rfl, zwm 243 (by decide +kernel), (zwm 244 (by decide +kernel)), zwm 245 (by decide +kernel)⟩⟩
theorem zcall_7_131 : zcallP zNW 7 131 (0, 1, mX3_count) := ⟨zmp_X3_count, 0, by decide +kernel, Or.inl ⟨rfl, rfl, rfl, zwm 288 (by decide +kernel), (zwm 289 (by decide +kernel)), zwm 290 (by decide +kernel)⟩⟩
theorem zcall_7_134 : zcallP zNW 7 134 (0, 2, mX7_needFinding) := ⟨zmp_X7_needFinding, 1, by decide +kernel, Or.inl ⟨rfl, rfl, rfl, zwm 731 (by decide +kernel), (zwm 733 (by decide +kernel)), zwm 11 (by decide +kernel)⟩⟩
theorem zcall_7_137 : zcallP zNW 7 137 (0, 2, mX3_rule) := ⟨zmp_X3_rule, 1, by decide +kernel, Or.inl ⟨rfl, rfl, rfl, zwm 736 (by decide +kernel), (zwm 737 (by decide +kernel)), zwm 738 (by decide +kernel)⟩⟩
theorem zcall_7_140 : zcallP zNW 7 140 (0, 2, mX3_first) := ⟨zmp_X3_first, 1, by decide +kernel, Or.inl ⟨rfl, rfl, rfl, zwm 440 (by decide +kernel), (zwm 316 (by decide +kernel)), zwm 317 (by decide +kernel)⟩⟩
theorem zcall_7_143 : zcallP zNW 7 143 (0, 2, mX3_last) := ⟨zmp_X3_last, 1, by decide +kernel, Or.inl ⟨rfl, rfl, rfl, zwm 441 (by decide +kernel), (zwm 321 (by decide +kernel)), zwm 322 (by decide +kernel)⟩⟩
theorem zcall_7_146 : zcallP zNW 7 146 (0, 2, mX3_gain) := ⟨zmp_X3_gain, 1, by decide +kernel, Or.inl ⟨rfl, rfl, rfl, zwm 439 (by decide +kernel), (zwm 325 (by decide +kernel)), zwm 326 (by decide +kernel)⟩⟩
theorem zcall_7_149 : zcallP zNW 7 149 (0, 1, mX7_chooseBest) := ⟨zmp_X7_chooseBest, 0, by decide +kernel, Or.inl ⟨rfl, rfl, rfl, zwm 296 (by decide +kernel), (zwm 298 (by decide +kernel)), zwm 1 (by decide +kernel)⟩⟩
theorem zcall_7_152 : zcallP zNW 7 152 (0, 1, mX0_sum) := ⟨zmp_X0_sum, 0, by decide +kernel, Or.inl ⟨rfl, rfl, rfl, zwm 338 (by decide +kernel), (zwm 339 (by decide +kernel)), zwm 340 (by decide +kernel)⟩⟩
theorem zcall_7_155 : zcallP zNW 7 155 (0, 1, mX3_fixable) := ⟨zmp_X3_fixable, 0, by decide +kernel, Or.inl ⟨rfl, rfl, rfl, zwm 431 (by decide +kernel), (zwm 432 (by decide +kernel)), zwm 433 (by decide +kernel)⟩⟩
theorem zcall_7_163 : zcallP zNW 7 163 (1, 3, mX7_mostByTrying) := ⟨zmp_X7_mostByTrying, 3, by decide +kernel, Or.inr (Or.inl ⟨rfl, rfl, rfl, rfl, zwm 436 (by decide +kernel), (zwm 437 (by decide +kernel))⟩)⟩
theorem zcall_7_167 : zcallP zNW 7 167 (0, 2, mX0_choose) := ⟨zmp_X0_choose, 1, by decide +kernel, Or.inl ⟨rfl, rfl, rfl, zwm 300 (by decide +kernel), (zwm 301 (by decide +kernel)), zwm 302 (by decide +kernel)⟩⟩
theorem zcall_7_171 : zcallP zNW 7 171 (0, 2, mX0_holds) := ⟨zmp_X0_holds, 1, by decide +kernel, Or.inl ⟨rfl, rfl, rfl, zwm 792 (by decide +kernel), (zwm 427 (by decide +kernel)), zwm 428 (by decide +kernel)⟩⟩
theorem zcall_7_176 : zcallP zNW 7 176 (0, 1, mX7_startDeed) := ⟨zmp_X7_startDeed, 0, by decide +kernel, Or.inl ⟨rfl, rfl, rfl, zwm 801 (by decide +kernel), (zwm 803 (by decide +kernel)), zwm 12 (by decide +kernel)⟩⟩
theorem zcall_7_179 : zcallP zNW 7 179 (0, 2, mX7_applyFix) := ⟨zmp_X7_applyFix, 1, by decide +kernel, Or.inl ⟨rfl, rfl, rfl, zwm 827 (by decide +kernel), (zwm 829 (by decide +kernel)), zwm 15 (by decide +kernel)⟩⟩
theorem zcall_7_188 : zcallP zNW 7 188 (0, 2, mX6_hasPinned) := ⟨zmp_X6_hasPinned, 1, by decide +kernel, Or.inl ⟨rfl, rfl, rfl, zwm 877 (by decide +kernel), (zwm 878 (by decide +kernel)), zwm 879 (by decide +kernel)⟩⟩
theorem zcall_7_193 : zcallP zNW 7 193 (0, 3, mX6_replaceName) := ⟨zmp_X6_replaceName, 2, by decide +kernel, Or.inl ⟨rfl, rfl, rfl, zwm 882 (by decide +kernel), (zwm 883 (by decide +kernel)), zwm 884 (by decide +kernel)⟩⟩
theorem zcall_7_208 : zcallP zNW 7 208 (0, 3, mX6_allMovable) := ⟨zmp_X6_allMovable, 2, by decide +kernel, Or.inl ⟨rfl, rfl, rfl, zwm 894 (by decide +kernel), (zwm 895 (by decide +kernel)), zwm 896 (by decide +kernel)⟩⟩
theorem zcall_7_214 : zcallP zNW 7 214 (0, 3, mX6_carry) := ⟨zmp_X6_carry, 2, by decide +kernel, Or.inl ⟨rfl, rfl, rfl, zwm 835 (by decide +kernel), (zwm 836 (by decide +kernel)), zwm 837 (by decide +kernel)⟩⟩
theorem zcall_7_217 : zcallP zNW 7 217 (0, 1, mX2_count) := ⟨zmp_X2_count, 0, by decide +kernel, Or.inl ⟨rfl, rfl, rfl, zwm 906 (by decide +kernel), (zwm 907 (by decide +kernel)), zwm 908 (by decide +kernel)⟩⟩
theorem zcall_7_220 : zcallP zNW 7 220 (0, 3, mX2_takeBack) := ⟨zmp_X2_takeBack, 2, by decide +kernel, Or.inl ⟨rfl, rfl, rfl, zwm 911 (by decide +kernel), (zwm 912 (by decide +kernel)), zwm 913 (by decide +kernel)⟩⟩
theorem zcall_7_223 : zcallP zNW 7 223 (1, 1, mX7_needRule) := ⟨zmp_X7_needRule, 1, by decide +kernel, Or.inr (Or.inl ⟨rfl, rfl, rfl, rfl, zwm 934 (by decide +kernel), (zwm 935 (by decide +kernel))⟩)⟩
theorem zcall_7_226 : zcallP zNW 7 226 (0, 2, mX5_weightFor) := ⟨zmp_X5_weightFor, 1, by decide +kernel, Or.inl ⟨rfl, rfl, rfl, zwm 938 (by decide +kernel), (zwm 279 (by decide +kernel)), zwm 280 (by decide +kernel)⟩⟩
theorem zcall_7_229 : zcallP zNW 7 229 (0, 2, mX5_rankFor) := ⟨zmp_X5_rankFor, 1, by decide +kernel, Or.inl ⟨rfl, rfl, rfl, zwm 946 (by decide +kernel), (zwm 947 (by decide +kernel)), zwm 948 (by decide +kernel)⟩⟩
theorem zcall_7_234 : zcallP zNW 7 234 (0, 2, mX5_undoneFor) := ⟨zmp_X5_undoneFor, 1, by decide +kernel, Or.inl ⟨rfl, rfl, rfl, zwm 958 (by decide +kernel), (zwm 924 (by decide +kernel)), zwm 925 (by decide +kernel)⟩⟩
theorem zcall_7_237 : zcallP zNW 7 237 (0, 1, mX5_allFixed) := ⟨zmp_X5_allFixed, 0, by decide +kernel, Or.inl ⟨rfl, rfl, rfl, zwm 980 (by decide +kernel), (zwm 981 (by decide +kernel)), zwm 982 (by decide +kernel)⟩⟩
theorem zcall_7_245 : zcallP zNW 7 245 (0, 1, mX5_allUndone) := ⟨zmp_X5_allUndone, 0, by decide +kernel, Or.inl ⟨rfl, rfl, rfl, zwm 987 (by decide +kernel), (zwm 988 (by decide +kernel)), zwm 989 (by decide +kernel)⟩⟩
theorem zcall_7_250 : zcallP zNW 7 250 (0, 3, mX4_divide) := ⟨zmp_X4_divide, 2, by decide +kernel, Or.inl ⟨rfl, rfl, rfl, zwm 346 (by decide +kernel), (zwm 347 (by decide +kernel)), zwm 348 (by decide +kernel)⟩⟩
theorem zcall_7_254 : zcallP zNW 7 254 (0, 1, mX4_lines) := ⟨zmp_X4_lines, 0, by decide +kernel, Or.inl ⟨rfl, rfl, rfl, zwm 374 (by decide +kernel), (zwm 375 (by decide +kernel)), zwm 376 (by decide +kernel)⟩⟩
theorem zcall_7_257 : zcallP zNW 7 257 (0, 1, mX4_least) := ⟨zmp_X4_least, 0, by decide +kernel, Or.inl ⟨rfl, rfl, rfl, zwm 386 (by decide +kernel), (zwm 387 (by decide +kernel)), zwm 388 (by decide +kernel)⟩⟩
theorem zcall_7_262 : zcallP zNW 7 262 (1, 3, mX7_leastByTrying) := ⟨zmp_X7_leastByTrying, 3, by decide +kernel, Or.inr (Or.inl ⟨rfl, rfl, rfl, rfl, zwm 414 (by decide +kernel), (zwm 415 (by decide +kernel))⟩)⟩
theorem zcall_7_266 : zcallP zNW 7 266 (0, 1, mX7_needLayout) := ⟨zmp_X7_needLayout, 0, by decide +kernel, Or.inl ⟨rfl, rfl, rfl, zwm 1014 (by decide +kernel), (zwm 1016 (by decide +kernel)), zwm 16 (by decide +kernel)⟩⟩
theorem zcall_7_269 : zcallP zNW 7 269 (0, 2, mX4_lineHolding) := ⟨zmp_X4_lineHolding, 1, by decide +kernel, Or.inl ⟨rfl, rfl, rfl, zwm 1019 (by decide +kernel), (zwm 411 (by decide +kernel)), zwm 412 (by decide +kernel)⟩⟩
theorem zcall_7_274 : zcallP zNW 7 274 (0, 3, mX4_widthOfLine) := ⟨zmp_X4_widthOfLine, 2, by decide +kernel, Or.inl ⟨rfl, rfl, rfl, zwm 1028 (by decide +kernel), (zwm 403 (by decide +kernel)), zwm 404 (by decide +kernel)⟩⟩
theorem zcall_7_280 : zcallP zNW 7 280 (0, 1, mX7_shownIsLikeTried) := ⟨zmp_X7_shownIsLikeTried, 0, by decide +kernel, Or.inl ⟨rfl, rfl, rfl, zwm 394 (by decide +kernel), (zwm 396 (by decide +kernel)), zwm 6 (by decide +kernel)⟩⟩
theorem zcall_7_284 : zcallP zNW 7 284 (0, 2, mX0_hasClash) := ⟨zmp_X0_hasClash, 1, by decide +kernel, Or.inl ⟨rfl, rfl, rfl, zwm 422 (by decide +kernel), (zwm 423 (by decide +kernel)), zwm 424 (by decide +kernel)⟩⟩
theorem zcall_7_305 : zcallP zNW 7 305 (0, 4, mX6_add) := ⟨zmp_X6_add, 3, by decide +kernel, Or.inl ⟨rfl, rfl, rfl, zwm 551 (by decide +kernel), (zwm 552 (by decide +kernel)), zwm 553 (by decide +kernel)⟩⟩
theorem zcall_7_309 : zcallP zNW 7 309 (0, 1, mX2_forget) := ⟨zmp_X2_forget, 0, by decide +kernel, Or.inl ⟨rfl, rfl, rfl, zwm 561 (by decide +kernel), (zwm 562 (by decide +kernel)), zwm 563 (by decide +kernel)⟩⟩
theorem zcall_7_312 : zcallP zNW 7 312 (0, 2, mX2_keep) := ⟨zmp_X2_keep, 1, by decide +kernel, Or.inl ⟨rfl, rfl, rfl, zwm 805 (by decide +kernel), (zwm 806 (by decide +kernel)), zwm 807 (by decide +kernel)⟩⟩
theorem zcall_7_316 : zcallP zNW 7 316 (0, 2, mX6_takeAway) := ⟨zmp_X6_takeAway, 1, by decide +kernel, Or.inl ⟨rfl, rfl, rfl, zwm 831 (by decide +kernel), (zwm 832 (by decide +kernel)), zwm 833 (by decide +kernel)⟩⟩
theorem zcall_7_319 : zcallP zNW 7 319 (0, 2, mX6_joinWithNext) := ⟨zmp_X6_joinWithNext, 1, by decide +kernel, Or.inl ⟨rfl, rfl, rfl, zwm 839 (by decide +kernel), (zwm 840 (by decide +kernel)), zwm 841 (by decide +kernel)⟩⟩
theorem zcall_7_322 : zcallP zNW 7 322 (0, 2, mX5_reward) := ⟨zmp_X5_reward, 1, by decide +kernel, Or.inl ⟨rfl, rfl, rfl, zwm 845 (by decide +kernel), (zwm 846 (by decide +kernel)), zwm 847 (by decide +kernel)⟩⟩
theorem zcall_7_325 : zcallP zNW 7 325 (0, 2, mX2_noteFix) := ⟨zmp_X2_noteFix, 1, by decide +kernel, Or.inl ⟨rfl, rfl, rfl, zwm 851 (by decide +kernel), (zwm 852 (by decide +kernel)), zwm 853 (by decide +kernel)⟩⟩
theorem zcall_7_328 : zcallP zNW 7 328 (0, 3, mX4_sumOfCosts) := ⟨zmp_X4_sumOfCosts, 2, by decide +kernel, Or.inl ⟨rfl, rfl, rfl, zwm 398 (by decide +kernel), (zwm 399 (by decide +kernel)), zwm 400 (by decide +kernel)⟩⟩
theorem zcall_7_331 : zcallP zNW 7 331 (0, 3, mX4_isSameAs) := ⟨zmp_X4_isSameAs, 2, by decide +kernel, Or.inl ⟨rfl, rfl, rfl, zwm 406 (by decide +kernel), (zwm 407 (by decide +kernel)), zwm 408 (by decide +kernel)⟩⟩
theorem zcall_7_336 : zcallP zNW 7 336 (0, 2, mX6_canBreakBehind) := ⟨zmp_X6_canBreakBehind, 1, by decide +kernel, Or.inl ⟨rfl, rfl, rfl, zwm 419 (by decide +kernel), (zwm 370 (by decide +kernel)), zwm 371 (by decide +kernel)⟩⟩
theorem zcall_7_339 : zcallP zNW 7 339 (1, 3, mX7_costOfLine) := ⟨zmp_X7_costOfLine, 3, by decide +kernel, Or.inr (Or.inl ⟨rfl, rfl, rfl, rfl, zwm 420 (by decide +kernel), (zwm 366 (by decide +kernel))⟩)⟩
theorem zcall_r7 : ∀ q ∈ zcallL7, zcallP zNW 7 q.1 q.2 := List.forall_mem_cons.mpr ⟨zcall_7_9, List.forall_mem_cons.mpr ⟨zcall_7_18, List.forall_mem_cons.mpr ⟨zcall_7_25, List.forall_mem_cons.mpr ⟨zcall_7_32, List.forall_mem_cons.mpr ⟨zcall_7_39, List.forall_mem_cons.mpr ⟨zcall_7_46, List.forall_mem_cons.mpr ⟨zcall_7_62, List.forall_mem_cons.mpr ⟨zcall_7_66, List.forall_mem_cons.mpr ⟨zcall_7_69, List.forall_mem_cons.mpr ⟨zcall_7_73, List.forall_mem_cons.mpr ⟨zcall_7_77, List.forall_mem_cons.mpr ⟨zcall_7_81, List.forall_mem_cons.mpr ⟨zcall_7_91, List.forall_mem_cons.mpr ⟨zcall_7_94, List.forall_mem_cons.mpr ⟨zcall_7_100, List.forall_mem_cons.mpr ⟨zcall_7_103, List.forall_mem_cons.mpr ⟨zcall_7_106, List.forall_mem_cons.mpr ⟨zcall_7_119, List.forall_mem_cons.mpr ⟨zcall_7_123, List.forall_mem_cons.mpr ⟨zcall_7_127, List.forall_mem_cons.mpr ⟨zcall_7_131, List.forall_mem_cons.mpr ⟨zcall_7_134, List.forall_mem_cons.mpr ⟨zcall_7_137, List.forall_mem_cons.mpr ⟨zcall_7_140, List.forall_mem_cons.mpr ⟨zcall_7_143, List.forall_mem_cons.mpr ⟨zcall_7_146, List.forall_mem_cons.mpr ⟨zcall_7_149, List.forall_mem_cons.mpr ⟨zcall_7_152, List.forall_mem_cons.mpr ⟨zcall_7_155, List.forall_mem_cons.mpr ⟨zcall_7_163, List.forall_mem_cons.mpr ⟨zcall_7_167, List.forall_mem_cons.mpr ⟨zcall_7_171, List.forall_mem_cons.mpr ⟨zcall_7_176, List.forall_mem_cons.mpr ⟨zcall_7_179, List.forall_mem_cons.mpr ⟨zcall_7_188, List.forall_mem_cons.mpr ⟨zcall_7_193, List.forall_mem_cons.mpr ⟨zcall_7_208, List.forall_mem_cons.mpr ⟨zcall_7_214, List.forall_mem_cons.mpr ⟨zcall_7_217, List.forall_mem_cons.mpr ⟨zcall_7_220, List.forall_mem_cons.mpr ⟨zcall_7_223, List.forall_mem_cons.mpr ⟨zcall_7_226, List.forall_mem_cons.mpr ⟨zcall_7_229, List.forall_mem_cons.mpr ⟨zcall_7_234, List.forall_mem_cons.mpr ⟨zcall_7_237, List.forall_mem_cons.mpr ⟨zcall_7_245, List.forall_mem_cons.mpr ⟨zcall_7_250, List.forall_mem_cons.mpr ⟨zcall_7_254, List.forall_mem_cons.mpr ⟨zcall_7_257, List.forall_mem_cons.mpr ⟨zcall_7_262, List.forall_mem_cons.mpr ⟨zcall_7_266, List.forall_mem_cons.mpr ⟨zcall_7_269, List.forall_mem_cons.mpr ⟨zcall_7_274, List.forall_mem_cons.mpr ⟨zcall_7_280, List.forall_mem_cons.mpr ⟨zcall_7_284, List.forall_mem_cons.mpr ⟨zcall_7_305, List.forall_mem_cons.mpr ⟨zcall_7_309, List.forall_mem_cons.mpr ⟨zcall_7_312, List.forall_mem_cons.mpr ⟨zcall_7_316, List.forall_mem_cons.mpr ⟨zcall_7_319, List.forall_mem_cons.mpr ⟨zcall_7_322, List.forall_mem_cons.mpr ⟨zcall_7_325, List.forall_mem_cons.mpr ⟨zcall_7_328, List.forall_mem_cons.mpr ⟨zcall_7_331, List.forall_mem_cons.mpr ⟨zcall_7_336, List.forall_mem_cons.mpr ⟨zcall_7_339, fun _ h => absurd h List.not_mem_nil⟩⟩⟩⟩⟩⟩⟩⟩⟩⟩⟩⟩⟩⟩⟩⟩⟩⟩⟩⟩⟩⟩⟩⟩⟩⟩⟩⟩⟩⟩⟩⟩⟩⟩⟩⟩⟩⟩⟩⟩⟩⟩⟩⟩⟩⟩⟩⟩⟩⟩⟩⟩⟩⟩⟩⟩⟩⟩⟩⟩⟩⟩⟩⟩⟩⟩
theorem zcall_8_80 : zcallP zNW 8 80 (1, 3, mX8_in) := ⟨zmp_X8_in, 3, by decide +kernel, Or.inr (Or.inl ⟨rfl, rfl, rfl, rfl, zwm 1134 (by decide +kernel), (zwm 1135 (by decide +kernel))⟩)⟩
theorem zcall_8_91 : zcallP zNW 8 91 (1, 1, mX8_isName) := ⟨zmp_X8_isName, 1, by decide +kernel, Or.inr (Or.inl ⟨rfl, rfl, rfl, rfl, zwm 1131 (by decide +kernel), (zwm 1132 (by decide +kernel))⟩)⟩
theorem zcall_8_95 : zcallP zNW 8 95 (0, 3, mX8_fails) := ⟨zmp_X8_fails, 2, by decide +kernel, Or.inl ⟨rfl, rfl, rfl, zwm 1137 (by decide +kernel), (zwm 1139 (by decide +kernel)), zwm 17 (by decide +kernel)⟩⟩
theorem zcall_8_99 : zcallP zNW 8 99 (0, 4, mX8_add) := ⟨zmp_X8_add, 3, by decide +kernel, Or.inl ⟨rfl, rfl, rfl, zwm 1141 (by decide +kernel), (zwm 1143 (by decide +kernel)), zwm 18 (by decide +kernel)⟩⟩
theorem zcall_8_103 : zcallP zNW 8 103 (0, 2, mX8_depth) := ⟨zmp_X8_depth, 1, by decide +kernel, Or.inl ⟨rfl, rfl, rfl, zwm 1153 (by decide +kernel), (zwm 1155 (by decide +kernel)), zwm 19 (by decide +kernel)⟩⟩
theorem zcall_8_107 : zcallP zNW 8 107 (0, 1, mX8_open) := ⟨zmp_X8_open, 0, by decide +kernel, Or.inl ⟨rfl, rfl, rfl, zwm 1161 (by decide +kernel), (zwm 1163 (by decide +kernel)), zwm 20 (by decide +kernel)⟩⟩
theorem zcall_8_111 : zcallP zNW 8 111 (0, 2, mX8_noEntry) := ⟨zmp_X8_noEntry, 1, by decide +kernel, Or.inl ⟨rfl, rfl, rfl, zwm 1173 (by decide +kernel), (zwm 1175 (by decide +kernel)), zwm 21 (by decide +kernel)⟩⟩
theorem zcall_8_114 : zcallP zNW 8 114 (0, 2, mX8_wide) := ⟨zmp_X8_wide, 1, by decide +kernel, Or.inl ⟨rfl, rfl, rfl, zwm 1185 (by decide +kernel), (zwm 1187 (by decide +kernel)), zwm 22 (by decide +kernel)⟩⟩
theorem zcall_8_117 : zcallP zNW 8 117 (0, 2, mX8_occurs) := ⟨zmp_X8_occurs, 1, by decide +kernel, Or.inl ⟨rfl, rfl, rfl, zwm 1197 (by decide +kernel), (zwm 1199 (by decide +kernel)), zwm 23 (by decide +kernel)⟩⟩
theorem zcall_8_123 : zcallP zNW 8 123 (0, 4, mX8_are) := ⟨zmp_X8_are, 3, by decide +kernel, Or.inl ⟨rfl, rfl, rfl, zwm 1221 (by decide +kernel), (zwm 1223 (by decide +kernel)), zwm 25 (by decide +kernel)⟩⟩
theorem zcall_8_127 : zcallP zNW 8 127 (0, 4, mX8_find) := ⟨zmp_X8_find, 3, by decide +kernel, Or.inl ⟨rfl, rfl, rfl, zwm 1225 (by decide +kernel), (zwm 1227 (by decide +kernel)), zwm 26 (by decide +kernel)⟩⟩
theorem zcall_8_131 : zcallP zNW 8 131 (0, 2, mX8_fixable) := ⟨zmp_X8_fixable, 1, by decide +kernel, Or.inl ⟨rfl, rfl, rfl, zwm 1229 (by decide +kernel), (zwm 1231 (by decide +kernel)), zwm 27 (by decide +kernel)⟩⟩
theorem zcall_8_134 : zcallP zNW 8 134 (0, 1, mX8_look) := ⟨zmp_X8_look, 0, by decide +kernel, Or.inl ⟨rfl, rfl, rfl, zwm 1217 (by decide +kernel), (zwm 1219 (by decide +kernel)), zwm 24 (by decide +kernel)⟩⟩
theorem zcall_8_137 : zcallP zNW 8 137 (0, 2, mX8_noFinding) := ⟨zmp_X8_noFinding, 1, by decide +kernel, Or.inl ⟨rfl, rfl, rfl, zwm 1237 (by decide +kernel), (zwm 1239 (by decide +kernel)), zwm 28 (by decide +kernel)⟩⟩
theorem zcall_8_140 : zcallP zNW 8 140 (0, 1, mX8_fixables) := ⟨zmp_X8_fixables, 0, by decide +kernel, Or.inl ⟨rfl, rfl, rfl, zwm 1261 (by decide +kernel), (zwm 1263 (by decide +kernel)), zwm 29 (by decide +kernel)⟩⟩
theorem zcall_8_143 : zcallP zNW 8 143 (0, 3, mX8_put) := ⟨zmp_X8_put, 2, by decide +kernel, Or.inl ⟨rfl, rfl, rfl, zwm 1285 (by decide +kernel), (zwm 1287 (by decide +kernel)), zwm 33 (by decide +kernel)⟩⟩
theorem zcall_8_147 : zcallP zNW 8 147 (0, 3, mX8_change) := ⟨zmp_X8_change, 2, by decide +kernel, Or.inl ⟨rfl, rfl, rfl, zwm 1281 (by decide +kernel), (zwm 1283 (by decide +kernel)), zwm 32 (by decide +kernel)⟩⟩
theorem zcall_8_150 : zcallP zNW 8 150 (0, 2, mX8_remove) := ⟨zmp_X8_remove, 1, by decide +kernel, Or.inl ⟨rfl, rfl, rfl, zwm 1289 (by decide +kernel), (zwm 1291 (by decide +kernel)), zwm 34 (by decide +kernel)⟩⟩
theorem zcall_8_158 : zcallP zNW 8 158 (0, 1, mX8_keep) := ⟨zmp_X8_keep, 0, by decide +kernel, Or.inl ⟨rfl, rfl, rfl, zwm 1273 (by decide +kernel), (zwm 1275 (by decide +kernel)), zwm 30 (by decide +kernel)⟩⟩
theorem zcall_8_161 : zcallP zNW 8 161 (0, 2, mX8_fixes) := ⟨zmp_X8_fixes, 1, by decide +kernel, Or.inl ⟨rfl, rfl, rfl, zwm 1277 (by decide +kernel), (zwm 1279 (by decide +kernel)), zwm 31 (by decide +kernel)⟩⟩
theorem zcall_8_163 : zcallP zNW 8 163 (1, 1, mX8_isRule) := ⟨zmp_X8_isRule, 1, by decide +kernel, Or.inr (Or.inl ⟨rfl, rfl, rfl, rfl, zwm 1313 (by decide +kernel), (zwm 1314 (by decide +kernel))⟩)⟩
theorem zcall_8_167 : zcallP zNW 8 167 (0, 3, mX8_span) := ⟨zmp_X8_span, 2, by decide +kernel, Or.inl ⟨rfl, rfl, rfl, zwm 1345 (by decide +kernel), (zwm 1347 (by decide +kernel)), zwm 37 (by decide +kernel)⟩⟩
theorem zcall_8_171 : zcallP zNW 8 171 (0, 3, mX8_costs) := ⟨zmp_X8_costs, 2, by decide +kernel, Or.inl ⟨rfl, rfl, rfl, zwm 1341 (by decide +kernel), (zwm 1343 (by decide +kernel)), zwm 36 (by decide +kernel)⟩⟩
theorem zcall_8_174 : zcallP zNW 8 174 (0, 1, mX8_measure) := ⟨zmp_X8_measure, 0, by decide +kernel, Or.inl ⟨rfl, rfl, rfl, zwm 1336 (by decide +kernel), (zwm 1338 (by decide +kernel)), zwm 35 (by decide +kernel)⟩⟩
theorem zcall_r8 : ∀ q ∈ zcallL8, zcallP zNW 8 q.1 q.2 := List.forall_mem_cons.mpr ⟨zcall_8_80, List.forall_mem_cons.mpr ⟨zcall_8_91, List.forall_mem_cons.mpr ⟨zcall_8_95, List.forall_mem_cons.mpr ⟨zcall_8_99, List.forall_mem_cons.mpr ⟨zcall_8_103, List.forall_mem_cons.mpr ⟨zcall_8_107, List.forall_mem_cons.mpr ⟨zcall_8_111, List.forall_mem_cons.mpr ⟨zcall_8_114, List.forall_mem_cons.mpr ⟨zcall_8_117, List.forall_mem_cons.mpr ⟨zcall_8_123, List.forall_mem_cons.mpr ⟨zcall_8_127, List.forall_mem_cons.mpr ⟨zcall_8_131, List.forall_mem_cons.mpr ⟨zcall_8_134, List.forall_mem_cons.mpr ⟨zcall_8_137, List.forall_mem_cons.mpr ⟨zcall_8_140, List.forall_mem_cons.mpr ⟨zcall_8_143, List.forall_mem_cons.mpr ⟨zcall_8_147, List.forall_mem_cons.mpr ⟨zcall_8_150, List.forall_mem_cons.mpr ⟨zcall_8_158, List.forall_mem_cons.mpr ⟨zcall_8_161, List.forall_mem_cons.mpr ⟨zcall_8_163, List.forall_mem_cons.mpr ⟨zcall_8_167, List.forall_mem_cons.mpr ⟨zcall_8_171, List.forall_mem_cons.mpr ⟨zcall_8_174, fun _ h => absurd h List.not_mem_nil⟩⟩⟩⟩⟩⟩⟩⟩⟩⟩⟩⟩⟩⟩⟩⟩⟩⟩⟩⟩⟩⟩⟩⟩
theorem zcall_9_7 : zcallP zNW 9 7 (0, 3, mX7_addName) := ⟨zmp_X7_addName, 2, by decide +kernel, Or.inl ⟨rfl, rfl, rfl, zwm 448 (by decide +kernel), (zwm 449 (by decide +kernel)), zwm 450 (by decide +kernel)⟩⟩
theorem zcall_9_17 : zcallP zNW 9 17 (0, 2, mX7_addComment) := ⟨zmp_X7_addComment, 1, by decide +kernel, Or.inl ⟨rfl, rfl, rfl, zwm 568 (by decide +kernel), (zwm 569 (by decide +kernel)), zwm 570 (by decide +kernel)⟩⟩
theorem zcall_9_21 : zcallP zNW 9 21 (0, 1, mX7_begin) := ⟨zmp_X7_begin, 0, by decide +kernel, Or.inl ⟨rfl, rfl, rfl, zwm 575 (by decide +kernel), (zwm 576 (by decide +kernel)), zwm 577 (by decide +kernel)⟩⟩
theorem zcall_9_25 : zcallP zNW 9 25 (0, 1, mX7_end) := ⟨zmp_X7_end, 0, by decide +kernel, Or.inl ⟨rfl, rfl, rfl, zwm 590 (by decide +kernel), (zwm 591 (by decide +kernel)), zwm 592 (by decide +kernel)⟩⟩
theorem zcall_9_28 : zcallP zNW 9 28 (0, 2, mX7_kindOf) := ⟨zmp_X7_kindOf, 1, by decide +kernel, Or.inl ⟨rfl, rfl, rfl, zwm 623 (by decide +kernel), (zwm 624 (by decide +kernel)), zwm 625 (by decide +kernel)⟩⟩
theorem zcall_9_34 : zcallP zNW 9 34 (0, 2, mX7_nameOf) := ⟨zmp_X7_nameOf, 1, by decide +kernel, Or.inl ⟨rfl, rfl, rfl, zwm 648 (by decide +kernel), (zwm 649 (by decide +kernel)), zwm 650 (by decide +kernel)⟩⟩
theorem zcall_9_37 : zcallP zNW 9 37 (0, 2, mX7_widthOf) := ⟨zmp_X7_widthOf, 1, by decide +kernel, Or.inl ⟨rfl, rfl, rfl, zwm 657 (by decide +kernel), (zwm 658 (by decide +kernel)), zwm 659 (by decide +kernel)⟩⟩
theorem zcall_9_40 : zcallP zNW 9 40 (0, 2, mX7_depthOf) := ⟨zmp_X7_depthOf, 1, by decide +kernel, Or.inl ⟨rfl, rfl, rfl, zwm 664 (by decide +kernel), (zwm 665 (by decide +kernel)), zwm 666 (by decide +kernel)⟩⟩
theorem zcall_9_43 : zcallP zNW 9 43 (0, 2, mX7_occurrences) := ⟨zmp_X7_occurrences, 1, by decide +kernel, Or.inl ⟨rfl, rfl, rfl, zwm 671 (by decide +kernel), (zwm 672 (by decide +kernel)), zwm 673 (by decide +kernel)⟩⟩
theorem zcall_9_46 : zcallP zNW 9 46 (0, 1, mX7_commonest) := ⟨zmp_X7_commonest, 0, by decide +kernel, Or.inl ⟨rfl, rfl, rfl, zwm 684 (by decide +kernel), (zwm 685 (by decide +kernel)), zwm 686 (by decide +kernel)⟩⟩
theorem zcall_9_51 : zcallP zNW 9 51 (0, 4, mX7_pin) := ⟨zmp_X7_pin, 3, by decide +kernel, Or.inl ⟨rfl, rfl, rfl, zwm 707 (by decide +kernel), (zwm 708 (by decide +kernel)), zwm 709 (by decide +kernel)⟩⟩
theorem zcall_9_55 : zcallP zNW 9 55 (0, 2, mX7_isPinned) := ⟨zmp_X7_isPinned, 1, by decide +kernel, Or.inl ⟨rfl, rfl, rfl, zwm 720 (by decide +kernel), (zwm 721 (by decide +kernel)), zwm 722 (by decide +kernel)⟩⟩
theorem zcall_9_59 : zcallP zNW 9 59 (0, 2, mX7_ruleOf) := ⟨zmp_X7_ruleOf, 1, by decide +kernel, Or.inl ⟨rfl, rfl, rfl, zwm 727 (by decide +kernel), (zwm 728 (by decide +kernel)), zwm 729 (by decide +kernel)⟩⟩
theorem zcall_9_62 : zcallP zNW 9 62 (0, 2, mX7_firstOf) := ⟨zmp_X7_firstOf, 1, by decide +kernel, Or.inl ⟨rfl, rfl, rfl, zwm 743 (by decide +kernel), (zwm 744 (by decide +kernel)), zwm 745 (by decide +kernel)⟩⟩
theorem zcall_9_65 : zcallP zNW 9 65 (0, 2, mX7_lastOf) := ⟨zmp_X7_lastOf, 1, by decide +kernel, Or.inl ⟨rfl, rfl, rfl, zwm 750 (by decide +kernel), (zwm 751 (by decide +kernel)), zwm 752 (by decide +kernel)⟩⟩
theorem zcall_9_68 : zcallP zNW 9 68 (0, 2, mX7_canFix) := ⟨zmp_X7_canFix, 1, by decide +kernel, Or.inl ⟨rfl, rfl, rfl, zwm 757 (by decide +kernel), (zwm 758 (by decide +kernel)), zwm 759 (by decide +kernel)⟩⟩
theorem zcall_9_71 : zcallP zNW 9 71 (0, 1, mX7_bestByTrying) := ⟨zmp_X7_bestByTrying, 0, by decide +kernel, Or.inl ⟨rfl, rfl, rfl, zwm 765 (by decide +kernel), (zwm 766 (by decide +kernel)), zwm 767 (by decide +kernel)⟩⟩
theorem zcall_9_76 : zcallP zNW 9 76 (0, 2, mX7_isInBest) := ⟨zmp_X7_isInBest, 1, by decide +kernel, Or.inl ⟨rfl, rfl, rfl, zwm 788 (by decide +kernel), (zwm 789 (by decide +kernel)), zwm 790 (by decide +kernel)⟩⟩
theorem zcall_9_79 : zcallP zNW 9 79 (0, 2, mX7_fix) := ⟨zmp_X7_fix, 1, by decide +kernel, Or.inl ⟨rfl, rfl, rfl, zwm 796 (by decide +kernel), (zwm 797 (by decide +kernel)), zwm 798 (by decide +kernel)⟩⟩
theorem zcall_9_82 : zcallP zNW 9 82 (0, 1, mX7_fixBest) := ⟨zmp_X7_fixBest, 0, by decide +kernel, Or.inl ⟨rfl, rfl, rfl, zwm 863 (by decide +kernel), (zwm 864 (by decide +kernel)), zwm 865 (by decide +kernel)⟩⟩
theorem zcall_9_85 : zcallP zNW 9 85 (0, 3, mX7_rename) := ⟨zmp_X7_rename, 2, by decide +kernel, Or.inl ⟨rfl, rfl, rfl, zwm 871 (by decide +kernel), (zwm 872 (by decide +kernel)), zwm 873 (by decide +kernel)⟩⟩
theorem zcall_9_88 : zcallP zNW 9 88 (0, 3, mX7_move) := ⟨zmp_X7_move, 2, by decide +kernel, Or.inl ⟨rfl, rfl, rfl, zwm 889 (by decide +kernel), (zwm 890 (by decide +kernel)), zwm 891 (by decide +kernel)⟩⟩
theorem zcall_9_91 : zcallP zNW 9 91 (0, 1, mX7_undo) := ⟨zmp_X7_undo, 0, by decide +kernel, Or.inl ⟨rfl, rfl, rfl, zwm 902 (by decide +kernel), (zwm 903 (by decide +kernel)), zwm 904 (by decide +kernel)⟩⟩
theorem zcall_9_94 : zcallP zNW 9 94 (0, 2, mX7_weight) := ⟨zmp_X7_weight, 1, by decide +kernel, Or.inl ⟨rfl, rfl, rfl, zwm 930 (by decide +kernel), (zwm 931 (by decide +kernel)), zwm 932 (by decide +kernel)⟩⟩
theorem zcall_9_97 : zcallP zNW 9 97 (0, 2, mX7_ruleAt) := ⟨zmp_X7_ruleAt, 1, by decide +kernel, Or.inl ⟨rfl, rfl, rfl, zwm 942 (by decide +kernel), (zwm 943 (by decide +kernel)), zwm 944 (by decide +kernel)⟩⟩
theorem zcall_9_100 : zcallP zNW 9 100 (0, 2, mX7_undone) := ⟨zmp_X7_undone, 1, by decide +kernel, Or.inl ⟨rfl, rfl, rfl, zwm 954 (by decide +kernel), (zwm 955 (by decide +kernel)), zwm 956 (by decide +kernel)⟩⟩
theorem zcall_9_104 : zcallP zNW 9 104 (0, 1, mX7_undoneShare) := ⟨zmp_X7_undoneShare, 0, by decide +kernel, Or.inl ⟨rfl, rfl, rfl, zwm 976 (by decide +kernel), (zwm 977 (by decide +kernel)), zwm 978 (by decide +kernel)⟩⟩
theorem zcall_9_110 : zcallP zNW 9 110 (0, 2, mX7_setWidth) := ⟨zmp_X7_setWidth, 1, by decide +kernel, Or.inl ⟨rfl, rfl, rfl, zwm 994 (by decide +kernel), (zwm 995 (by decide +kernel)), zwm 996 (by decide +kernel)⟩⟩
theorem zcall_9_113 : zcallP zNW 9 113 (0, 1, mX7_costByTrying) := ⟨zmp_X7_costByTrying, 0, by decide +kernel, Or.inl ⟨rfl, rfl, rfl, zwm 1002 (by decide +kernel), (zwm 1003 (by decide +kernel)), zwm 1004 (by decide +kernel)⟩⟩
theorem zcall_9_116 : zcallP zNW 9 116 (0, 2, mX7_lineOf) := ⟨zmp_X7_lineOf, 1, by decide +kernel, Or.inl ⟨rfl, rfl, rfl, zwm 1010 (by decide +kernel), (zwm 1011 (by decide +kernel)), zwm 1012 (by decide +kernel)⟩⟩
theorem zcall_9_119 : zcallP zNW 9 119 (0, 2, mX7_lineWidth) := ⟨zmp_X7_lineWidth, 1, by decide +kernel, Or.inl ⟨rfl, rfl, rfl, zwm 1023 (by decide +kernel), (zwm 1024 (by decide +kernel)), zwm 1025 (by decide +kernel)⟩⟩
theorem zcall_9_122 : zcallP zNW 9 122 (0, 1, mX7_meanWidth) := ⟨zmp_X7_meanWidth, 0, by decide +kernel, Or.inl ⟨rfl, rfl, rfl, zwm 1032 (by decide +kernel), (zwm 1033 (by decide +kernel)), zwm 1034 (by decide +kernel)⟩⟩
theorem zcall_9_126 : zcallP zNW 9 126 (3, 1, mX7_init) := ⟨zmp_X7_init, 0, by decide +kernel, Or.inr (Or.inr (Or.inr (Or.inl ⟨rfl, rfl, rfl, rfl, rfl, zwm 62 (by decide +kernel), (zwm 63 (by decide +kernel))⟩)))⟩
theorem zcall_9_129 : zcallP zNW 9 129 (3, 1, mX8_init) := ⟨zmp_X8_init, 0, by decide +kernel, Or.inr (Or.inr (Or.inr (Or.inl ⟨rfl, rfl, rfl, rfl, rfl, zwm 1039 (by decide +kernel), (zwm 1040 (by decide +kernel))⟩)))⟩
theorem zcall_9_130 : zcallP zNW 9 130 (5, 4, mL_addName) := ⟨zmp_L_addName, 4, by decide +kernel, Or.inr (Or.inr (Or.inr (Or.inr (Or.inr ⟨rfl, rfl, rfl, rfl, zwm 443 (by decide +kernel), (zwm 444 (by decide +kernel))⟩))))⟩
theorem zcall_9_135 : zcallP zNW 9 135 (0, 3, mX8_addName) := ⟨zmp_X8_addName, 2, by decide +kernel, Or.inl ⟨rfl, rfl, rfl, zwm 1127 (by decide +kernel), (zwm 1128 (by decide +kernel)), zwm 1129 (by decide +kernel)⟩⟩
theorem zcall_9_136 : zcallP zNW 9 136 (0, 1, mX8_thrown) := ⟨zmp_X8_thrown, 0, by decide +kernel, Or.inl ⟨rfl, rfl, rfl, zwm 1123 (by decide +kernel), (zwm 1124 (by decide +kernel)), zwm 1125 (by decide +kernel)⟩⟩
theorem zcall_9_139 : zcallP zNW 9 139 (5, 3, mL_addComment) := ⟨zmp_L_addComment, 3, by decide +kernel, Or.inr (Or.inr (Or.inr (Or.inr (Or.inr ⟨rfl, rfl, rfl, rfl, zwm 565 (by decide +kernel), (zwm 566 (by decide +kernel))⟩))))⟩
theorem zcall_9_142 : zcallP zNW 9 142 (0, 2, mX8_addComment) := ⟨zmp_X8_addComment, 1, by decide +kernel, Or.inl ⟨rfl, rfl, rfl, zwm 1145 (by decide +kernel), (zwm 1146 (by decide +kernel)), zwm 1147 (by decide +kernel)⟩⟩
theorem zcall_9_143 : zcallP zNW 9 143 (5, 2, mL_begin) := ⟨zmp_L_begin, 2, by decide +kernel, Or.inr (Or.inr (Or.inr (Or.inr (Or.inr ⟨rfl, rfl, rfl, rfl, zwm 572 (by decide +kernel), (zwm 573 (by decide +kernel))⟩))))⟩
theorem zcall_9_146 : zcallP zNW 9 146 (0, 1, mX8_begin) := ⟨zmp_X8_begin, 0, by decide +kernel, Or.inl ⟨rfl, rfl, rfl, zwm 1149 (by decide +kernel), (zwm 1150 (by decide +kernel)), zwm 1151 (by decide +kernel)⟩⟩
theorem zcall_9_147 : zcallP zNW 9 147 (5, 2, mL_end) := ⟨zmp_L_end, 2, by decide +kernel, Or.inr (Or.inr (Or.inr (Or.inr (Or.inr ⟨rfl, rfl, rfl, rfl, zwm 587 (by decide +kernel), (zwm 588 (by decide +kernel))⟩))))⟩
theorem zcall_9_149 : zcallP zNW 9 149 (0, 1, mX8_end) := ⟨zmp_X8_end, 0, by decide +kernel, Or.inl ⟨rfl, rfl, rfl, zwm 1157 (by decide +kernel), (zwm 1158 (by decide +kernel)), zwm 1159 (by decide +kernel)⟩⟩
theorem zcall_9_150 : zcallP zNW 9 150 (0, 1, mX7_entries) := ⟨zmp_X7_entries, 0, by decide +kernel, Or.inl ⟨rfl, rfl, rfl, zwm 231 (by decide +kernel), (zwm 232 (by decide +kernel)), zwm 233 (by decide +kernel)⟩⟩
theorem zcall_9_153 : zcallP zNW 9 153 (0, 1, mX8_entries) := ⟨zmp_X8_entries, 0, by decide +kernel, Or.inl ⟨rfl, rfl, rfl, zwm 1165 (by decide +kernel), (zwm 1166 (by decide +kernel)), zwm 1167 (by decide +kernel)⟩⟩
theorem zcall_9_154 : zcallP zNW 9 154 (5, 3, mL_kindOf) := ⟨zmp_L_kindOf, 3, by decide +kernel, Or.inr (Or.inr (Or.inr (Or.inr (Or.inr ⟨rfl, rfl, rfl, rfl, zwm 596 (by decide +kernel), (zwm 597 (by decide +kernel))⟩))))⟩
theorem zcall_9_156 : zcallP zNW 9 156 (0, 2, mX8_kindOf) := ⟨zmp_X8_kindOf, 1, by decide +kernel, Or.inl ⟨rfl, rfl, rfl, zwm 1169 (by decide +kernel), (zwm 1170 (by decide +kernel)), zwm 1171 (by decide +kernel)⟩⟩
theorem zcall_9_157 : zcallP zNW 9 157 (5, 3, mL_nameOf) := ⟨zmp_L_nameOf, 3, by decide +kernel, Or.inr (Or.inr (Or.inr (Or.inr (Or.inr ⟨rfl, rfl, rfl, rfl, zwm 645 (by decide +kernel), (zwm 646 (by decide +kernel))⟩))))⟩
theorem zcall_9_159 : zcallP zNW 9 159 (0, 2, mX8_nameOf) := ⟨zmp_X8_nameOf, 1, by decide +kernel, Or.inl ⟨rfl, rfl, rfl, zwm 1177 (by decide +kernel), (zwm 1178 (by decide +kernel)), zwm 1179 (by decide +kernel)⟩⟩
theorem zcall_9_160 : zcallP zNW 9 160 (5, 3, mL_widthOf) := ⟨zmp_L_widthOf, 3, by decide +kernel, Or.inr (Or.inr (Or.inr (Or.inr (Or.inr ⟨rfl, rfl, rfl, rfl, zwm 654 (by decide +kernel), (zwm 655 (by decide +kernel))⟩))))⟩
theorem zcall_9_162 : zcallP zNW 9 162 (0, 2, mX8_widthOf) := ⟨zmp_X8_widthOf, 1, by decide +kernel, Or.inl ⟨rfl, rfl, rfl, zwm 1181 (by decide +kernel), (zwm 1182 (by decide +kernel)), zwm 1183 (by decide +kernel)⟩⟩
theorem zcall_9_163 : zcallP zNW 9 163 (5, 3, mL_depthOf) := ⟨zmp_L_depthOf, 3, by decide +kernel, Or.inr (Or.inr (Or.inr (Or.inr (Or.inr ⟨rfl, rfl, rfl, rfl, zwm 661 (by decide +kernel), (zwm 662 (by decide +kernel))⟩))))⟩
theorem zcall_9_165 : zcallP zNW 9 165 (0, 2, mX8_depthOf) := ⟨zmp_X8_depthOf, 1, by decide +kernel, Or.inl ⟨rfl, rfl, rfl, zwm 1189 (by decide +kernel), (zwm 1190 (by decide +kernel)), zwm 1191 (by decide +kernel)⟩⟩
theorem zcall_9_166 : zcallP zNW 9 166 (5, 3, mL_occurrences) := ⟨zmp_L_occurrences, 3, by decide +kernel, Or.inr (Or.inr (Or.inr (Or.inr (Or.inr ⟨rfl, rfl, rfl, rfl, zwm 668 (by decide +kernel), (zwm 669 (by decide +kernel))⟩))))⟩
theorem zcall_9_168 : zcallP zNW 9 168 (0, 2, mX8_occurrences) := ⟨zmp_X8_occurrences, 1, by decide +kernel, Or.inl ⟨rfl, rfl, rfl, zwm 1193 (by decide +kernel), (zwm 1194 (by decide +kernel)), zwm 1195 (by decide +kernel)⟩⟩
theorem zcall_9_169 : zcallP zNW 9 169 (5, 2, mL_commonest) := ⟨zmp_L_commonest, 2, by decide +kernel, Or.inr (Or.inr (Or.inr (Or.inr (Or.inr ⟨rfl, rfl, rfl, rfl, zwm 680 (by decide +kernel), (zwm 681 (by decide +kernel))⟩))))⟩
theorem zcall_9_171 : zcallP zNW 9 171 (0, 1, mX8_commonest) := ⟨zmp_X8_commonest, 0, by decide +kernel, Or.inl ⟨rfl, rfl, rfl, zwm 1201 (by decide +kernel), (zwm 1202 (by decide +kernel)), zwm 1203 (by decide +kernel)⟩⟩
theorem zcall_9_172 : zcallP zNW 9 172 (5, 5, mL_pin) := ⟨zmp_L_pin, 5, by decide +kernel, Or.inr (Or.inr (Or.inr (Or.inr (Or.inr ⟨rfl, rfl, rfl, rfl, zwm 704 (by decide +kernel), (zwm 705 (by decide +kernel))⟩))))⟩
theorem zcall_9_175 : zcallP zNW 9 175 (0, 4, mX8_pin) := ⟨zmp_X8_pin, 3, by decide +kernel, Or.inl ⟨rfl, rfl, rfl, zwm 1205 (by decide +kernel), (zwm 1206 (by decide +kernel)), zwm 1207 (by decide +kernel)⟩⟩
theorem zcall_9_176 : zcallP zNW 9 176 (5, 3, mL_isPinned) := ⟨zmp_L_isPinned, 3, by decide +kernel, Or.inr (Or.inr (Or.inr (Or.inr (Or.inr ⟨rfl, rfl, rfl, rfl, zwm 717 (by decide +kernel), (zwm 718 (by decide +kernel))⟩))))⟩
theorem zcall_9_178 : zcallP zNW 9 178 (0, 2, mX8_isPinned) := ⟨zmp_X8_isPinned, 1, by decide +kernel, Or.inl ⟨rfl, rfl, rfl, zwm 1209 (by decide +kernel), (zwm 1210 (by decide +kernel)), zwm 1211 (by decide +kernel)⟩⟩
theorem zcall_9_179 : zcallP zNW 9 179 (0, 1, mX7_findings) := ⟨zmp_X7_findings, 0, by decide +kernel, Or.inl ⟨rfl, rfl, rfl, zwm 239 (by decide +kernel), (zwm 240 (by decide +kernel)), zwm 241 (by decide +kernel)⟩⟩
theorem zcall_9_182 : zcallP zNW 9 182 (0, 1, mX8_findings) := ⟨zmp_X8_findings, 0, by decide +kernel, Or.inl ⟨rfl, rfl, rfl, zwm 1213 (by decide +kernel), (zwm 1214 (by decide +kernel)), zwm 1215 (by decide +kernel)⟩⟩
theorem zcall_9_183 : zcallP zNW 9 183 (5, 3, mL_ruleOf) := ⟨zmp_L_ruleOf, 3, by decide +kernel, Or.inr (Or.inr (Or.inr (Or.inr (Or.inr ⟨rfl, rfl, rfl, rfl, zwm 724 (by decide +kernel), (zwm 725 (by decide +kernel))⟩))))⟩
theorem zcall_9_185 : zcallP zNW 9 185 (0, 2, mX8_ruleOf) := ⟨zmp_X8_ruleOf, 1, by decide +kernel, Or.inl ⟨rfl, rfl, rfl, zwm 1233 (by decide +kernel), (zwm 1234 (by decide +kernel)), zwm 1235 (by decide +kernel)⟩⟩
theorem zcall_9_186 : zcallP zNW 9 186 (5, 3, mL_firstOf) := ⟨zmp_L_firstOf, 3, by decide +kernel, Or.inr (Or.inr (Or.inr (Or.inr (Or.inr ⟨rfl, rfl, rfl, rfl, zwm 740 (by decide +kernel), (zwm 741 (by decide +kernel))⟩))))⟩
theorem zcall_9_188 : zcallP zNW 9 188 (0, 2, mX8_firstOf) := ⟨zmp_X8_firstOf, 1, by decide +kernel, Or.inl ⟨rfl, rfl, rfl, zwm 1241 (by decide +kernel), (zwm 1242 (by decide +kernel)), zwm 1243 (by decide +kernel)⟩⟩
theorem zcall_9_189 : zcallP zNW 9 189 (5, 3, mL_lastOf) := ⟨zmp_L_lastOf, 3, by decide +kernel, Or.inr (Or.inr (Or.inr (Or.inr (Or.inr ⟨rfl, rfl, rfl, rfl, zwm 747 (by decide +kernel), (zwm 748 (by decide +kernel))⟩))))⟩
theorem zcall_9_191 : zcallP zNW 9 191 (0, 2, mX8_lastOf) := ⟨zmp_X8_lastOf, 1, by decide +kernel, Or.inl ⟨rfl, rfl, rfl, zwm 1245 (by decide +kernel), (zwm 1246 (by decide +kernel)), zwm 1247 (by decide +kernel)⟩⟩
theorem zcall_9_192 : zcallP zNW 9 192 (5, 3, mL_canFix) := ⟨zmp_L_canFix, 3, by decide +kernel, Or.inr (Or.inr (Or.inr (Or.inr (Or.inr ⟨rfl, rfl, rfl, rfl, zwm 754 (by decide +kernel), (zwm 755 (by decide +kernel))⟩))))⟩
theorem zcall_9_194 : zcallP zNW 9 194 (0, 2, mX8_canFix) := ⟨zmp_X8_canFix, 1, by decide +kernel, Or.inl ⟨rfl, rfl, rfl, zwm 1249 (by decide +kernel), (zwm 1250 (by decide +kernel)), zwm 1251 (by decide +kernel)⟩⟩
theorem zcall_9_195 : zcallP zNW 9 195 (0, 1, mX7_best) := ⟨zmp_X7_best, 0, by decide +kernel, Or.inl ⟨rfl, rfl, rfl, zwm 292 (by decide +kernel), (zwm 293 (by decide +kernel)), zwm 294 (by decide +kernel)⟩⟩
theorem zcall_9_198 : zcallP zNW 9 198 (0, 1, mX8_best) := ⟨zmp_X8_best, 0, by decide +kernel, Or.inl ⟨rfl, rfl, rfl, zwm 1253 (by decide +kernel), (zwm 1254 (by decide +kernel)), zwm 1255 (by decide +kernel)⟩⟩
theorem zcall_9_199 : zcallP zNW 9 199 (5, 2, mL_bestByTrying) := ⟨zmp_L_bestByTrying, 2, by decide +kernel, Or.inr (Or.inr (Or.inr (Or.inr (Or.inr ⟨rfl, rfl, rfl, rfl, zwm 761 (by decide +kernel), (zwm 762 (by decide +kernel))⟩))))⟩
theorem zcall_9_201 : zcallP zNW 9 201 (0, 1, mX8_bestByTrying) := ⟨zmp_X8_bestByTrying, 0, by decide +kernel, Or.inl ⟨rfl, rfl, rfl, zwm 1257 (by decide +kernel), (zwm 1258 (by decide +kernel)), zwm 1259 (by decide +kernel)⟩⟩
theorem zcall_9_202 : zcallP zNW 9 202 (5, 3, mL_isInBest) := ⟨zmp_L_isInBest, 3, by decide +kernel, Or.inr (Or.inr (Or.inr (Or.inr (Or.inr ⟨rfl, rfl, rfl, rfl, zwm 785 (by decide +kernel), (zwm 786 (by decide +kernel))⟩))))⟩
theorem zcall_9_204 : zcallP zNW 9 204 (0, 2, mX8_isInBest) := ⟨zmp_X8_isInBest, 1, by decide +kernel, Or.inl ⟨rfl, rfl, rfl, zwm 1265 (by decide +kernel), (zwm 1266 (by decide +kernel)), zwm 1267 (by decide +kernel)⟩⟩
theorem zcall_9_205 : zcallP zNW 9 205 (5, 3, mL_fix) := ⟨zmp_L_fix, 3, by decide +kernel, Or.inr (Or.inr (Or.inr (Or.inr (Or.inr ⟨rfl, rfl, rfl, rfl, zwm 793 (by decide +kernel), (zwm 794 (by decide +kernel))⟩))))⟩
theorem zcall_9_207 : zcallP zNW 9 207 (0, 2, mX8_fix) := ⟨zmp_X8_fix, 1, by decide +kernel, Or.inl ⟨rfl, rfl, rfl, zwm 1269 (by decide +kernel), (zwm 1270 (by decide +kernel)), zwm 1271 (by decide +kernel)⟩⟩
theorem zcall_9_208 : zcallP zNW 9 208 (5, 2, mL_fixBest) := ⟨zmp_L_fixBest, 2, by decide +kernel, Or.inr (Or.inr (Or.inr (Or.inr (Or.inr ⟨rfl, rfl, rfl, rfl, zwm 860 (by decide +kernel), (zwm 861 (by decide +kernel))⟩))))⟩
theorem zcall_9_210 : zcallP zNW 9 210 (0, 1, mX8_fixBest) := ⟨zmp_X8_fixBest, 0, by decide +kernel, Or.inl ⟨rfl, rfl, rfl, zwm 1293 (by decide +kernel), (zwm 1294 (by decide +kernel)), zwm 1295 (by decide +kernel)⟩⟩
theorem zcall_9_211 : zcallP zNW 9 211 (5, 4, mL_rename) := ⟨zmp_L_rename, 4, by decide +kernel, Or.inr (Or.inr (Or.inr (Or.inr (Or.inr ⟨rfl, rfl, rfl, rfl, zwm 868 (by decide +kernel), (zwm 869 (by decide +kernel))⟩))))⟩
theorem zcall_9_213 : zcallP zNW 9 213 (0, 3, mX8_rename) := ⟨zmp_X8_rename, 2, by decide +kernel, Or.inl ⟨rfl, rfl, rfl, zwm 1297 (by decide +kernel), (zwm 1298 (by decide +kernel)), zwm 1299 (by decide +kernel)⟩⟩
theorem zcall_9_214 : zcallP zNW 9 214 (5, 4, mL_move) := ⟨zmp_L_move, 4, by decide +kernel, Or.inr (Or.inr (Or.inr (Or.inr (Or.inr ⟨rfl, rfl, rfl, rfl, zwm 886 (by decide +kernel), (zwm 887 (by decide +kernel))⟩))))⟩
theorem zcall_9_216 : zcallP zNW 9 216 (0, 3, mX8_move) := ⟨zmp_X8_move, 2, by decide +kernel, Or.inl ⟨rfl, rfl, rfl, zwm 1301 (by decide +kernel), (zwm 1302 (by decide +kernel)), zwm 1303 (by decide +kernel)⟩⟩
theorem zcall_9_217 : zcallP zNW 9 217 (5, 2, mL_undo) := ⟨zmp_L_undo, 2, by decide +kernel, Or.inr (Or.inr (Or.inr (Or.inr (Or.inr ⟨rfl, rfl, rfl, rfl, zwm 899 (by decide +kernel), (zwm 900 (by decide +kernel))⟩))))⟩
theorem zcall_9_219 : zcallP zNW 9 219 (0, 1, mX8_undo) := ⟨zmp_X8_undo, 0, by decide +kernel, Or.inl ⟨rfl, rfl, rfl, zwm 1305 (by decide +kernel), (zwm 1306 (by decide +kernel)), zwm 1307 (by decide +kernel)⟩⟩
theorem zcall_9_220 : zcallP zNW 9 220 (5, 3, mL_weight) := ⟨zmp_L_weight, 3, by decide +kernel, Or.inr (Or.inr (Or.inr (Or.inr (Or.inr ⟨rfl, rfl, rfl, rfl, zwm 927 (by decide +kernel), (zwm 928 (by decide +kernel))⟩))))⟩
theorem zcall_9_222 : zcallP zNW 9 222 (0, 2, mX8_weight) := ⟨zmp_X8_weight, 1, by decide +kernel, Or.inl ⟨rfl, rfl, rfl, zwm 1309 (by decide +kernel), (zwm 1310 (by decide +kernel)), zwm 1311 (by decide +kernel)⟩⟩
theorem zcall_9_223 : zcallP zNW 9 223 (5, 3, mL_ruleAt) := ⟨zmp_L_ruleAt, 3, by decide +kernel, Or.inr (Or.inr (Or.inr (Or.inr (Or.inr ⟨rfl, rfl, rfl, rfl, zwm 939 (by decide +kernel), (zwm 940 (by decide +kernel))⟩))))⟩
theorem zcall_9_225 : zcallP zNW 9 225 (0, 2, mX8_ruleAt) := ⟨zmp_X8_ruleAt, 1, by decide +kernel, Or.inl ⟨rfl, rfl, rfl, zwm 1316 (by decide +kernel), (zwm 1317 (by decide +kernel)), zwm 1318 (by decide +kernel)⟩⟩
theorem zcall_9_226 : zcallP zNW 9 226 (5, 3, mL_undone) := ⟨zmp_L_undone, 3, by decide +kernel, Or.inr (Or.inr (Or.inr (Or.inr (Or.inr ⟨rfl, rfl, rfl, rfl, zwm 951 (by decide +kernel), (zwm 952 (by decide +kernel))⟩))))⟩
theorem zcall_9_228 : zcallP zNW 9 228 (0, 2, mX8_undone) := ⟨zmp_X8_undone, 1, by decide +kernel, Or.inl ⟨rfl, rfl, rfl, zwm 1320 (by decide +kernel), (zwm 1321 (by decide +kernel)), zwm 1322 (by decide +kernel)⟩⟩
theorem zcall_9_229 : zcallP zNW 9 229 (5, 2, mL_undoneShare) := ⟨zmp_L_undoneShare, 2, by decide +kernel, Or.inr (Or.inr (Or.inr (Or.inr (Or.inr ⟨rfl, rfl, rfl, rfl, zwm 959 (by decide +kernel), (zwm 960 (by decide +kernel))⟩))))⟩
theorem zcall_9_232 : zcallP zNW 9 232 (0, 1, mX8_undoneShare) := ⟨zmp_X8_undoneShare, 0, by decide +kernel, Or.inl ⟨rfl, rfl, rfl, zwm 1324 (by decide +kernel), (zwm 1325 (by decide +kernel)), zwm 1326 (by decide +kernel)⟩⟩
theorem zcall_9_233 : zcallP zNW 9 233 (5, 3, mL_setWidth) := ⟨zmp_L_setWidth, 3, by decide +kernel, Or.inr (Or.inr (Or.inr (Or.inr (Or.inr ⟨rfl, rfl, rfl, rfl, zwm 991 (by decide +kernel), (zwm 992 (by decide +kernel))⟩))))⟩
theorem zcall_9_235 : zcallP zNW 9 235 (0, 2, mX8_setWidth) := ⟨zmp_X8_setWidth, 1, by decide +kernel, Or.inl ⟨rfl, rfl, rfl, zwm 1328 (by decide +kernel), (zwm 1329 (by decide +kernel)), zwm 1330 (by decide +kernel)⟩⟩
theorem zcall_9_236 : zcallP zNW 9 236 (0, 1, mX7_layOut) := ⟨zmp_X7_layOut, 0, by decide +kernel, Or.inl ⟨rfl, rfl, rfl, zwm 342 (by decide +kernel), (zwm 343 (by decide +kernel)), zwm 344 (by decide +kernel)⟩⟩
theorem zcall_9_239 : zcallP zNW 9 239 (0, 1, mX8_layOut) := ⟨zmp_X8_layOut, 0, by decide +kernel, Or.inl ⟨rfl, rfl, rfl, zwm 1332 (by decide +kernel), (zwm 1333 (by decide +kernel)), zwm 1334 (by decide +kernel)⟩⟩
theorem zcall_9_240 : zcallP zNW 9 240 (0, 1, mX7_isLaidOut) := ⟨zmp_X7_isLaidOut, 0, by decide +kernel, Or.inl ⟨rfl, rfl, rfl, zwm 378 (by decide +kernel), (zwm 379 (by decide +kernel)), zwm 380 (by decide +kernel)⟩⟩
theorem zcall_9_244 : zcallP zNW 9 244 (0, 1, mX8_isLaidOut) := ⟨zmp_X8_isLaidOut, 0, by decide +kernel, Or.inl ⟨rfl, rfl, rfl, zwm 1349 (by decide +kernel), (zwm 1350 (by decide +kernel)), zwm 1351 (by decide +kernel)⟩⟩
theorem zcall_9_245 : zcallP zNW 9 245 (0, 1, mX7_cost) := ⟨zmp_X7_cost, 0, by decide +kernel, Or.inl ⟨rfl, rfl, rfl, zwm 382 (by decide +kernel), (zwm 383 (by decide +kernel)), zwm 384 (by decide +kernel)⟩⟩
theorem zcall_9_248 : zcallP zNW 9 248 (0, 1, mX8_cost) := ⟨zmp_X8_cost, 0, by decide +kernel, Or.inl ⟨rfl, rfl, rfl, zwm 1353 (by decide +kernel), (zwm 1354 (by decide +kernel)), zwm 1355 (by decide +kernel)⟩⟩
theorem zcall_9_249 : zcallP zNW 9 249 (5, 2, mL_costByTrying) := ⟨zmp_L_costByTrying, 2, by decide +kernel, Or.inr (Or.inr (Or.inr (Or.inr (Or.inr ⟨rfl, rfl, rfl, rfl, zwm 999 (by decide +kernel), (zwm 1000 (by decide +kernel))⟩))))⟩
theorem zcall_9_251 : zcallP zNW 9 251 (0, 1, mX8_costByTrying) := ⟨zmp_X8_costByTrying, 0, by decide +kernel, Or.inl ⟨rfl, rfl, rfl, zwm 1357 (by decide +kernel), (zwm 1358 (by decide +kernel)), zwm 1359 (by decide +kernel)⟩⟩
theorem zcall_9_252 : zcallP zNW 9 252 (5, 3, mL_lineOf) := ⟨zmp_L_lineOf, 3, by decide +kernel, Or.inr (Or.inr (Or.inr (Or.inr (Or.inr ⟨rfl, rfl, rfl, rfl, zwm 1007 (by decide +kernel), (zwm 1008 (by decide +kernel))⟩))))⟩
theorem zcall_9_254 : zcallP zNW 9 254 (0, 2, mX8_lineOf) := ⟨zmp_X8_lineOf, 1, by decide +kernel, Or.inl ⟨rfl, rfl, rfl, zwm 1361 (by decide +kernel), (zwm 1362 (by decide +kernel)), zwm 1363 (by decide +kernel)⟩⟩
theorem zcall_9_255 : zcallP zNW 9 255 (5, 3, mL_lineWidth) := ⟨zmp_L_lineWidth, 3, by decide +kernel, Or.inr (Or.inr (Or.inr (Or.inr (Or.inr ⟨rfl, rfl, rfl, rfl, zwm 1020 (by decide +kernel), (zwm 1021 (by decide +kernel))⟩))))⟩
theorem zcall_9_257 : zcallP zNW 9 257 (0, 2, mX8_lineWidth) := ⟨zmp_X8_lineWidth, 1, by decide +kernel, Or.inl ⟨rfl, rfl, rfl, zwm 1365 (by decide +kernel), (zwm 1366 (by decide +kernel)), zwm 1367 (by decide +kernel)⟩⟩
theorem zcall_9_258 : zcallP zNW 9 258 (5, 2, mL_meanWidth) := ⟨zmp_L_meanWidth, 2, by decide +kernel, Or.inr (Or.inr (Or.inr (Or.inr (Or.inr ⟨rfl, rfl, rfl, rfl, zwm 1029 (by decide +kernel), (zwm 1030 (by decide +kernel))⟩))))⟩
theorem zcall_9_260 : zcallP zNW 9 260 (0, 1, mX8_meanWidth) := ⟨zmp_X8_meanWidth, 0, by decide +kernel, Or.inl ⟨rfl, rfl, rfl, zwm 1369 (by decide +kernel), (zwm 1370 (by decide +kernel)), zwm 1371 (by decide +kernel)⟩⟩
theorem zcall_9_261 : zcallP zNW 9 261 (0, 1, mX7_isTidy) := ⟨zmp_X7_isTidy, 0, by decide +kernel, Or.inl ⟨rfl, rfl, rfl, zwm 390 (by decide +kernel), (zwm 391 (by decide +kernel)), zwm 392 (by decide +kernel)⟩⟩
theorem zcall_9_264 : zcallP zNW 9 264 (0, 1, mX8_isTidy) := ⟨zmp_X8_isTidy, 0, by decide +kernel, Or.inl ⟨rfl, rfl, rfl, zwm 1373 (by decide +kernel), (zwm 1374 (by decide +kernel)), zwm 1375 (by decide +kernel)⟩⟩
theorem zcall_r9 : ∀ q ∈ zcallL9, zcallP zNW 9 q.1 q.2 := List.forall_mem_cons.mpr ⟨zcall_9_7, List.forall_mem_cons.mpr ⟨zcall_9_17, List.forall_mem_cons.mpr ⟨zcall_9_21, List.forall_mem_cons.mpr ⟨zcall_9_25, List.forall_mem_cons.mpr ⟨zcall_9_28, List.forall_mem_cons.mpr ⟨zcall_9_34, List.forall_mem_cons.mpr ⟨zcall_9_37, List.forall_mem_cons.mpr ⟨zcall_9_40, List.forall_mem_cons.mpr ⟨zcall_9_43, List.forall_mem_cons.mpr ⟨zcall_9_46, List.forall_mem_cons.mpr ⟨zcall_9_51, List.forall_mem_cons.mpr ⟨zcall_9_55, List.forall_mem_cons.mpr ⟨zcall_9_59, List.forall_mem_cons.mpr ⟨zcall_9_62, List.forall_mem_cons.mpr ⟨zcall_9_65, List.forall_mem_cons.mpr ⟨zcall_9_68, List.forall_mem_cons.mpr ⟨zcall_9_71, List.forall_mem_cons.mpr ⟨zcall_9_76, List.forall_mem_cons.mpr ⟨zcall_9_79, List.forall_mem_cons.mpr ⟨zcall_9_82, List.forall_mem_cons.mpr ⟨zcall_9_85, List.forall_mem_cons.mpr ⟨zcall_9_88, List.forall_mem_cons.mpr ⟨zcall_9_91, List.forall_mem_cons.mpr ⟨zcall_9_94, List.forall_mem_cons.mpr ⟨zcall_9_97, List.forall_mem_cons.mpr ⟨zcall_9_100, List.forall_mem_cons.mpr ⟨zcall_9_104, List.forall_mem_cons.mpr ⟨zcall_9_110, List.forall_mem_cons.mpr ⟨zcall_9_113, List.forall_mem_cons.mpr ⟨zcall_9_116, List.forall_mem_cons.mpr ⟨zcall_9_119, List.forall_mem_cons.mpr ⟨zcall_9_122, List.forall_mem_cons.mpr ⟨zcall_9_126, List.forall_mem_cons.mpr ⟨zcall_9_129, List.forall_mem_cons.mpr ⟨zcall_9_130, List.forall_mem_cons.mpr ⟨zcall_9_135, List.forall_mem_cons.mpr ⟨zcall_9_136, List.forall_mem_cons.mpr ⟨zcall_9_139, List.forall_mem_cons.mpr ⟨zcall_9_142, List.forall_mem_cons.mpr ⟨zcall_9_143, List.forall_mem_cons.mpr ⟨zcall_9_146, List.forall_mem_cons.mpr ⟨zcall_9_147, List.forall_mem_cons.mpr ⟨zcall_9_149, List.forall_mem_cons.mpr ⟨zcall_9_150, List.forall_mem_cons.mpr ⟨zcall_9_153, List.forall_mem_cons.mpr ⟨zcall_9_154, List.forall_mem_cons.mpr ⟨zcall_9_156, List.forall_mem_cons.mpr ⟨zcall_9_157, List.forall_mem_cons.mpr ⟨zcall_9_159, List.forall_mem_cons.mpr ⟨zcall_9_160, List.forall_mem_cons.mpr ⟨zcall_9_162, List.forall_mem_cons.mpr ⟨zcall_9_163, List.forall_mem_cons.mpr ⟨zcall_9_165, List.forall_mem_cons.mpr ⟨zcall_9_166, List.forall_mem_cons.mpr ⟨zcall_9_168, List.forall_mem_cons.mpr ⟨zcall_9_169, List.forall_mem_cons.mpr ⟨zcall_9_171, List.forall_mem_cons.mpr ⟨zcall_9_172, List.forall_mem_cons.mpr ⟨zcall_9_175, List.forall_mem_cons.mpr ⟨zcall_9_176, List.forall_mem_cons.mpr ⟨zcall_9_178, List.forall_mem_cons.mpr ⟨zcall_9_179, List.forall_mem_cons.mpr ⟨zcall_9_182, List.forall_mem_cons.mpr ⟨zcall_9_183, List.forall_mem_cons.mpr ⟨zcall_9_185, List.forall_mem_cons.mpr ⟨zcall_9_186, List.forall_mem_cons.mpr ⟨zcall_9_188, List.forall_mem_cons.mpr ⟨zcall_9_189, List.forall_mem_cons.mpr ⟨zcall_9_191, List.forall_mem_cons.mpr ⟨zcall_9_192, List.forall_mem_cons.mpr ⟨zcall_9_194, List.forall_mem_cons.mpr ⟨zcall_9_195, List.forall_mem_cons.mpr ⟨zcall_9_198, List.forall_mem_cons.mpr ⟨zcall_9_199, List.forall_mem_cons.mpr ⟨zcall_9_201, List.forall_mem_cons.mpr ⟨zcall_9_202, List.forall_mem_cons.mpr ⟨zcall_9_204, List.forall_mem_cons.mpr ⟨zcall_9_205, List.forall_mem_cons.mpr ⟨zcall_9_207, List.forall_mem_cons.mpr ⟨zcall_9_208, List.forall_mem_cons.mpr ⟨zcall_9_210, List.forall_mem_cons.mpr ⟨zcall_9_211, List.forall_mem_cons.mpr ⟨zcall_9_213, List.forall_mem_cons.mpr ⟨zcall_9_214, List.forall_mem_cons.mpr ⟨zcall_9_216, List.forall_mem_cons.mpr ⟨zcall_9_217, List.forall_mem_cons.mpr ⟨zcall_9_219, List.forall_mem_cons.mpr ⟨zcall_9_220, List.forall_mem_cons.mpr ⟨zcall_9_222, List.forall_mem_cons.mpr ⟨zcall_9_223, List.forall_mem_cons.mpr ⟨zcall_9_225, List.forall_mem_cons.mpr ⟨zcall_9_226, List.forall_mem_cons.mpr ⟨zcall_9_228, List.forall_mem_cons.mpr ⟨zcall_9_229, List.forall_mem_cons.mpr ⟨zcall_9_232, List.forall_mem_cons.mpr ⟨zcall_9_233, List.forall_mem_cons.mpr ⟨zcall_9_235, List.forall_mem_cons.mpr ⟨zcall_9_236, List.forall_mem_cons.mpr ⟨zcall_9_239, List.forall_mem_cons.mpr ⟨zcall_9_240, List.forall_mem_cons.mpr ⟨zcall_9_244, List.forall_mem_cons.mpr ⟨zcall_9_245, List.forall_mem_cons.mpr ⟨zcall_9_248, List.forall_mem_cons.mpr ⟨zcall_9_249, List.forall_mem_cons.mpr ⟨zcall_9_251, List.forall_mem_cons.mpr ⟨zcall_9_252, List.forall_mem_cons.mpr ⟨zcall_9_254, List.forall_mem_cons.mpr ⟨zcall_9_255, List.forall_mem_cons.mpr ⟨zcall_9_257, List.forall_mem_cons.mpr ⟨zcall_9_258, List.forall_mem_cons.mpr ⟨zcall_9_260, List.forall_mem_cons.mpr ⟨zcall_9_261, List.forall_mem_cons.mpr ⟨zcall_9_264, fun _ h => absurd h List.not_mem_nil⟩⟩⟩⟩⟩⟩⟩⟩⟩⟩⟩⟩⟩⟩⟩⟩⟩⟩⟩⟩⟩⟩⟩⟩⟩⟩⟩⟩⟩⟩⟩⟩⟩⟩⟩⟩⟩⟩⟩⟩⟩⟩⟩⟩⟩⟩⟩⟩⟩⟩⟩⟩⟩⟩⟩⟩⟩⟩⟩⟩⟩⟩⟩⟩⟩⟩⟩⟩⟩⟩⟩⟩⟩⟩⟩⟩⟩⟩⟩⟩⟩⟩⟩⟩⟩⟩⟩⟩⟩⟩⟩⟩⟩⟩⟩⟩⟩⟩⟩⟩⟩⟩⟩⟩⟩⟩⟩⟩⟩⟩⟩⟩⟩
theorem zcall_ok : ∀ c k q, zcall c k = some q → zcallP zNW c k q := by
  intro c k v h
  refine ztab_all (P := (zcallP zNW)) (fun c r hr => ?_) h
  match c, hr with
  | 0, hr => cases hr; exact zcall_r0
  | 1, hr => cases hr; exact zcall_r1
  | 2, hr => cases hr; exact zcall_r2
  | 3, hr => cases hr; exact zcall_r3
  | 4, hr => cases hr; exact zcall_r4
  | 5, hr => cases hr; exact zcall_r5
  | 6, hr => cases hr; exact zcall_r6
  | 7, hr => cases hr; exact zcall_r7
  | 8, hr => cases hr; exact zcall_r8
  | 9, hr => cases hr; exact zcall_r9
  | n + 10, hr => simp [zcallL] at hr
theorem zref_ok : ∀ c k, zref c k = true → Cond.classLink (zown c) k RX1 ∈ zWS := by
  intro c k h
  unfold zref at h
  split at h
  · rename_i q hq
    obtain ⟨C, T, N, ty, h1, -, -, h3, -⟩ := zcls_ok c k q hq
    have e1 : q.1 = 1 := eq_of_beq h
    have h4 := h1.1
    rw [e1] at h4
    have e2 : C = RX1 := by cases h4; rfl
    rw [← e2]
    exact h3
  · cases h
theorem zTab_ok : zTab zNW zTX zNC := by
  refine ⟨zcon_ok, fun c k => zmth_ok c k, zfld_ok, zcls_ok, zstc_ok, zref_ok, ⟨(zwm 91 (by decide +kernel)), (zwm 90 (by decide +kernel)), (zwm 92 (by decide +kernel)), (zwm 1122 (by decide +kernel)), (zwm 1377 (by decide +kernel))⟩, zcall_ok, zexn_ok, zxic_ok, zstr_ok, by decide +kernel, fun q h => h⟩
end
section
/-! the law's entry -/
theorem znw_all : zNW.all (fun w => zwarm w && decide (w ∈ lw_tbl)) = true := by decide +kernel
theorem ztx_all : zTX.all (fun q => decide (Cond.stringRef q.1 q.2.1 q.2.2 ∈ lw_tbl)) = true := by decide +kernel
theorem ztx_ex : zTX.all (fun q => decide (Cond.exactly (.string q.1 q.2.1) "java/lang/String" ∈ flatC (Cond.and given_1 narrow_1))) = true := by decide +kernel
theorem znc_all : zNC.all (fun q => decide (Cond.not (.castable q.1 q.2) ∈ flatC (Cond.and given_1 narrow_1))) = true := by decide +kernel
def zfw : List Int := [10, 8, 6, 4, 5]
def zroF (L : Nat) (xs : Nat → Int32) : zRo := fun z => if z = -2 then some (5, fun j => zfw.getD j 0) else if z = -3 then some (L, fun j => (xs j).toInt) else none
def zS0 : zS := ([], fun _ _ => 0, 0, 0)
theorem zfw_ok : ∀ j, zi32 (zfw.getD j 0)
  | 0 => ⟨by decide, by decide⟩
  | 1 => ⟨by decide, by decide⟩
  | 2 => ⟨by decide, by decide⟩
  | 3 => ⟨by decide, by decide⟩
  | 4 => ⟨by decide, by decide⟩
  | k + 5 => ⟨by show (-2147483648 : Int) ≤ 0; decide, by show (0 : Int) < 2147483648; decide⟩
section
variable {s : State} {b L : Nat} {xs : Nat → Int32}
theorem z_cls (hz : ∀ w ∈ zWS, w.before #[Value.ref b] s = true) : ∀ k : Nat, ∃ x : ClassId × (Nat → Nat), ∀ q, zcl[k]? = some q → u_Kn s q.1 q.2.1 q.2.2 x.1 x.2
  | 0 => by
    obtain ⟨c0, i0, h⟩ := u_known (C := RX0) (T := TX0) (N := 2) (n := 2) hz zu_0 (hz _ (zwm 172 (by decide +kernel)))
    exact ⟨(c0, i0), fun q hq => by cases hq; exact h⟩
  | 1 => by
    obtain ⟨c0, i0, h⟩ := u_known (C := RX1) (T := TX1) (N := 2) (n := 2) hz zu_1 (hz _ (zwm 125 (by decide +kernel)))
    exact ⟨(c0, i0), fun q hq => by cases hq; exact h⟩
  | 2 => by
    obtain ⟨c0, i0, h⟩ := u_known (C := RX2) (T := TX2) (N := 3) (n := 3) hz zu_2 (hz _ (zwm 118 (by decide +kernel)))
    exact ⟨(c0, i0), fun q hq => by cases hq; exact h⟩
  | 3 => by
    obtain ⟨c0, i0, h⟩ := u_known (C := RX3) (T := TX3) (N := 5) (n := 5) hz zu_3 (hz _ (zwm 150 (by decide +kernel)))
    exact ⟨(c0, i0), fun q hq => by cases hq; exact h⟩
  | 4 => by
    obtain ⟨c0, i0, h⟩ := u_known (C := RX4) (T := TX4) (N := 4) (n := 4) hz zu_4 (hz _ (zwm 185 (by decide +kernel)))
    exact ⟨(c0, i0), fun q hq => by cases hq; exact h⟩
  | 5 => by
    obtain ⟨c0, i0, h⟩ := u_known (C := RX5) (T := TX5) (N := 3) (n := 3) hz zu_5 (hz _ (zwm 94 (by decide +kernel)))
    exact ⟨(c0, i0), fun q hq => by cases hq; exact h⟩
  | 6 => by
    obtain ⟨c0, i0, h⟩ := u_known (C := RX6) (T := TX6) (N := 5) (n := 5) hz zu_6 (hz _ (zwm 69 (by decide +kernel)))
    exact ⟨(c0, i0), fun q hq => by cases hq; exact h⟩
  | 7 => by
    obtain ⟨c0, i0, h⟩ := u_known (C := RX7) (T := TX7) (N := 9) (n := 9) hz zu_7 (hz _ (zwm 61 (by decide +kernel)))
    exact ⟨(c0, i0), fun q hq => by cases hq; exact h⟩
  | 8 => by
    obtain ⟨c0, i0, h⟩ := u_known (C := RX8) (T := TX8) (N := 26) (n := 26) hz zu_8 (hz _ (zwm 1038 (by decide +kernel)))
    exact ⟨(c0, i0), fun q hq => by cases hq; exact h⟩
  | k + 9 => ⟨(0, fun _ => 0), fun q hq => by simp [zcl] at hq⟩
theorem z_arr {ty : FieldType} (h : (Cond.arrayClass ty).before #[Value.ref b] s = true) (ho : ∀ C, ty ≠ .object C) : ∃ c : ClassId, ArrOfT s c ty ∧ va_RA s c ty := by
  obtain ⟨c, k, comp, h1, h2, h3⟩ := Cond.arrayClass_spec h
  refine ⟨c, fun n z => ⟨fun k h => (by cases h), k, h2, comp, h3⟩, ?_⟩
  cases ty <;> first | exact h1 | exact absurd rfl (ho _)
theorem z_sf (hts : ∀ w ∈ lw_tbl, w.before #[Value.ref b] s = true) (hgv : (Jvm.Cond.and given_1 narrow_1).before #[Value.ref b] s = true) (hX : va_X b L xs s s.heap) (hbl : b < s.heap.size) (hL : L ≤ 2048) :
    ∃ (D : va_G) (cA : Nat → ClassId) (ad : Int → Nat), ad (-3) = b ∧ zSF zNW zTX zNC D cA ad (zroF L xs) (fun q => s.heap.size ≤ q) s s.heap := by
  have hz : ∀ w ∈ zWS, w.before #[Value.ref b] s = true := fun w hw => hts w (List.mem_filter.mp hw).1
  have hs := flat_of_before _ hgv
  have hA : ∀ a : Nat, a < s.heap.size → ¬ (fun q : Nat => s.heap.size ≤ q) a := fun a h => Nat.not_le.mpr h
  obtain ⟨f, hf⟩ := Classical.axiomOfChoice (z_cls hz)
  obtain ⟨cI, aI1, aI2⟩ := z_arr (ty := FieldType.int) (hz _ (zwm 91 (by decide +kernel))) (fun C e => by cases e)
  obtain ⟨cC, aC1, aC2⟩ := z_arr (ty := FieldType.char) (hz _ (zwm 90 (by decide +kernel))) (fun C e => by cases e)
  obtain ⟨cZ, aZ1, aZ2⟩ := z_arr (ty := FieldType.boolean) (hz _ (zwm 92 (by decide +kernel))) (fun C e => by cases e)
  obtain ⟨cJ, aJ1, aJ2⟩ := z_arr (ty := FieldType.long) (hz _ (zwm 1122 (by decide +kernel))) (fun C e => by cases e)
  obtain ⟨cD, aD1, aD2⟩ := z_arr (ty := FieldType.double) (hz _ (zwm 1377 (by decide +kernel))) (fun C e => by cases e)
  have hover : (Cond.arrayOver (.object RX1)).before #[Value.ref b] s = true := (hts _ (List.mem_of_getElem? (i := 124) (by decide +kernel)))
  obtain ⟨comp, cO, kO, o1, -, o2, o3, o4⟩ := Cond.arrayOver_spec hover
  obtain ⟨t, ht, hT⟩ := va_Tof (tm := .static "LintPress" "FIRST_WEIGHTS" "[I") (ty := .int) (N := 5) (f := fun j => .int (Int32.ofInt (zfw.getD j 0))) (A := fun q => s.heap.size ≤ q) (by decide) (hs _ (by decide +kernel)) (va_eqt (hs _ (by decide +kernel)))
    (fun j hj => by
      match j, hj with
      | 0, _ => exact va_eqt (hs _ (by decide +kernel))
      | 1, _ => exact va_eqt (hs _ (by decide +kernel))
      | 2, _ => exact va_eqt (hs _ (by decide +kernel))
      | 3, _ => exact va_eqt (hs _ (by decide +kernel))
      | 4, _ => exact va_eqt (hs _ (by decide +kernel))
      | k + 5, h => exact absurd h (by omega)) hA
  refine ⟨(fun k => (f k).1, fun k => (f k).2), fun k => if k = 1 then cI else if k = 2 then cC else if k = 3 then cZ else if k = 4 then cJ else if k = 5 then cD else cO, fun z => if z = -2 then t else b, rfl, ⟨fun k q hq => hf k q hq, fun k q hk => ?_⟩, fun w hw => ?_, fun q hq => ?_, fun q hq => ?_, ?_, ?_, va_AO.of hover, ?_, fun z r hr => ?_⟩
  · match k, hk with
    | 0, hk => cases hk; exact ⟨aI1, aI2⟩
    | 1, hk => cases hk; exact ⟨aC1, aC2⟩
    | 2, hk => cases hk; exact ⟨aZ1, aZ2⟩
    | 3, hk => cases hk; exact ⟨aJ1, aJ2⟩
    | 4, hk => cases hk; exact ⟨aD1, aD2⟩
    | 5, hk => cases hk; exact ⟨fun n z => ⟨fun k h => (by cases h), kO, o2, comp, o3⟩, kO, comp, o2, o3, o1, o4⟩
    | k + 6, hk => simp [ztys] at hk
  · have h := List.all_eq_true.mp znw_all w hw
    simp only [Bool.and_eq_true, decide_eq_true_eq] at h
    exact ⟨h.1, va_Nw.of (zwarm_tab h.1) (hts _ h.2)⟩
  · have h1 := List.all_eq_true.mp ztx_all q hq
    have h2 := List.all_eq_true.mp ztx_ex q hq
    simp only [decide_eq_true_eq] at h1 h2
    obtain ⟨a, c, cA, kA, q1, q2⟩ := Cond.exactly_spec (args := #[Value.ref b]) (first := s) (o := none) (s := s) (idx := []) (hs _ h2)
    exact ⟨a, vk_R.of (hts _ h1) q1⟩
  · have h1 := List.all_eq_true.mp znc_all q hq
    simp only [decide_eq_true_eq] at h1
    exact va_Nc.of (hs _ h1)
  · exact vx_Zqof (hts _ (List.mem_of_getElem? (i := 482) (by decide +kernel))) (hts _ (List.mem_of_getElem? (i := 48) (by decide +kernel))) (hs _ (by decide +kernel)) hA
  · exact vx_Zqof (hts _ (List.mem_of_getElem? (i := 484) (by decide +kernel))) (hts _ (List.mem_of_getElem? (i := 48) (by decide +kernel))) (hs _ (by decide +kernel)) hA
  · exact va_Zof (hts _ (List.mem_of_getElem? (i := 100) (by decide +kernel))) (hts _ (List.mem_of_getElem? (i := 39) (by decide +kernel))) ht hA
  · unfold zroF at hr
    split at hr
    · rename_i hz2
      cases hr
      obtain ⟨scr, x1, x2, x3, x4, x5, x6, x7⟩ := hT
      have ht9 : t < s.heap.size := (Array.getElem?_eq_some_iff.mp x1).1
      refine ⟨Or.inl hz2, ?_, ?_, ?_, zfw_ok, by decide⟩
      · show zX (if z = -2 then t else b) _ _ _ _
        rw [if_pos hz2]
        exact ⟨scr, x1, x2, x3, x4, x5, x6⟩
      · show (if z = -2 then t else b) < _
        rw [if_pos hz2]; exact ht9
      · show ¬ _ ≤ (if z = -2 then t else b)
        rw [if_pos hz2]; omega
    · rename_i hz2
      split at hr
      · rename_i hz3
        cases hr
        obtain ⟨scr, x1, x2, x3, x4, x5⟩ := hX
        refine ⟨Or.inr hz3, ?_, ?_, ?_, fun j => zi32_toInt _, by show L < _; omega⟩
        · show zX (if z = -2 then t else b) _ _ _ _
          rw [if_neg hz2]
          refine ⟨scr, x1, x2, x3, by show L ≤ _; omega, by rw [x4], fun j hj => ?_⟩
          show scr.slots[j]? = some (.int (Int32.ofInt (xs j).toInt))
          rw [Int32.ofInt_toInt]
          exact x5 j hj
        · show (if z = -2 then t else b) < _
          rw [if_neg hz2]; exact hbl
        · show ¬ _ ≤ (if z = -2 then t else b)
          rw [if_neg hz2]; omega
      · cases hr
end
end
section
/-! THE CLAIM OUT OF ONE WALK OF THE LAW'S BODY. Your part is whole_start (and what it stands on); all else here is the same for every law, but numbers. -/
def R_law : String := "LintPressLaw"
def lw_P (b : Addr) (xs : List Int32) (args : Array Value) (s : State) : Prop := args = #[.ref b] ∧ s.IntsAt b xs ∧ xs.length ≤ 2048 ∧ (Jvm.Cond.and given_1 narrow_1).before args s = true
/-- what a walk over the start with the record d0 says of its end, said of the start itself -/
theorem lw_closed {s t : State} {o : Outcome} {d0 : Drawn} {L : List Loc} {k n : Nat} (hd0 : s.drawn.sameBut d0 lw_cs) (hv : ∃ v, o = .returned v) (hW : (s.setDrawn d0).WarmedH t.vm) (hs : (s.setDrawn d0).sameButNew ({ t with vm := s.vm } : State) L k n) : State.butDraws s t lw_cs (fun t1 => Framed s o t1 L k n) := by
  have h2 : t.drawn = d0 := congrArg State.drawn hs.1
  refine ⟨⟨hv, hW, State.sameButNew.setDrawn hs s.drawn⟩, ?_, by decide⟩
  rw [h2]
  exact hd0
def lw_Q (_ : Array Value) (s : State) (o : Outcome) (t : State) : Prop := o = .returned (some (.int 1)) ∧ State.butDraws s t lw_cs (fun t1 => Framed s o t1 [] 603072 7215210)
def lw_Z (below : List Frame) (a : Array Value) (s : State) : State → Prop := fun t => ∃ o, t.status = .running ∧ Ended t below o ∧ lw_Q a s o t
/-- the law's own end, with 1 on the stack, nothing written that was there before, its room as the claim has it; d0: the record of draws at this point (at the entry s.drawn: begin with 'refine W.base ?_' and 'have hd0 := Drawn.sameBut.refl s.drawn lw_cs') -/
theorem lw_ret {p : Program} {l : Launch} {e : Env} {s : State} {m : MethodId} {below : List Frame} {meth : Method} {c : Code} {b : Nat} {d0 : Drawn} (hd0 : s.drawn.sameBut d0 lw_cs) (hx : p.tables.exec = Jvm.exec) (hb : c.code = code) (hr : meth.sig.returnType = ret) (hlocks : meth.locks = false) {pc : Nat} {H : Heap} {ls : Array Slot} (hdg : decode code pc = .ok (.ireturn, 1)) : W p l e room_1 (s.setDrawn d0) m #[Value.ref b] below meth c H [] 603072 7215210 (lw_Z below #[Value.ref b] s) (F0 m pc ls [.int 1]) := by
  intro T hT X
  obtain ⟨fs, hret, hrun, hended, hW, hframe⟩ := X.leave (v := some (.int 1)) (hlocks := hlocks) (fun h => by rw [hr] at h; cases h)
  have hmeth' : T.vm.method? m = some meth := X.method'
  refine ⟨T.setFrames fs, ?_, .returned (some (.int 1)), hrun, hended, rfl, lw_closed hd0 ⟨_, rfl⟩ hW hframe⟩
  jvm_step X.here [X.here.top, hx, hb, hdg, hmeth', hr, ret, narrow_b1]
  (try refine ⟨rfl, ?_⟩); (try refine ⟨rfl, ?_⟩)
  first | (intro acts; rw [hret _ acts rfl rfl rfl]) | rw [hret _ _ rfl rfl rfl]
  exact Steps.refl _
/-- what holds at the law's entry: the machine, the code, the tables' words (any of lw_tbl by 'hts w (by decide +kernel)'), the script of L ints xs at the cell b, what the Statement gives of the start (any of its parts by flat_of_before) -/
def lw_At (p : Program) (s : State) (m : MethodId) (meth : Method) (c : Code) (b L : Nat) (xs : Nat → Int32) : Prop :=
  p.tables.exec = Jvm.exec ∧ c.code = code ∧ meth.sig.returnType = ret ∧ c.maxLocals = 9 ∧ s.vm.findClass R_law = some m.cls ∧ (∀ w ∈ lw_tbl, w.before #[Value.ref b] s = true) ∧ va_X b L xs s s.heap ∧ b < s.heap.size ∧ meth.locks = false ∧ (Jvm.Cond.and given_1 narrow_1).before #[Value.ref b] s = true ∧ c.exceptionTable.toList = [] ∧ meth.name = x.name
-- ===== YOUR PART BEGINS =====
theorem zforget {s t : State} {L : List Loc} {k n k' n' : Nat} (h : s.sameButNew t L k n) (hL : ∀ q ∈ L, s.heap.size ≤ q.base) (h1 : k ≤ k') (h2 : n ≤ n') : s.sameButNew t [] k' n' := by
  have h := h.mono h1 h2
  obtain ⟨a1, a2, a3, a4, a5, a6⟩ := h
  refine ⟨a1, a2, a3, a4, a5, fun q cc hq => ?_⟩
  obtain ⟨c9, e1, e2, e3, e4⟩ := a6 q cc hq
  exact ⟨c9, e1, e2, e3, fun i _ => e4 i (fun hm => absurd (hL _ hm) (Nat.not_le.mpr (Array.getElem?_eq_some_iff.mp hq).1))⟩
/-- the law, run by the small machine, answers 1 (proved behind) -/
def zgoal (L : Nat) (xs : Nat → Int32) : Prop := ∃ (n : Nat) (S' : zS), zrun (zroF L xs) n 100 mL_law 0 (zargs 9 [(1, -3)]) [] zS0 = some (.inl (some (0, 1)), S') ∧ S'.2.2.1 ≤ 603072 ∧ S'.2.2.2 ≤ 7215210
theorem whole_of {p : Program} {e : Env} {s : State} {m : MethodId} {below : List Frame} {meth : Method} {c : Code} (l : Launch) (hflags : l.flags = flags0) {b L : Nat} {xs : Nat → Int32} (hL : L ≤ 2048) (C0 : lw_At p s m meth c b L xs) (G : zgoal L xs) : W p l e room_1 s m #[Value.ref b] below meth c s.heap [] 0 0 (lw_Z below #[Value.ref b] s) (entryFrame m ([Value.ref b] : List Value).toArray 9) := by
  obtain ⟨hx, hb, hr, hml, hown, hts, hX, hbl, hlocks, hgv, htab, hnm⟩ := C0
  obtain ⟨n, S', hrun, k1, k2⟩ := G
  obtain ⟨D, cA, ad, hab, hSF⟩ := z_sf hts hgv hX hbl hL
  have hz : ∀ w ∈ zWS, w.before #[Value.ref b] s = true := fun w hw => hts w (List.mem_filter.mp hw).1
  have hl : l.stackTraces = false := by unfold Launch.stackTraces; rw [hflags]; decide +kernel
  have C : zctx (fun q => s.heap.size ≤ q) 100 mL_law p l room_1 s m #[Value.ref b] meth c := ⟨hx, hb, hml, hown, hz, htab, hlocks, hr, hnm, hl, fun q h => h, by decide, by decide⟩
  rw [lg_entry_eq]
  have e0 : ([Value.ref b] : List Value) = [(1, (-3 : Int))].map (zval ad) := by
    show [Value.ref b] = [va_rf (zrf ad (-3))]
    unfold zrf
    rw [if_neg (by decide), hab]
    rfl
  have hl9 := zentry (ad := ad) (as := [(1, (-3 : Int))]) (n := 9) rfl (by decide)
  rw [← e0] at hl9
  have hok : zoks zS0.1.length [(1, (-3 : Int))] := fun v hv => by rw [List.mem_singleton.mp hv]; exact Or.inr (Or.inr (Or.inl rfl))
  have K := zsim (ro := zroF L xs) zTab_ok n 100 mL_law kL_law 0 _ [] zS0 _ hrun (zargs_len (by decide)) (zargs_ok hok) (fun v hv => by cases hv) (fun k e h => by cases h) p l e room_1 s m #[Value.ref b] below meth c (fun q => s.heap.size ≤ q) C D cA ad hSF s.heap [] 0 0 _ hl9
    ⟨fun k q h => (by cases h), ⟨fun i j p q h => (by cases h), fun k q h => (by cases h)⟩, fun k e h => (by cases h)⟩ va_S.rf (0 + (S'.2.2.1 - zS0.2.2.1)) (0 + (S'.2.2.2 - zS0.2.2.2)) rfl rfl (by show 0 + (S'.2.2.1 - 0) ≤ 603072; omega) (by show 0 + (S'.2.2.2 - 0) ≤ 7215210; omega)
    (fun _ _ o _ => o = .returned (some (.int 1))) (fun _ _ _ => False) (fun v hv _ ad' t _ _ _ => by cases hv; rfl) (fun E hE => by cases hE)
  intro T hT X
  obtain ⟨t, a1, o, q1, q2, q3⟩ := K T hT X
  refine ⟨t, a1, o, q1, q2, ?_⟩
  rcases q3 with ⟨rfl, Ls, ⟨f1, f2, f3⟩, hLs⟩ | ⟨q, -, E, ce, L9, hx9, -⟩
  · refine ⟨rfl, lw_closed (d0 := s.drawn) (Drawn.sameBut.refl s.drawn lw_cs) ⟨_, rfl⟩ f2 (zforget f3 hLs ?_ ?_)⟩
    · show 0 + (S'.2.2.1 - 0) ≤ 603072
      omega
    · show 0 + (S'.2.2.2 - 0) ≤ 7215210
      omega
  · exact hx9.elim
end
section
/-! RULES OVER THE SMALL MACHINE. zLY: what the two constructors lay; zptr: where a place in it points (0: it points nowhere). -/
def zLY : List zLE := [(0, 7, 9), (0, 6, 5), (2, 0, 30), (1, 0, 30), (1, 0, 30), (3, 0, 30), (0, 5, 3), (1, 0, 5), (1, 0, 5), (0, 2, 3), (6, 0, 10), (0, 1, 2), (0, 6, 5), (2, 0, 30), (1, 0, 30), (1, 0, 30), (3, 0, 30), (1, 0, 5), (0, 1, 2), (0, 6, 5), (2, 0, 30), (1, 0, 30), (1, 0, 30), (3, 0, 30), (1, 0, 5), (0, 1, 2), (0, 6, 5), (2, 0, 30), (1, 0, 30), (1, 0, 30), (3, 0, 30), (1, 0, 5), (0, 1, 2), (0, 6, 5), (2, 0, 30), (1, 0, 30), (1, 0, 30), (3, 0, 30), (1, 0, 5), (0, 1, 2), (0, 6, 5), (2, 0, 30), (1, 0, 30), (1, 0, 30), (3, 0, 30), (1, 0, 5), (0, 1, 2), (0, 6, 5), (2, 0, 30), (1, 0, 30), (1, 0, 30), (3, 0, 30), (1, 0, 5), (0, 1, 2), (0, 6, 5), (2, 0, 30), (1, 0, 30), (1, 0, 30), (3, 0, 30), (1, 0, 5), (0, 1, 2), (0, 6, 5), (2, 0, 30), (1, 0, 30), (1, 0, 30), (3, 0, 30), (1, 0, 5), (0, 1, 2), (0, 6, 5), (2, 0, 30), (1, 0, 30), (1, 0, 30), (3, 0, 30), (1, 0, 5), (0, 1, 2), (0, 6, 5), (2, 0, 30), (1, 0, 30), (1, 0, 30), (3, 0, 30), (1, 0, 5), (0, 3, 5), (1, 0, 30), (1, 0, 30), (1, 0, 30), (1, 0, 30), (0, 0, 2), (1, 0, 31), (3, 0, 30), (0, 4, 4), (1, 0, 31), (1, 0, 31), (1, 0, 31), (0, 4, 4), (1, 0, 31), (1, 0, 31), (1, 0, 31), (0, 8, 26), (2, 0, 30), (1, 0, 30), (1, 0, 30), (3, 0, 30), (1, 0, 5), (4, 0, 5), (1, 0, 30), (1, 0, 10), (2, 0, 300), (1, 0, 300), (1, 0, 300), (3, 0, 300), (1, 0, 50), (1, 0, 60), (1, 0, 60), (1, 0, 60), (3, 0, 60), (1, 0, 34), (1, 0, 31), (4, 0, 1), (5, 0, 1)]
def zptrL : List (List Nat) := [[1, 6, 9, 81, 86, 89, 93, 0, 0], [2, 3, 4, 5, 0], [], [], [], [], [7, 8, 0], [], [], [10, 0, 0], [11, 18, 25, 32, 39, 46, 53, 60, 67, 74], [12, 17], [13, 14, 15, 16, 0], [], [], [], [], [], [19, 24], [20, 21, 22, 23, 0], [], [], [], [], [], [26, 31], [27, 28, 29, 30, 0], [], [], [], [], [], [33, 38], [34, 35, 36, 37, 0], [], [], [], [], [], [40, 45], [41, 42, 43, 44, 0], [], [], [], [], [], [47, 52], [48, 49, 50, 51, 0], [], [], [], [], [], [54, 59], [55, 56, 57, 58, 0], [], [], [], [], [], [61, 66], [62, 63, 64, 65, 0], [], [], [], [], [], [68, 73], [69, 70, 71, 72, 0], [], [], [], [], [], [75, 80], [76, 77, 78, 79, 0], [], [], [], [], [], [82, 83, 84, 85, 0], [], [], [], [], [87, 88], [], [], [90, 91, 92, 0], [], [], [], [94, 95, 96, 0], [], [], [], [0, 0, 98, 99, 100, 101, 0, 102, 103, 0, 0, 104, 0, 105, 106, 107, 108, 109, 110, 0, 111, 112, 113, 114, 115, 116], [], [], [], [], [], [], [], [], [], [], [], [], [], [], [], [], [], [], [], [], []]
def zptr (a j : Nat) : Nat := (zptrL.getD a []).getD j 0
def PT (w : zW) : Prop := ∀ a j, zptr a j ≠ 0 → w a j = (zptr a j : Int)
theorem PT.at {w : zW} (h : PT w) {a j b : Nat} (hb : zptr a j = b) (h0 : b ≠ 0) : w a j = (b : Int) := by
  subst hb; exact h a j h0
theorem PT.up {w : zW} (h : PT w) {a j : Nat} {v : Int} (hb : zptr a j = 0) : PT (zup w a j v) := by
  intro i k hk
  show (if i = a ∧ k = j then v else w i k) = _
  rw [if_neg (by rintro ⟨rfl, rfl⟩; exact hk hb)]
  exact h i k hk
theorem zr_le {ro : zRo} : ∀ (n n' d d' : Nat) (M : zM) (pc : Nat) (ls st : List zV) (S : zS) (r : zR), n ≤ n' → d ≤ d' → zrun ro n d M pc ls st S = some r → zrun ro n' d' M pc ls st S = some r
  | 0, _, _, _, _, _, _, _, _, _, _, _, h => by unfold zrun at h; cases h
  | n + 1, 0, _, _, _, _, _, _, _, _, hn, _, _ => by omega
  | n + 1, n' + 1, d, d', M, pc, ls, st, S, r, hn, hd, h => by
    have ih := fun d d' (hd : d ≤ d') M pc ls st S r => zr_le (ro := ro) n n' d d' M pc ls st S r (by omega) hd
    unfold zrun at h ⊢
    cases h0 : zget (zMt M) pc with
    | none => simp only [h0] at h; cases h
    | some q =>
    simp only [h0] at h ⊢
    cases h1 : zpush (zcon (zMk M)) q.1 q.2 ls with
    | some v => simp only [h1] at h ⊢; exact ih _ _ hd _ _ _ _ _ _ h
    | none =>
    simp only [h1] at h ⊢
    cases h2 : zstore q.1 q.2 ls st with
    | some v => simp only [h2] at h ⊢; exact ih _ _ hd _ _ _ _ _ _ h
    | none =>
    simp only [h2] at h ⊢
    cases h3 : zarith (zmth (zMk M)) q.1 q.2 st with
    | some v => simp only [h3] at h ⊢; exact ih _ _ hd _ _ _ _ _ _ h
    | none =>
    simp only [h3] at h ⊢
    cases h4 : zjump q.1 q.2 pc st with
    | some v => simp only [h4] at h ⊢; exact ih _ _ hd _ _ _ _ _ _ h
    | none =>
    simp only [h4] at h ⊢
    cases h5 : zend (zMr M) q.1 q.2 st with
    | some v => simp only [h5] at h ⊢; exact h
    | none =>
    simp only [h5] at h ⊢
    cases h6 : zthr (zexn (zMk M)) (zMt M) pc q.1 q.2 with
    | some v => simp only [h6] at h ⊢; exact h
    | none =>
    simp only [h6] at h ⊢
    cases h7 : zheap (zfld (zMk M)) (zcls (zMk M)) zfty (zref (zMk M)) (zstc (zMk M)) (M.1.name == "<init>") ro q.1 q.2 st S with
    | some v => simp only [h7] at h ⊢; exact ih _ _ hd _ _ _ _ _ _ h
    | none =>
    simp only [h7] at h ⊢
    match d, d', hd, h with
    | 0, _, _, h => cases h
    | d + 1, 0, hd, _ => omega
    | d + 1, d' + 1, hd, h =>
    cases h8 : zinv (zMk M) q.1 q.2 with
    | none => simp only [h8] at h; cases h
    | some v =>
    simp only [h8] at h ⊢
    cases hc : (decide (v.2.1 ≤ st.length) && (st.take v.2.1).all zplain && decide (v.2.1 ≤ zMl v.2.2) && (st.drop v.2.1).all zplain && decide ((st.drop v.2.1).length ≤ 8) && zrecv S v.1 (zMk v.2.2) (st.take v.2.1).reverse) with
    | false => rw [hc] at h; cases h
    | true =>
    rw [hc] at h
    simp only [cond_true] at h ⊢
    cases h9 : zrun ro n d v.2.2 0 (zargs (zMl v.2.2) (st.take v.2.1).reverse) [] S with
    | none => simp only [h9] at h; cases h
    | some r9 =>
    have h9' := ih d d' (by omega) _ _ _ _ _ _ h9
    simp only [h9] at h
    simp only [h9']
    obtain ⟨o, S1⟩ := r9
    match o, h with
    | .inl (some v9), h => exact ih _ _ hd _ _ _ _ _ _ h
    | .inl none, h => exact ih _ _ hd _ _ _ _ _ _ h
    | .inr E, h =>
      simp only at h ⊢
      by_cases hk : v.1 = 0 ∨ v.1 = 1
      · rw [if_pos hk] at h ⊢
        cases hh : zhand (zexn (zMk M)) zCA zNC pc E (zMh M) with
        | some h10 =>
          simp only [hh] at h ⊢
          cases hh2 : zcatch (zMt M) h10 ls with
          | some r2 => simp only [hh2] at h ⊢; exact ih _ _ hd _ _ _ _ _ _ h
          | none => simp only [hh2] at h; cases h
        | none => simp only [hh] at h ⊢; exact h
      · rw [if_neg hk] at h; cases h
/-- from here the run ends: result, world and the number of exceptions made are as Q says -/
def Z (ro : zRo) (d : Nat) (M : zM) (pc : Nat) (ls st : List zV) (w : zW) (Q : (Option zV ⊕ String) → zW → Nat → Prop) : Prop := PT w → ∀ c s : Nat, ∃ (n : Nat) (r : Option zV ⊕ String) (w' : zW) (k : Nat), zrun ro n d M pc ls st (zLY, w, c, s) = some (r, (zLY, w', c + k, s + 6 * k)) ∧ PT w' ∧ Q r w' k
section
variable {ro : zRo} {d : Nat} {M : zM} {pc : Nat} {ls st : List zV} {w : zW} {Q : (Option zV ⊕ String) → zW → Nat → Prop}
theorem Z_pt (K : PT w → Z ro d M pc ls st w Q) : Z ro d M pc ls st w Q := fun h => K h h
theorem Z_mono {Q' : (Option zV ⊕ String) → zW → Nat → Prop} (K : Z ro d M pc ls st w Q') (h : ∀ r w' k, Q' r w' k → Q r w' k) : Z ro d M pc ls st w Q := by
  intro hp c s
  obtain ⟨n, r, w', k, a, b, e⟩ := K hp c s
  exact ⟨n, r, w', k, a, b, h _ _ _ e⟩
theorem Z_deep {d' : Nat} (hd : d' ≤ d) (K : Z ro d' M pc ls st w Q) : Z ro d M pc ls st w Q := by
  intro hp c s
  obtain ⟨n, r, w', k, a, b, e⟩ := K hp c s
  exact ⟨n, r, w', k, zr_le _ _ _ _ _ _ _ _ _ _ (Nat.le_refl n) hd a, b, e⟩
theorem Z_one {pc' : Nat} {ls' st' : List zV} {w' : zW} (K : Z ro d M pc' ls' st' w' Q) (hp : PT w → PT w') (h : ∀ n c s, zrun ro (n + 1) d M pc ls st (zLY, w, c, s) = zrun ro n d M pc' ls' st' (zLY, w', c, s)) : Z ro d M pc ls st w Q := by
  intro hw c s
  obtain ⟨n, r, w2, k, a, b, e⟩ := K (hp hw) c s
  exact ⟨n + 1, r, w2, k, by rw [h]; exact a, b, e⟩
theorem Z_push {i : Instr} {len : Nat} {v : zV} (g : zget (zMt M) pc = some (i, len)) (h : zpush (zcon (zMk M)) i len ls = some v) (K : Z ro d M (pc + len) ls (v :: st) w Q) : Z ro d M pc ls st w Q :=
  Z_one K id (fun n c s => by rw [zrun]; simp only [g, h])
theorem Z_store {i : Instr} {len : Nat} {v : List zV × List zV} (g : zget (zMt M) pc = some (i, len)) (h1 : zpush (zcon (zMk M)) i len ls = none) (h : zstore i len ls st = some v) (K : Z ro d M (pc + len) v.1 v.2 w Q) : Z ro d M pc ls st w Q :=
  Z_one K id (fun n c s => by rw [zrun]; simp only [g, h1, h])
theorem Z_arith {i : Instr} {len : Nat} {v : List zV} (g : zget (zMt M) pc = some (i, len)) (h1 : zpush (zcon (zMk M)) i len ls = none) (h2 : zstore i len ls st = none) (h : zarith (zmth (zMk M)) i len st = some v) (K : Z ro d M (pc + len) ls v w Q) : Z ro d M pc ls st w Q :=
  Z_one K id (fun n c s => by rw [zrun]; simp only [g, h1, h2, h])
theorem Z_jump {i : Instr} {len : Nat} {v : Nat × List zV} (g : zget (zMt M) pc = some (i, len)) (h1 : zpush (zcon (zMk M)) i len ls = none) (h2 : zstore i len ls st = none) (h3 : zarith (zmth (zMk M)) i len st = none) (h : zjump i len pc st = some v) (K : Z ro d M v.1 ls v.2 w Q) : Z ro d M pc ls st w Q :=
  Z_one K id (fun n c s => by rw [zrun]; simp only [g, h1, h2, h3, h])
theorem Z_heap {i : Instr} {len : Nat} {st' : List zV} {w' : zW} (g : zget (zMt M) pc = some (i, len)) (h1 : zpush (zcon (zMk M)) i len ls = none) (h2 : zstore i len ls st = none) (h3 : zarith (zmth (zMk M)) i len st = none) (h4 : zjump i len pc st = none) (h5 : zend (zMr M) i len st = none) (h6 : zthr (zexn (zMk M)) (zMt M) pc i len = none)
    (h : ∀ c s, zheap (zfld (zMk M)) (zcls (zMk M)) zfty (zref (zMk M)) (zstc (zMk M)) (M.1.name == "<init>") ro i len st (zLY, w, c, s) = some (st', (zLY, w', c, s))) (hp : PT w → PT w') (K : Z ro d M (pc + len) ls st' w' Q) : Z ro d M pc ls st w Q :=
  Z_one K hp (fun n c s => by rw [zrun]; simp only [g, h1, h2, h3, h4, h5, h6, h])
theorem Z_end {i : Instr} {len : Nat} {v : Option zV} (g : zget (zMt M) pc = some (i, len)) (h1 : zpush (zcon (zMk M)) i len ls = none) (h2 : zstore i len ls st = none) (h3 : zarith (zmth (zMk M)) i len st = none) (h4 : zjump i len pc st = none) (h : zend (zMr M) i len st = some v) (K : Q (.inl v) w 0) : Z ro d M pc ls st w Q :=
  fun hw c s => ⟨1, .inl v, w, 0, by rw [zrun]; simp only [g, h1, h2, h3, h4, h]; rfl, hw, K⟩
theorem Z_thr {i : Instr} {len : Nat} {v : String × Nat × Nat × Nat × Bool} (g : zget (zMt M) pc = some (i, len)) (h1 : zpush (zcon (zMk M)) i len ls = none) (h2 : zstore i len ls st = none) (h3 : zarith (zmth (zMk M)) i len st = none) (h4 : zjump i len pc st = none) (h5 : zend (zMr M) i len st = none) (h6 : zthr (zexn (zMk M)) (zMt M) pc i len = some v) (h : (zstr (zMk M) v.2.2.1).isSome = true ∧ zxic (zMk M) v.2.2.2.1 = some v.1 ∧ (zMh M).isEmpty = true ∧ st.length ≤ 50) (K : Q (.inr v.1) w 1) : Z ro d M pc ls st w Q :=
  fun hw c s => ⟨1, .inr v.1, w, 1, by rw [zrun]; simp only [g, h1, h2, h3, h4, h5, h6]; rw [if_pos h], hw, K⟩
end
end
section
/-! rules for calls, branches, cells -/
theorem zLY_data {a : Nat} {e : zLE} (h : zLY[a]? = some e) (h0 : e.1 ≠ 0) (h6 : e.1 ≠ 6) (j : Nat) : zptr a j = 0 := by
  have hk : (List.range 119).all (fun i => (match zLY[i]? with | some e => e.1 == 0 || e.1 == 6 | none => true) || (zptrL.getD i []).isEmpty) = true := by decide +kernel
  have ha : a < 119 := (List.getElem?_eq_some_iff.mp h).1
  have := List.all_eq_true.mp hk a (List.mem_range.mpr ha)
  rw [h] at this
  simp only [Bool.or_eq_true, beq_iff_eq, List.isEmpty_iff] at this
  unfold zptr
  rcases this with (h1 | h1) | h1
  · exact absurd h1 h0
  · exact absurd h1 h6
  · rw [h1]; rfl
def zpu (o : Option zV) (st : List zV) : List zV := match o with | some v => v :: st | none => st
/-- a method that ends without a throw -/
def Ev (ro : zRo) (d : Nat) (M : zM) (as : List zV) (w : zW) (P : Option zV → zW → Prop) : Prop := Z ro d M 0 (zargs (zMl M) as) [] w (fun r w' k => k = 0 ∧ ∃ o, r = .inl o ∧ P o w')
section
variable {ro : zRo} {d : Nat} {M : zM} {pc : Nat} {ls st : List zV} {w : zW} {Q : (Option zV ⊕ String) → zW → Nat → Prop}
theorem Ev_deep {d' : Nat} {as : List zV} {P : Option zV → zW → Prop} (hd : d' ≤ d) (K : Ev ro d' M as w P) : Ev ro d M as w P := Z_deep hd K
theorem Ev_mono {as : List zV} {P P' : Option zV → zW → Prop} (K : Ev ro d M as w P') (h : ∀ o w', P' o w' → P o w') : Ev ro d M as w P :=
  Z_mono K (fun r w' k ⟨h0, o, h1, h2⟩ => ⟨h0, o, h1, h o w' h2⟩)
theorem Z_call {i : Instr} {kd na : Nat} {M' : zM} {d' : Nat} {Q' : (Option zV ⊕ String) → zW → Nat → Prop} (g : zget (zMt M) pc = some (i, 3)) (h1 : zpush (zcon (zMk M)) i 3 ls = none) (h2 : zstore i 3 ls st = none) (h3 : zarith (zmth (zMk M)) i 3 st = none) (h4 : zjump i 3 pc st = none) (h5 : zend (zMr M) i 3 st = none) (h6 : zthr (zexn (zMk M)) (zMt M) pc i 3 = none)
    (h7 : ∀ S, zheap (zfld (zMk M)) (zcls (zMk M)) zfty (zref (zMk M)) (zstc (zMk M)) (M.1.name == "<init>") ro i 3 st S = none)
    (hi : zinv (zMk M) i 3 = some (kd, na, M')) (hb : (decide (na ≤ st.length) && (st.take na).all zplain && decide (na ≤ zMl M') && (st.drop na).all zplain && decide ((st.drop na).length ≤ 8)) = true)
    (hr : ∀ c s, zrecv (zLY, w, c, s) kd (zMk M') (st.take na).reverse = true) (hd : d' + 1 ≤ d)
    (C : Z ro d' M' 0 (zargs (zMl M') (st.take na).reverse) [] w Q')
    (Kv : ∀ o w' k, Q' (.inl o) w' k → Z ro d M (pc + 3) ls (zpu o (st.drop na)) w' (fun r w2 k2 => Q r w2 (k2 + k)))
    (Ke : ∀ E w' k, Q' (.inr E) w' k → (kd = 0 ∨ kd = 1) ∧ ((zMh M).isEmpty = true ∧ Q (.inr E) w' k ∨ ∃ (h : Nat) (r2 : Nat × List zV), zhand (zexn (zMk M)) zCA zNC pc E (zMh M) = some h ∧ zcatch (zMt M) h ls = some r2 ∧ Z ro d M r2.1 r2.2 [] w' (fun r w2 k2 => Q r w2 (k2 + k)))) : Z ro d M pc ls st w Q := by
  intro hw c s
  obtain ⟨d0, rfl⟩ : ∃ d0, d = d0 + 1 := ⟨d - 1, by omega⟩
  obtain ⟨n, r, w1, k, hrun, hw1, hQ⟩ := C hw c s
  have key : ∀ n1, n ≤ n1 → zrun ro n1 d0 M' 0 (zargs (zMl M') (st.take na).reverse) [] (zLY, w, c, s) = some (r, (zLY, w1, c + k, s + 6 * k)) := fun n1 hn => zr_le _ _ _ _ _ _ _ _ _ _ hn (by omega) hrun
  have hb' : (decide (na ≤ st.length) && (st.take na).all zplain && decide (na ≤ zMl M') && (st.drop na).all zplain && decide ((st.drop na).length ≤ 8) && zrecv (zLY, w, c, s) kd (zMk M') (st.take na).reverse) = true := by rw [hb, hr]; rfl
  match r, hQ with
  | .inl o, hQ =>
    obtain ⟨n2, r2, w2, k2, hrun2, hw2, hQ2⟩ := Kv o w1 k hQ hw1 (c + k) (s + 6 * k)
    refine ⟨n + n2 + 1, r2, w2, k2 + k, ?_, hw2, hQ2⟩
    rw [zrun]
    simp only [g, h1, h2, h3, h4, h5, h6, h7, hi, hb', cond_true]
    rw [key _ (by omega)]
    have e2 := zr_le _ (n + n2) _ _ _ _ _ _ _ _ (by omega) (Nat.le_refl _) hrun2
    rw [show c + (k2 + k) = c + k + k2 by omega, show s + 6 * (k2 + k) = s + 6 * k + 6 * k2 by omega]
    cases o with
    | some v => exact e2
    | none => exact e2
  | .inr E, hQ =>
    obtain ⟨hk, hE⟩ := Ke E w1 k hQ
    rcases hE with ⟨he, hq⟩ | ⟨h, r2, e1, e3, K2⟩
    · refine ⟨n + 1, .inr E, w1, k, ?_, hw1, hq⟩
      rw [zrun]
      simp only [g, h1, h2, h3, h4, h5, h6, h7, hi, hb', cond_true]
      rw [key _ (Nat.le_refl _)]
      simp only
      rw [if_pos hk]
      rw [List.isEmpty_iff.mp he]
      rfl
    · obtain ⟨n2, r3, w2, k2, hrun2, hw2, hQ2⟩ := K2 hw1 (c + k) (s + 6 * k)
      refine ⟨n + n2 + 1, r3, w2, k2 + k, ?_, hw2, hQ2⟩
      rw [zrun]
      simp only [g, h1, h2, h3, h4, h5, h6, h7, hi, hb', cond_true]
      rw [key _ (by omega)]
      have e2 := zr_le _ (n + n2) _ _ _ _ _ _ _ _ (by omega) (Nat.le_refl _) hrun2
      rw [show c + (k2 + k) = c + k + k2 by omega, show s + 6 * (k2 + k) = s + 6 * k + 6 * k2 by omega]
      simp only
      rw [if_pos hk]
      simp only [e1, e3]
      exact e2
/-- a call of a method that ends without a throw -/
theorem Z_callE {i : Instr} {kd na : Nat} {M' : zM} {d' : Nat} {P : Option zV → zW → Prop} (g : zget (zMt M) pc = some (i, 3)) (h1 : zpush (zcon (zMk M)) i 3 ls = none) (h2 : zstore i 3 ls st = none) (h3 : zarith (zmth (zMk M)) i 3 st = none) (h4 : zjump i 3 pc st = none) (h5 : zend (zMr M) i 3 st = none) (h6 : zthr (zexn (zMk M)) (zMt M) pc i 3 = none)
    (h7 : ∀ S, zheap (zfld (zMk M)) (zcls (zMk M)) zfty (zref (zMk M)) (zstc (zMk M)) (M.1.name == "<init>") ro i 3 st S = none)
    (hi : zinv (zMk M) i 3 = some (kd, na, M')) (hb : (decide (na ≤ st.length) && (st.take na).all zplain && decide (na ≤ zMl M') && (st.drop na).all zplain && decide ((st.drop na).length ≤ 8)) = true)
    (hr : ∀ c s, zrecv (zLY, w, c, s) kd (zMk M') (st.take na).reverse = true) (hd : d' + 1 ≤ d)
    (C : Ev ro d' M' (st.take na).reverse w P) (K : ∀ o w', P o w' → Z ro d M (pc + 3) ls (zpu o (st.drop na)) w' Q) : Z ro d M pc ls st w Q := by
  refine Z_call g h1 h2 h3 h4 h5 h6 h7 hi hb hr hd C (fun o w' k h => ?_) (fun E w' k h => ?_)
  · obtain ⟨rfl, o', e, h⟩ := h
    cases e
    exact K o w' h
  · obtain ⟨-, o', e, -⟩ := h
    cases e
theorem zrecv_obj {a c n : Nat} {as : List zV} {kd : Nat} (h : zLY[a]? = some (0, c, n)) (w : zW) (x y : Nat) : zrecv (zLY, w, x, y) kd c ((1, (a : Int)) :: as) = true := by
  unfold zrecv
  cases (kd == 0 || kd == 3 || kd == 4) with
  | false => rfl
  | true =>
    simp only [cond_true]
    have e : (zLY, w, x, y).1[((a : Int)).toNat]? = some (0, c, n) := h
    rw [e]
    simp
theorem Z_ic {c : ClassFile.Cond} {off a : Int} {tgt : Nat} (g : zget (zMt M) pc = some (.ifCond c off, 3)) (ht : (pc : Int) + off = (tgt : Nat)) (KT : zc0 c a = true → Z ro d M tgt ls st w Q) (KF : zc0 c a = false → Z ro d M (pc + 3) ls st w Q) : Z ro d M pc ls ((0, a) :: st) w Q := by
  cases h : zc0 c a with
  | true => exact Z_jump g rfl rfl rfl (v := (tgt, st)) (by show zoff pc off (zc0 c a) st = _; unfold zoff; rw [h, if_pos (by omega), ht]; rfl) (KT h)
  | false => exact Z_jump g rfl rfl rfl (v := (pc + 3, st)) (by show zoff pc off (zc0 c a) st = _; unfold zoff; rw [h, if_pos (by omega)]; rfl) (KF h)
theorem Z_ii {c : ClassFile.Cond} {off a b : Int} {tgt : Nat} (g : zget (zMt M) pc = some (.if_icmp c off, 3)) (ht : (pc : Int) + off = (tgt : Nat)) (KT : zc2 c a b = true → Z ro d M tgt ls st w Q) (KF : zc2 c a b = false → Z ro d M (pc + 3) ls st w Q) : Z ro d M pc ls ((0, b) :: (0, a) :: st) w Q := by
  cases h : zc2 c a b with
  | true => exact Z_jump g rfl rfl rfl (v := (tgt, st)) (by show zoff pc off (zc2 c a b) st = _; unfold zoff; rw [h, if_pos (by omega), ht]; rfl) (KT h)
  | false => exact Z_jump g rfl rfl rfl (v := (pc + 3, st)) (by show zoff pc off (zc2 c a b) st = _; unfold zoff; rw [h, if_pos (by omega)]; rfl) (KF h)
theorem Z_nul {off a : Int} {tgt : Nat} (g : zget (zMt M) pc = some (.ifnull off, 3)) (ht : (pc : Int) + off = (tgt : Nat)) (KT : a = -1 → Z ro d M tgt ls st w Q) (KF : a ≠ -1 → Z ro d M (pc + 3) ls st w Q) : Z ro d M pc ls ((1, a) :: st) w Q := by
  by_cases h : a = -1
  · exact Z_jump g rfl rfl rfl (v := (tgt, st)) (by show zoff pc off (decide (a = -1)) st = _; unfold zoff; rw [decide_eq_true h, if_pos (by omega), ht]; rfl) (KT h)
  · exact Z_jump g rfl rfl rfl (v := (pc + 3, st)) (by show zoff pc off (decide (a = -1)) st = _; unfold zoff; rw [decide_eq_false h, if_pos (by omega)]; rfl) (KF h)
theorem Z_goto {off : Int} {tgt : Nat} (g : zget (zMt M) pc = some (.goto off, 3)) (ht : (pc : Int) + off = (tgt : Nat)) (K : Z ro d M tgt ls st w Q) : Z ro d M pc ls st w Q :=
  Z_jump g rfl rfl rfl (v := (tgt, st)) (by show zoff pc off true st = _; unfold zoff; rw [if_pos (by omega), ht]; rfl) K
theorem zw32_id {z : Int} (h : zi32 z) : zw32 z = z := by
  obtain ⟨h1, h2⟩ := h
  unfold zw32
  rw [Int.bmod_def]
  split <;> omega
theorem Z_iadd {a b : Int} (g : zget (zMt M) pc = some (.iadd, 1)) (h : zi32 (a + b)) (K : Z ro d M (pc + 1) ls ((0, a + b) :: st) w Q) : Z ro d M pc ls ((0, b) :: (0, a) :: st) w Q :=
  Z_arith g rfl rfl (v := (0, a + b) :: st) (by show some ((0, zw32 (a + b)) :: st) = _; rw [zw32_id h]) K
theorem Z_isub {a b : Int} (g : zget (zMt M) pc = some (.isub, 1)) (h : zi32 (a - b)) (K : Z ro d M (pc + 1) ls ((0, a - b) :: st) w Q) : Z ro d M pc ls ((0, b) :: (0, a) :: st) w Q :=
  Z_arith g rfl rfl (v := (0, a - b) :: st) (by show some ((0, zw32 (a - b)) :: st) = _; rw [zw32_id h]) K
theorem Z_imul {a b : Int} (g : zget (zMt M) pc = some (.imul, 1)) (h : zi32 (a * b)) (K : Z ro d M (pc + 1) ls ((0, a * b) :: st) w Q) : Z ro d M pc ls ((0, b) :: (0, a) :: st) w Q :=
  Z_arith g rfl rfl (v := (0, a * b) :: st) (by show some ((0, zw32 (a * b)) :: st) = _; rw [zw32_id h]) K
theorem Z_idiv {a b : Int} (g : zget (zMt M) pc = some (.idiv, 1)) (h : 0 < b) (K : Z ro d M (pc + 1) ls ((0, a.tdiv b) :: st) w Q) : Z ro d M pc ls ((0, b) :: (0, a) :: st) w Q :=
  Z_arith g rfl rfl (v := (0, a.tdiv b) :: st) (by show (if 0 < b then _ else _) = _; rw [if_pos h]) K
theorem Z_iinc {k : Nat} {n : Int} {a : Int} {ls' : List zV} (g : zget (zMt M) pc = some (.iinc k n, 3)) (hl : ls[k]? = some (0, a)) (h : zi32 (a + n)) (he : zput ls k (0, a + n) = ls') (K : Z ro d M (pc + 3) ls' st w Q) : Z ro d M pc ls st w Q :=
  Z_store g rfl (v := (ls', st)) (by show (match ls[k]? with | some (0, v) => some (zput ls k (0, zw32 (v + n)), st) | _ => none) = _; rw [hl]; simp only; rw [zw32_id h, he]) K
theorem Z_get {k a f t n c : Nat} {bo fi : Bool} (g : zget (zMt M) pc = some (.getfield k, 3)) (hf : zfld (zMk M) k = some (c, f, t, bo, fi)) (hL : zLY[a]? = some (0, c, n)) (hn : f < n) (K : Z ro d M (pc + 3) ls ((t, w a f) :: st) w Q) : Z ro d M pc ls ((1, (a : Int)) :: st) w Q := by
  refine Z_heap g rfl rfl rfl rfl ?_ rfl (st' := (t, w a f) :: st) (fun x y => ?_) id K
  · unfold zend; split <;> simp_all
  · have e : zobj (zLY, w, x, y) (a : Int) c f = some a := by
      unfold zobj
      rw [if_pos (by omega), show (zLY, w, x, y).1[((a : Int)).toNat]? = some (0, c, n) from hL]
      simp [hn]
    simp [zheap, hf, e]
theorem Z_getR {k a f b n c : Nat} {bo fi : Bool} (g : zget (zMt M) pc = some (.getfield k, 3)) (hf : zfld (zMk M) k = some (c, f, 1, bo, fi)) (hL : zLY[a]? = some (0, c, n)) (hn : f < n) (hp : zptr a f = b) (h0 : b ≠ 0) (K : Z ro d M (pc + 3) ls ((1, (b : Int)) :: st) w Q) : Z ro d M pc ls ((1, (a : Int)) :: st) w Q :=
  Z_pt (fun hw => Z_get g hf hL hn (by rw [hw.at hp h0]; exact K))
theorem Z_put {k a f t n c : Nat} {bo : Bool} {v : Int} (g : zget (zMt M) pc = some (.putfield k, 3)) (hf : zfld (zMk M) k = some (c, f, t, bo, false)) (hL : zLY[a]? = some (0, c, n)) (hn : f < n) (hp : zptr a f = 0) (hv : bo = true → v = 0 ∨ v = 1) (K : Z ro d M (pc + 3) ls st (zup w a f v) Q) : Z ro d M pc ls ((t, v) :: (1, (a : Int)) :: st) w Q := by
  refine Z_heap g rfl rfl rfl rfl ?_ rfl (st' := st) (fun x y => ?_) (fun h => h.up hp) K
  · unfold zend; split <;> simp_all
  · have e : zobj (zLY, w, x, y) (a : Int) c f = some a := by
      unfold zobj
      rw [if_pos (by omega), show (zLY, w, x, y).1[((a : Int)).toNat]? = some (0, c, n) from hL]
      simp [hn]
    have e2 : (True ∧ (bo = true → v = 0 ∨ v = 1) ∧ (false = true → (M.1.name == "<init>") = true)) := ⟨trivial, hv, fun h => by cases h⟩
    simp only [zheap, hf]
    rw [if_pos e2, e]
    rfl
end
end
section
/-! rules for arrays -/
theorem zarr_ok {a k len c : Nat} {j : Int} (h : zLY[a]? = some (k, c, len)) (h0 : 0 ≤ j) (h1 : j < len) (w : zW) (x y : Nat) : zarr (zLY, w, x, y) k (a : Int) j = some (a, j.toNat) := by
  unfold zarr
  rw [if_pos ⟨by omega, h0⟩, show (zLY, w, x, y).1[((a : Int)).toNat]? = some (k, c, len) from h]
  simp [h1]
section
variable {ro : zRo} {d : Nat} {M : zM} {pc : Nat} {ls st : List zV} {w : zW} {Q : (Option zV ⊕ String) → zW → Nat → Prop}
theorem Z_iaload {a len c : Nat} {j : Int} (g : zget (zMt M) pc = some (.iaload, 1)) (hL : zLY[a]? = some (1, c, len)) (h0 : 0 ≤ j) (h1 : j < len) (K : Z ro d M (pc + 1) ls ((0, w a j.toNat) :: st) w Q) : Z ro d M pc ls ((0, j) :: (1, (a : Int)) :: st) w Q := by
  refine Z_heap g rfl rfl rfl rfl ?_ rfl (st' := (0, w a j.toNat) :: st) (fun x y => ?_) id K
  · unfold zend; split <;> simp_all
  · simp only [zheap, zarr_ok hL h0 h1]
theorem Z_caload {a len c : Nat} {j : Int} (g : zget (zMt M) pc = some (.caload, 1)) (hL : zLY[a]? = some (2, c, len)) (h0 : 0 ≤ j) (h1 : j < len) (K : Z ro d M (pc + 1) ls ((0, w a j.toNat) :: st) w Q) : Z ro d M pc ls ((0, j) :: (1, (a : Int)) :: st) w Q := by
  refine Z_heap g rfl rfl rfl rfl ?_ rfl (st' := (0, w a j.toNat) :: st) (fun x y => ?_) id K
  · unfold zend; split <;> simp_all
  · simp only [zheap, zarr_ok hL h0 h1]
theorem Z_baload {a len c : Nat} {j : Int} (g : zget (zMt M) pc = some (.baload, 1)) (hL : zLY[a]? = some (3, c, len)) (h0 : 0 ≤ j) (h1 : j < len) (K : Z ro d M (pc + 1) ls ((0, w a j.toNat) :: st) w Q) : Z ro d M pc ls ((0, j) :: (1, (a : Int)) :: st) w Q := by
  refine Z_heap g rfl rfl rfl rfl ?_ rfl (st' := (0, w a j.toNat) :: st) (fun x y => ?_) id K
  · unfold zend; split <;> simp_all
  · simp only [zheap, zarr_ok hL h0 h1]
theorem Z_laload {a len c : Nat} {j : Int} (g : zget (zMt M) pc = some (.laload, 1)) (hL : zLY[a]? = some (4, c, len)) (h0 : 0 ≤ j) (h1 : j < len) (K : Z ro d M (pc + 1) ls ((2, w a j.toNat) :: st) w Q) : Z ro d M pc ls ((0, j) :: (1, (a : Int)) :: st) w Q := by
  refine Z_heap g rfl rfl rfl rfl ?_ rfl (st' := (2, w a j.toNat) :: st) (fun x y => ?_) id K
  · unfold zend; split <;> simp_all
  · simp only [zheap, zarr_ok hL h0 h1]
theorem Z_daload {a len c : Nat} {j : Int} (g : zget (zMt M) pc = some (.daload, 1)) (hL : zLY[a]? = some (5, c, len)) (h0 : 0 ≤ j) (h1 : j < len) (K : Z ro d M (pc + 1) ls ((4, w a j.toNat) :: st) w Q) : Z ro d M pc ls ((0, j) :: (1, (a : Int)) :: st) w Q := by
  refine Z_heap g rfl rfl rfl rfl ?_ rfl (st' := (4, w a j.toNat) :: st) (fun x y => ?_) id K
  · unfold zend; split <;> simp_all
  · simp only [zheap, zarr_ok hL h0 h1]
theorem Z_aaload {a len c : Nat} {j : Int} (g : zget (zMt M) pc = some (.aaload, 1)) (hL : zLY[a]? = some (6, c, len)) (h0 : 0 ≤ j) (h1 : j < len) (K : Z ro d M (pc + 1) ls ((1, w a j.toNat) :: st) w Q) : Z ro d M pc ls ((0, j) :: (1, (a : Int)) :: st) w Q := by
  refine Z_heap g rfl rfl rfl rfl ?_ rfl (st' := (1, w a j.toNat) :: st) (fun x y => ?_) id K
  · unfold zend; split <;> simp_all
  · simp only [zheap, zarr_ok hL h0 h1]
theorem Z_aaloadR {a len c b : Nat} {j : Int} (g : zget (zMt M) pc = some (.aaload, 1)) (hL : zLY[a]? = some (6, c, len)) (h0 : 0 ≤ j) (h1 : j < len) (hp : zptr a j.toNat = b) (hb : b ≠ 0) (K : Z ro d M (pc + 1) ls ((1, (b : Int)) :: st) w Q) : Z ro d M pc ls ((0, j) :: (1, (a : Int)) :: st) w Q :=
  Z_pt (fun hw => Z_aaload g hL h0 h1 (by rw [hw.at hp hb]; exact K))
theorem Z_iastore {a len c : Nat} {j v : Int} (g : zget (zMt M) pc = some (.iastore, 1)) (hL : zLY[a]? = some (1, c, len)) (h0 : 0 ≤ j) (h1 : j < len) (K : Z ro d M (pc + 1) ls st (zup w a j.toNat v) Q) : Z ro d M pc ls ((0, v) :: (0, j) :: (1, (a : Int)) :: st) w Q := by
  refine Z_heap g rfl rfl rfl rfl ?_ rfl (st' := st) (fun x y => ?_) (fun h => h.up (zLY_data hL (fun h => by cases h) (fun h => by cases h) _)) K
  · unfold zend; split <;> simp_all
  · simp only [zheap]
    rw [zarr_ok hL h0 h1]
    rfl
theorem Z_castore {a len c : Nat} {j v : Int} (g : zget (zMt M) pc = some (.castore, 1)) (hL : zLY[a]? = some (2, c, len)) (h0 : 0 ≤ j) (h1 : j < len) (hv : 0 ≤ v ∧ v < 65536) (K : Z ro d M (pc + 1) ls st (zup w a j.toNat v) Q) : Z ro d M pc ls ((0, v) :: (0, j) :: (1, (a : Int)) :: st) w Q := by
  refine Z_heap g rfl rfl rfl rfl ?_ rfl (st' := st) (fun x y => ?_) (fun h => h.up (zLY_data hL (fun h => by cases h) (fun h => by cases h) _)) K
  · unfold zend; split <;> simp_all
  · simp only [zheap]
    rw [if_pos hv]
    rw [zarr_ok hL h0 h1]
    rfl
theorem Z_bastore {a len c : Nat} {j v : Int} (g : zget (zMt M) pc = some (.bastore, 1)) (hL : zLY[a]? = some (3, c, len)) (h0 : 0 ≤ j) (h1 : j < len) (hv : v = 0 ∨ v = 1) (K : Z ro d M (pc + 1) ls st (zup w a j.toNat v) Q) : Z ro d M pc ls ((0, v) :: (0, j) :: (1, (a : Int)) :: st) w Q := by
  refine Z_heap g rfl rfl rfl rfl ?_ rfl (st' := st) (fun x y => ?_) (fun h => h.up (zLY_data hL (fun h => by cases h) (fun h => by cases h) _)) K
  · unfold zend; split <;> simp_all
  · simp only [zheap]
    rw [if_pos hv]
    rw [zarr_ok hL h0 h1]
    rfl
theorem Z_lastore {a len c : Nat} {j v : Int} (g : zget (zMt M) pc = some (.lastore, 1)) (hL : zLY[a]? = some (4, c, len)) (h0 : 0 ≤ j) (h1 : j < len) (K : Z ro d M (pc + 1) ls st (zup w a j.toNat v) Q) : Z ro d M pc ls ((2, v) :: (0, j) :: (1, (a : Int)) :: st) w Q := by
  refine Z_heap g rfl rfl rfl rfl ?_ rfl (st' := st) (fun x y => ?_) (fun h => h.up (zLY_data hL (fun h => by cases h) (fun h => by cases h) _)) K
  · unfold zend; split <;> simp_all
  · simp only [zheap]
    rw [zarr_ok hL h0 h1]
    rfl
theorem Z_dastore {a len c : Nat} {j v : Int} (g : zget (zMt M) pc = some (.dastore, 1)) (hL : zLY[a]? = some (5, c, len)) (h0 : 0 ≤ j) (h1 : j < len) (K : Z ro d M (pc + 1) ls st (zup w a j.toNat v) Q) : Z ro d M pc ls ((4, v) :: (0, j) :: (1, (a : Int)) :: st) w Q := by
  refine Z_heap g rfl rfl rfl rfl ?_ rfl (st' := st) (fun x y => ?_) (fun h => h.up (zLY_data hL (fun h => by cases h) (fun h => by cases h) _)) K
  · unfold zend; split <;> simp_all
  · simp only [zheap]
    rw [zarr_ok hL h0 h1]
    rfl
theorem Z_len {a k len c : Nat} (g : zget (zMt M) pc = some (.arraylength, 1)) (hL : zLY[a]? = some (k, c, len)) (hk : 1 ≤ k ∧ k ≤ 6) (K : Z ro d M (pc + 1) ls ((0, (len : Int)) :: st) w Q) : Z ro d M pc ls ((1, (a : Int)) :: st) w Q := by
  refine Z_heap g rfl rfl rfl rfl ?_ rfl (st' := (0, (len : Int)) :: st) (fun x y => ?_) id K
  · unfold zend; split <;> simp_all
  · simp only [zheap]
    rw [if_pos (by omega), show (zLY, w, x, y).1[((a : Int)).toNat]? = some (k, c, len) from hL]
    simp only
    rw [if_pos hk]
theorem Z_lenS {L : Nat} {f : Nat → Int} (g : zget (zMt M) pc = some (.arraylength, 1)) (hr : ro (-3) = some (L, f)) (K : Z ro d M (pc + 1) ls ((0, (L : Int)) :: st) w Q) : Z ro d M pc ls ((1, -3) :: st) w Q := by
  refine Z_heap g rfl rfl rfl rfl ?_ rfl (st' := (0, (L : Int)) :: st) (fun x y => ?_) id K
  · unfold zend; split <;> simp_all
  · simp [zheap, hr]
theorem Z_ialoadS {L : Nat} {f : Nat → Int} {j : Int} (g : zget (zMt M) pc = some (.iaload, 1)) (hr : ro (-3) = some (L, f)) (h0 : 0 ≤ j) (h1 : j < L) (K : Z ro d M (pc + 1) ls ((0, f j.toNat) :: st) w Q) : Z ro d M pc ls ((0, j) :: (1, -3) :: st) w Q := by
  refine Z_heap g rfl rfl rfl rfl ?_ rfl (st' := (0, f j.toNat) :: st) (fun x y => ?_) id K
  · unfold zend; split <;> simp_all
  · have e : zarr (zLY, w, x, y) 1 (-3) j = none := by unfold zarr; rw [if_neg (by omega)]
    simp [zheap, e, hr, h0, h1]
end
end
section
theorem zlaw {L : Nat} (hL : L ≤ 2048) (xs : Nat → Int32) : zgoal L xs := sorry
/-- the law's walk -/
theorem whole_start {p : Program} {e : Env} {s : State} {m : MethodId} {below : List Frame} {meth : Method} {c : Code} (l : Launch) (hflags : l.flags = flags0) {b L : Nat} {xs : Nat → Int32} (hL : L ≤ 2048) (C0 : lw_At p s m meth c b L xs) : W p l e room_1 s m #[Value.ref b] below meth c s.heap [] 0 0 (lw_Z below #[Value.ref b] s) (entryFrame m ([Value.ref b] : List Value).toArray 9) := whole_of l hflags hL C0 (zlaw hL xs)
-- ===== YOUR PART ENDS =====
set_option maxHeartbeats 4000000 in
theorem lw_walk (l : Launch) (hflags : l.flags = flags0) (b : Addr) (xs : List Int32) : MetFree l x (headSpec (Jvm.Cond.code x code maxLocals ret :: tables_1) room_1) (lw_P b xs) (fun _ _ _ _ _ => True) lw_Q := by
  refine MetFree.of_bodyS (code := code) (maxLocals := maxLocals) (ret := ret) (by decide) ?_ ?_
  · intro args s m h hn
    obtain ⟨meth, c, h1, h2, h3, h4, h5, h6, -, -⟩ := Cond.code_spec hn (atoms_spec (ws := Jvm.Cond.code x code maxLocals ret :: tables_1) h _ List.mem_cons_self)
    exact ⟨meth, c, h1, h2, h3, h4, h5, h6⟩
  · intro p e s m args below meth c s₁ B hml0 hP _
    obtain ⟨rfl, hx, hbd, hgv⟩ := hP
    obtain ⟨scr, harrAt, hlist, hof, hsmall⟩ := hx
    obtain ⟨hcb, hkn, -, -⟩ := State.arrayAt?_spec harrAt
    have hown : s.vm.findClass R_law = some m.cls := findClass_of_methodNamed B.named
    have hts0 : ∀ c ∈ (Jvm.Cond.code x code maxLocals ret :: tables_1), c.before #[Value.ref b] s = true := atoms_spec (ws := Jvm.Cond.code x code maxLocals ret :: tables_1) B.pre
    have hts : ∀ w ∈ lw_tbl, w.before #[Value.ref b] s = true := k2_hts_sels lw_privs (fun w hw => hts0 w (List.mem_cons_of_mem _ hw)) lw_privs_ok
    have hml : c.maxLocals = 9 := B.maxLocals_eq (hts0 _ List.mem_cons_self)
    have X₀ : Stand p l e room_1 s m #[Value.ref b] below meth c s₁ [] 0 0 := Stand.of_body B
    have hh0 : s₁.heap = s.heap := by rw [B.state]; rfl
    have hsz : scr.slots.size = xs.length := by rw [← Array.length_toList, hlist, List.length_map]
    have hval : ∀ j : Nat, j < xs.length → scr.slots[j]? = some (.int (xs.getD j 0)) := fun j hj => by
      rw [← Array.getElem?_toList, hlist]
      simp [hj]
    have hbl : b < s.heap.size := (Array.getElem?_eq_some_iff.mp hcb).1
    have hX : va_X b xs.length (fun j => xs.getD j 0) s s.heap := ⟨scr, hcb, hof, hkn, hsz, hval⟩
    have K : W p l e room_1 s m #[Value.ref b] below meth c s₁.heap [] 0 0 (lw_Z below #[Value.ref b] s) (entryFrame m ([Value.ref b] : List Value).toArray 9) := by
      rw [hh0]
      have htab : c.exceptionTable.toList = [] := by
        obtain ⟨meth9, c9, h1, h2, -, -, -, -, h7, -⟩ := Cond.code_spec B.named (hts0 _ List.mem_cons_self)
        cases Option.some.inj (h1.symm.trans B.method)
        cases Option.some.inj (h2.symm.trans (Stand.of_body B).code)
        rw [Array.isEmpty_iff.mp h7]
      exact whole_start l hflags hbd ⟨B.exec, B.bytes, B.returns, hml, hown, hts, hX, hbl, B.notSynchronized, hgv, htab, (name_of_methodNamed B.named B.method).1⟩
    obtain ⟨t, a1, o, b1, b2, b3⟩ := K s₁ rfl X₀
    exact ⟨t, o, a1, b1, b2, b3⟩
theorem lw_pre_spec {args : Array Value} {s : State} (h : (Jvm.Cond.and given_1 narrow_1).before args s = true) (hr : rest_1_c.before args s = true) : ∃ (b : Addr) (xs : List Int32), lw_P b xs args s := by
  have hs := flat_of_before _ h
  have hq := flat_of_before _ hr
  have hc : (Cond.count 1).before args s = true := hs _ (by decide +kernel)
  have harr : (Cond.arrayOf (.arg 0) .int).before args s = true := hs _ (by decide +kernel)
  have hle : (Cond.le (.length (.arg 0)) (.int 2048)).before args s = true := hs _ (by decide +kernel)
  have hlen : (Cond.isInt (.length (.arg 0))).before args s = true := hq _ (by decide +kernel)
  have hall : (Cond.all (.arg 0) (.isInt (.elem (.arg 0) (.index 0)))).before args s = true := hq _ (by decide +kernel)
  obtain ⟨b, xs, hb, hx⟩ := State.ints_of_pre rfl harr hlen hall
  have hsm : xs.length < 2 ^ 31 := hx.choose_spec.2.2.2
  have hev : (Term.length (.arg 0)).eval args s none [] s = some (.int xs.length.toInt32) := hx.length_eval hb
  have hv := Cond.le_ints hev (show (Term.int 2048).eval args s none [] s = some (.int 2048) from rfl)
  have hd : xs.length.toInt32 ≤ 2048 := by
    simpa [Cond.before, Cond.holds, hv] using hle
  have hN : xs.length ≤ 2048 := (Int32.ofNat_le_ofNat hsm (by decide)).mp (show Int32.ofNat xs.length ≤ Int32.ofNat 2048 from hd)
  exact ⟨b, xs, Cond.one_arg hc (show args[0]? = some (.ref b) from hb), hx, hN, h⟩
theorem lw_comes (l : Launch) (hflags : l.flags = flags0) : Comes l x (Jvm.Cond.code x code maxLocals ret :: tables_1) room_1 (fun tb e args s => Calls_1 tb e args s ∧ rest_1 tb e args s ∧ Pre_1 tb e args s)
    (fun _ _ args s o t => lw_Q args s o t) := by
  intro p e ha hc hk s m args below hf hfit hheap happ hpre
  obtain ⟨b, xs, hP⟩ := lw_pre_spec hpre.2.2 hpre.2.1
  obtain ⟨k, o, h1, h2, h3, hQ⟩ := lw_walk l hflags b xs p e ha hc hk s m args below hf ((Spec.applies_iff_loose hf).mp happ).1 hP trivial
  exact ⟨k, o, h1, h2, h3, hQ⟩
theorem lw_frame {s t : State} {o : Outcome} {args : Array Value} (h : State.butDraws s t lw_cs (fun t1 => Framed s o t1 [] 603072 7215210)) :
    State.butDraws s t [Jvm.Choice.named "NaN.bits"] (fun t1 => Framed s o t1 (fieldLocs frame_1_writes args s ++ arrayLocs frame_1_arrays args s ++ staticLocs frame_1_statics s) 603072 7215210) := h
theorem lw_limb (L : Cond) (hL : ∀ (args : Array Value) (s t : State), L.after args s (.returned (some (.int 1))) t = true) :
    ArmFor flags0 classFile x code maxLocals ret World_1 tables_1 room_1 Calls_1 rest_1 Pre_1
      (fun tb e a s o t => postC L tb e a s o t ∧ State.butDraws s t [Jvm.Choice.named "NaN.bits"] (fun t1 => Framed s o t1 (fieldLocs frame_1_writes a s ++ arrayLocs frame_1_arrays a s ++ staticLocs frame_1_statics s) 603072 7215210)) := by
  intro l hflags _ _ p e ha hc hk s m args below hf hfit hheap happ hpre
  obtain ⟨k, o, h1, h2, h3, rfl, hF⟩ := lw_comes l hflags p e ha hc hk s m args below hf hfit hheap happ hpre
  exact ⟨k, _, h1, h2, h3, hL args s _, lw_frame hF⟩
theorem i_vc : Claimed_1_1 ∧ Claimed_1_2 := ⟨lw_limb limb_1_1 (fun args s t => by simp [limb_1_1, Cond.after, Cond.holds, Cond.value]), lw_limb limb_1_2 (fun args s t => Cond.after_iff.mpr (by
  first | (rw [show limb_1_2 = Cond.eq .result (.int 1) from rfl, Cond.eq_ints (x := 1) (y := 1) rfl rfl]; simp; done) | (simp [limb_1_2, Cond.value, Term.eval]; done)))⟩
end
