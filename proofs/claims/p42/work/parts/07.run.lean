abbrev zMt (M : zM) : List (Nat × Instr × Nat) := M.2.2.1
abbrev zMl (M : zM) : Nat := M.2.2.2.1
abbrev zMr (M : zM) : Option FieldType := M.2.2.2.2.1
abbrev zMh (M : zM) : List (Nat × Nat × Nat × Nat) := M.2.2.2.2.2.1
abbrev zMk (M : zM) : Nat := M.2.2.2.2.2.2
/-- an instruction that calls: how (0 virtual, 1 static, 2 static of a nest mate, 3 constructor, 4 constructor of a nest mate, 5 static with a table), how many values it takes, what -/
def zinv (c : Nat) (i : Instr) (len : Nat) : Option (Nat × Nat × zM) :=
  match i, len with
  | .invokevirtual k, 3 => match zcall c k with
    | some q => if q.1 = 0 then some q else none
    | none => none
  | .invokestatic k, 3 => match zcall c k with
    | some q => if q.1 = 1 ∨ q.1 = 2 ∨ q.1 = 5 then some q else none
    | none => none
  | .invokespecial k, 3 => match zcall c k with
    | some q => if q.1 = 3 ∨ q.1 = 4 then some q else none
    | none => none
  | _, _ => none
/-- the receiver, where there is one -/
def zrecv (S : zS) (kd : Nat) (c : Nat) (as : List zV) : Bool :=
  bif kd == 0 || kd == 3 || kd == 4 then (match as with
    | (1, o) :: _ => (zobj S o c 0).isSome || (decide (0 ≤ o) && (match S.1[o.toNat]? with | some e => e.1 == 0 && e.2.1 == c | none => false))
    | _ => false) else true
def zrun (ro : zRo) : Nat → Nat → zM → Nat → List zV → List zV → zS → Option zR
  | 0, _, _, _, _, _, _ => none
  | n + 1, d, M, pc, ls, st, S =>
    match zget (zMt M) pc with
    | none => none
    | some q =>
    match zpush (zcon (zMk M)) q.1 q.2 ls with
    | some v => zrun ro n d M (pc + q.2) ls (v :: st) S
    | none =>
    match zstore q.1 q.2 ls st with
    | some r => zrun ro n d M (pc + q.2) r.1 r.2 S
    | none =>
    match zarith (zmth (zMk M)) q.1 q.2 st with
    | some r => zrun ro n d M (pc + q.2) ls r S
    | none =>
    match zjump q.1 q.2 pc st with
    | some r => zrun ro n d M r.1 ls r.2 S
    | none =>
    match zend (zMr M) q.1 q.2 st with
    | some v => some (.inl v, S)
    | none =>
    match zthr (zexn (zMk M)) (zMt M) pc q.1 q.2 with
    | some r => if (zstr (zMk M) r.2.2.1).isSome = true ∧ zxic (zMk M) r.2.2.2.1 = some r.1 ∧ (zMh M).isEmpty = true ∧ st.length ≤ 50 then some (.inr r.1, (S.1, S.2.1, S.2.2.1 + 1, S.2.2.2 + 6)) else none
    | none =>
    match zheap (zfld (zMk M)) (zcls (zMk M)) zfty (zref (zMk M)) (zstc (zMk M)) (M.1.name == "<init>") ro q.1 q.2 st S with
    | some r => zrun ro n d M (pc + q.2) ls r.1 r.2
    | none =>
    match d, zinv (zMk M) q.1 q.2 with
    | d' + 1, some r =>
      bif decide (r.2.1 ≤ st.length) && (st.take r.2.1).all zplain && decide (r.2.1 ≤ zMl r.2.2) && (st.drop r.2.1).all zplain && decide ((st.drop r.2.1).length ≤ 8) && zrecv S r.1 (zMk r.2.2) (st.take r.2.1).reverse then
        match zrun ro n d' r.2.2 0 (zargs (zMl r.2.2) (st.take r.2.1).reverse) [] S with
        | some (.inl (some v), S1) => zrun ro n (d' + 1) M (pc + 3) ls (v :: st.drop r.2.1) S1
        | some (.inl none, S1) => zrun ro n (d' + 1) M (pc + 3) ls (st.drop r.2.1) S1
        | some (.inr E, S1) => if r.1 = 0 ∨ r.1 = 1 then
            (match zhand (zexn (zMk M)) zCA zNC pc E (zMh M) with
            | some h => (match zcatch (zMt M) h ls with
              | some r2 => zrun ro n (d' + 1) M r2.1 r2.2 [] S1
              | none => none)
            | none => if (zMh M).isEmpty = true then some (.inr E, S1) else none) else none
        | none => none
      else none
    | _, _ => none
