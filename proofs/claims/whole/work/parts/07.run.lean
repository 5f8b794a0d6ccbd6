/-! THE ABSTRACT INTERPRETER, 6: methods, runs, and what a table of methods must hold. -/
abbrev xI : Type := Nat × Nat × Nat × Nat × Int
/-- ((shaper, name, bytes, locals, return type), (kind, arguments, number of the shaper), handlers of the file, handlers here, switches, code by pc). Kinds: 0 static, 1 object's, 2 constructor -/
abbrev xMe : Type := (String × MethodName × ByteArray × Nat × Option FieldType) × (Nat × Nat × Nat) × List (Nat × Nat × Nat × Nat) × List (Nat × Nat × Nat × Nat) × List (Nat × Int × List Nat) × List xI
abbrev xR : Type := (Option Value ⊕ Nat) × xM
def xmO (q : xMe) : String := q.1.1
def xmY (q : xMe) : MethodName := q.1.2.1
def xmB (q : xMe) : ByteArray := q.1.2.2.1
def xmL (q : xMe) : Nat := q.1.2.2.2.1
def xmR (q : xMe) : Option FieldType := q.1.2.2.2.2
def xmK (q : xMe) : Nat := q.2.1.1
def xmN (q : xMe) : Nat := q.2.1.2.1
def xmX (q : xMe) : Nat := q.2.1.2.2
def xmH (q : xMe) : List (Nat × Nat × Nat × Nat) := q.2.2.1
def xmC (q : xMe) : List (Nat × Nat × Nat × Nat) := q.2.2.2.1
def xmS (q : xMe) : List (Nat × Int × List Nat) := q.2.2.2.2.1
def xmI (q : xMe) : List xI := q.2.2.2.2.2
def xretv (a : Nat) (st : List Value) : Option (Option Value) := match a, st with
  | 0, [] => some none
  | 1, [.int v] => some (some (.int v))
  | 2, [.int v] => if v = 0 ∨ v = 1 then some (some (.int v)) else none
  | 3, [.long v] => some (some (.long v))
  | 4, [.float v] => some (some (.float v))
  | 5, [.double v] => some (some (.double v))
  | _, _ => none
def xsw (sw : List (Nat × Int × List Nat)) (a : Nat) (st : List Value) : Option (Nat × List Value) := match sw[a]?, st with
  | some (d, lo, ts), .int x :: r => if x.toInt < lo ∨ lo + ts.length - 1 < x.toInt then some (d, r) else match ts[(x.toInt - lo).toNat]? with
    | some t => some (t, r)
    | none => none
  | _, _ => none
def xcarg (op b X : Nat) (M : xM) (st : List Value) : Option (List Value × List Value) :=
  if st.length < b then none
  else if op = 331 ∨ op = 333 ∨ op = 335 then some ((st.take b).reverse, st.drop b)
  else match st.drop b with
    | .ref r :: rest => if op = 330 then (match M.1 r with
      | some (.inr (ci, _)) => if ci = X then some (.ref r :: (st.take b).reverse, rest) else none
      | _ => none) else some (.ref r :: (st.take b).reverse, rest)
    | _ => none
abbrev xKt : Type := Nat → xL → List Value → xM → Option xR
def xs1 (k : xKt) (op a b i : Nat) (z : Int) (pc : Nat) (L : xL) (st : List Value) (M : xM) : Option xR := match x1ops[op]? with
  | none => none
  | some q => match q.1 a b i z pc L st with
    | none => none
    | some r => k r.1 r.2.1 r.2.2 M
def xs2 (k : xKt) (me : xMe) (op a b i : Nat) (z : Int) (pc : Nat) (L : xL) (st : List Value) (M : xM) : Option xR := match x2ops[op - 100]? with
  | none => none
  | some q => match q.1 a b M.1 st with
    | none => none
    | some r => k (pc + (q.2 (xmO me) (xmY me).name a b i z pc).2.1) L r.2 (r.1, M.2)
def xs3 (sx : xSx) (k : xKt) (me : xMe) (op a b i : Nat) (z : Int) (pc : Nat) (L : xL) (st : List Value) (M : xM) : Option xR := match x3ops[op - 200]? with
  | none => none
  | some q => match q.1 sx a b i z M st with
    | none => none
    | some r => k (pc + (q.2 (xmO me) (xmY me).name a b i z pc).2.1) L r.2 r.1
def xs4 (sx : xSx) (k : xKt) (me : xMe) (fl lf op a b i : Nat) (z : Int) (pc : Nat) (L : xL) (st : List Value) (M : xM) : Option xR := match x4ops[op - 250]? with
  | none => none
  | some q => if xsum st ≤ 16 ∧ 5 ≤ fl ∧ 128 ≤ lf then match q.1 sx a b i z M.1 st with
    | none => none
    | some r => k (pc + (q.2 (xmO me) (xmY me).name a b i z pc).2.1) L r.2 (r.1, M.2) else none
def xsR (a : Nat) (st : List Value) (M : xM) : Option xR := match xretv a st with
  | none => none
  | some v => some (.inl v, M)
def xsW (k : xKt) (me : xMe) (a : Nat) (L : xL) (st : List Value) (M : xM) : Option xR := match xsw (xmS me) a st with
  | none => none
  | some r => k r.1 L r.2 M
def xsT (fl lf a : Nat) (st : List Value) (M : xM) : Option xR := if 6 ≤ fl ∧ 128 ≤ lf ∧ xsum st ≤ 16 then some (.inr a, (M.1, 0, M.2.2.1 + 1, M.2.2.2 + 6)) else none
/-- behind a call -/
def xsB (k : xKt) (me : xMe) (op pc : Nat) (L : xL) (rest : List Value) (r : Option xR) : Option xR := match r with
  | none => none
  | some (.inl v, M') => k (pc + 3) L (v.toList ++ rest) M'
  | some (.inr e, M') => if op = 330 ∨ op = 331 then match xmH me with
    | [] => some (.inr e, M')
    | _ => match (xmC me).find? (fun q => q.1 == e) with
      | none => none
      | some q => k q.2.1 ((xcl L q.2.2.1).set q.2.2.1 none) [] M' else none
def xsC (tab : List xMe) (call : Nat → Nat → Nat → List Value → xM → Option xR) (k : xKt) (me : xMe) (fl lf op a pc : Nat) (L : xL) (st : List Value) (M : xM) : Option xR := match tab[a]? with
  | none => none
  | some me' => match xcarg op (xmN me') (xmX me') M st with
    | none => none
    | some q => if 1 ≤ fl ∧ 19 + xmL me' ≤ lf ∧ xsum q.2 ≤ 8 ∧ (xent q.1).length ≤ xmL me' then xsB k me op pc L q.2 (call a (fl - 1) (lf - (19 + xmL me')) q.1 M) else none
def xstep (tab : List xMe) (sx : xSx) (call : Nat → Nat → Nat → List Value → xM → Option xR) (k : xKt) (me : xMe) (fl lf pc : Nat) (L : xL) (st : List Value) (M : xM) : Option xR :=
  match (xmI me)[pc]? with
  | none => none
  | some (op, a, b, i, z) =>
    if op < 100 then xs1 k op a b i z pc L st M
    else if op < 200 then xs2 k me op a b i z pc L st M
    else if op < 250 then xs3 sx k me op a b i z pc L st M
    else if op < 300 then xs4 sx k me fl lf op a b i z pc L st M
    else if op = 300 then xsR a st M
    else if op = 310 then xsW k me a L st M
    else if op = 320 then xsT fl lf a st M
    else if op < 340 then xsC tab call k me fl lf op a pc L st M
    else none
def xrun (tab : List xMe) (sx : xSx) : Nat → Nat → Nat → Nat → Nat → xL → List Value → xM → Option xR
  | 0, _, _, _, _, _, _, _ => none
  | n + 1, y, fl, lf, pc, L, st, M => match tab[y]? with
    | none => none
    | some me => xstep tab sx (fun y' fl' lf' As M' => match tab[y']? with
      | none => none
      | some me' => xrun tab sx n y' fl' lf' 0 (xentry (xmL me') As) [] M') (fun pc' L' st' M' => xrun tab sx n y fl lf pc' L' st' M') me fl lf pc L st M
/-! what is counted, counts up; once the next address is unknown it stays so -/
def xLe (M M' : xM) : Prop := M.2.2.1 ≤ M'.2.2.1 ∧ M.2.2.2 ≤ M'.2.2.2 ∧ (M.2.1 = 0 → M'.2.1 = 0)
theorem xLe_rf (M : xM) : xLe M M := ⟨Nat.le_refl _, Nat.le_refl _, id⟩
theorem xLe_tr {M1 M2 M3 : xM} (h1 : xLe M1 M2) (h2 : xLe M2 M3) : xLe M1 M3 := ⟨Nat.le_trans h1.1 h2.1, Nat.le_trans h1.2.1 h2.2.1, fun h => h2.2.2 (h1.2.2 h)⟩
theorem x3ops_nx : ∀ q ∈ x3ops, ∀ (sx : xSx) (a b i : Nat) (z : Int) (M : xM) (st : List Value) (r : xM × List Value), q.1 sx a b i z M st = some r → xLe M r.1 := by
  intro q hq sx a b i z M st r hr
  obtain ⟨h, nx, ce, sl⟩ := M
  obtain ⟨⟨h', nx', ce', sl'⟩, st'⟩ := r
  obtain ⟨m1, m2⟩ := x3ops_mono q hq sx a b i z h nx ce sl st h' nx' ce' sl' st' hr
  refine ⟨m1, m2, fun h0 => ?_⟩
  dsimp only at h0 ⊢
  subst h0
  have key : ∀ q ∈ x3ops, q.1 sx a b i z (h, 0, ce, sl) st = some ((h', nx', ce', sl'), st') → nx' = 0 := by
    unfold x3ops
    simp only [List.forall_mem_cons]
    refine ⟨?_, ?_, ?_, ?_, ?_, ?_, ?_, ?_, ?_, ?_, ?_, ?_, fun _ h => nomatch h⟩
    · intro h1; unfold k3_constI at h1; cases h1; rfl
    · intro h1; unfold k3_constJ at h1; cases h1; rfl
    · intro h1; unfold k3_constD at h1; cases h1; rfl
    · intro h1; unfold k3_new at h1; simp at h1
    · intro h1; unfold k3_newa0 at h1; split at h1 <;> simp at h1
    · intro h1; unfold k3_newa1 at h1; split at h1 <;> simp at h1
    · intro h1; unfold k3_newa2 at h1; split at h1 <;> simp at h1
    · intro h1; unfold k3_newa3 at h1; split at h1 <;> simp at h1
    · intro h1; unfold k3_newa4 at h1; split at h1 <;> simp at h1
    · intro h1; unfold k3_anew5 at h1; split at h1 <;> simp at h1
    · intro h1; unfold k3_anew6 at h1; split at h1 <;> simp at h1
    · intro h1; unfold k3_anew7 at h1; split at h1 <;> simp at h1
  exact key q hq hr
theorem xsB_le {k : xKt} {me : xMe} {op pc : Nat} {L : xL} {rest : List Value} {M : xM} {c : Option xR} {r : xR} (hc : ∀ r, c = some r → xLe M r.2) (hk : ∀ pc L st M r, k pc L st M = some r → xLe M r.2) (h : xsB k me op pc L rest c = some r) : xLe M r.2 := by
  unfold xsB at h
  split at h
  · cases h
  · rename_i v M'
    exact xLe_tr (hc _ rfl) (hk _ _ _ _ _ h)
  · rename_i e M'
    split at h
    · split at h
      · cases h
        exact hc _ rfl
      · split at h
        · cases h
        · exact xLe_tr (hc _ rfl) (hk _ _ _ _ _ h)
    · cases h
theorem xstep_le {tab : List xMe} {sx : xSx} {call : Nat → Nat → Nat → List Value → xM → Option xR} {k : xKt} (hcall : ∀ y fl lf As M r, call y fl lf As M = some r → xLe M r.2) (hk : ∀ pc L st M r, k pc L st M = some r → xLe M r.2) {me : xMe} {fl lf pc : Nat} {L : xL} {st : List Value} {M : xM} {r : xR}
    (h : xstep tab sx call k me fl lf pc L st M = some r) : xLe M r.2 := by
  unfold xstep at h
  split at h
  · cases h
  · rename_i op a b i z hi
    by_cases h1 : op < 100
    · rw [if_pos h1] at h
      unfold xs1 at h
      split at h
      · cases h
      · split at h
        · cases h
        · exact hk _ _ _ _ _ h
    rw [if_neg h1] at h
    by_cases h2 : op < 200
    · rw [if_pos h2] at h
      unfold xs2 at h
      split at h
      · cases h
      · split at h
        · cases h
        · have h9 := hk _ _ _ _ _ h
          exact ⟨h9.1, h9.2.1, h9.2.2⟩
    rw [if_neg h2] at h
    by_cases h3 : op < 250
    · rw [if_pos h3] at h
      unfold xs3 at h
      split at h
      · cases h
      · rename_i q hq
        split at h
        · cases h
        · rename_i r2 hr2
          exact xLe_tr (x3ops_nx q (List.mem_of_getElem? hq) _ _ _ _ _ _ _ _ hr2) (hk _ _ _ _ _ h)
    rw [if_neg h3] at h
    by_cases h4 : op < 300
    · rw [if_pos h4] at h
      unfold xs4 at h
      split at h
      · cases h
      · split at h
        · split at h
          · cases h
          · have h9 := hk _ _ _ _ _ h
            exact ⟨h9.1, h9.2.1, h9.2.2⟩
        · cases h
    rw [if_neg h4] at h
    by_cases h5 : op = 300
    · rw [if_pos h5] at h
      unfold xsR at h
      split at h
      · cases h
      · cases h
        exact xLe_rf M
    rw [if_neg h5] at h
    by_cases h6 : op = 310
    · rw [if_pos h6] at h
      unfold xsW at h
      split at h
      · cases h
      · exact hk _ _ _ _ _ h
    rw [if_neg h6] at h
    by_cases h7 : op = 320
    · rw [if_pos h7] at h
      unfold xsT at h
      split at h
      · cases h
        exact ⟨Nat.le_succ _, Nat.le_add_right _ _, fun _ => rfl⟩
      · cases h
    rw [if_neg h7] at h
    by_cases h8 : op < 340
    · rw [if_pos h8] at h
      unfold xsC at h
      split at h
      · cases h
      · split at h
        · cases h
        · split at h
          · exact xsB_le (fun r hr => hcall _ _ _ _ _ _ hr) hk h
          · cases h
    rw [if_neg h8] at h
    cases h
theorem xrun_le (tab : List xMe) (sx : xSx) : ∀ (n y fl lf pc : Nat) (L : xL) (st : List Value) (M : xM) (r : xR), xrun tab sx n y fl lf pc L st M = some r → xLe M r.2 := by
  intro n
  induction n with
  | zero => intro y fl lf pc L st M r h; cases h
  | succ n ih =>
    intro y fl lf pc L st M r h
    unfold xrun at h
    split at h
    · cases h
    · exact xstep_le (fun y fl lf As M r h => by
        split at h
        · cases h
        · exact ih _ _ _ _ _ _ _ _ h) (fun pc L st M r h => ih _ _ _ _ _ _ _ _ h) h
/-! a table of methods agrees with the machine's -/
def xdec (bytes : ByteArray) (pc : Nat) (q : Instr × Nat × Bool) : Bool := q.2.2 && decide (decode bytes pc = .ok (q.1, q.2.1))
theorem xdec_ok {bytes : ByteArray} {pc : Nat} {q : Instr × Nat × Bool} (h : xdec bytes pc q = true) : q.2.2 = true ∧ decode bytes pc = .ok (q.1, q.2.1) := by
  unfold xdec at h
  simp only [Bool.and_eq_true, decide_eq_true_eq] at h
  exact h
def xswok (bytes : ByteArray) (pc : Nat) (q : Nat × Int × List Nat) : Bool := match decode bytes pc with
  | .ok (.tableswitch d lo hi offs, _) => decide ((pc : Int) + d = (q.1 : Int)) && decide (lo = q.2.1) && decide (hi = q.2.1 + q.2.2.length - 1) && decide (offs.toList.map (fun o => (pc : Int) + o) = q.2.2.map (fun t : Nat => (t : Int)))
  | _ => false
def xhok (own : String) (bytes : ByteArray) (nL pc : Nat) : List (Nat × Nat × Nat × Nat) → List (Nat × Nat × Nat × Nat) → Bool
  | [], [] => true
  | (s, e, h, t) :: r, (x, pc', loc, wi) :: r' => decide (s ≤ pc) && decide (pc < e) && decide (loc < nL) && decide (t ≠ 0) && decide (x < 4) && xw wi (.classLink own t (xexn x)) &&
      (decide (decode bytes h = .ok (.astore_n (Fin.ofNat 4 loc), 1) ∧ loc < 4 ∧ pc' = h + 1) || decide (decode bytes h = .ok (.astore loc, 2) ∧ pc' = h + 2)) && xhok own bytes nL pc r r'
  | _, _ => false
def xcall1 (me me' : xMe) (pc op b i : Nat) (z : Int) : Bool :=
  if op = 330 then decide (decode (xmB me) pc = .ok (.invokevirtual i, 3)) && xw z.toNat (.methodLink (xmO me) i (xmY me')) && decide (xmK me' = 1) && decide (xmH me' = [])
  else if op = 331 then decide (decode (xmB me) pc = .ok (.invokestatic i, 3)) && xw z.toNat (.methodLink (xmO me) i (xmY me')) && decide (xmK me' = 0) && decide (xmH me' = [])
  else if op = 332 then decide (decode (xmB me) pc = .ok (.invokespecial i, 3)) && xw z.toNat (.methodLink (xmO me) i (xmY me')) && decide (xmK me' = 2) && decide (xmH me' = [])
  else if op = 333 then decide (decode (xmB me) pc = .ok (.invokestatic i, 3)) && decide (xNest[z.toNat]? = some (xmO me, i, xmY me', RX5)) && decide (xmK me' = 0) && decide (xmH me' = [])
  else if op = 334 then decide (decode (xmB me) pc = .ok (.invokespecial i, 3)) && decide (xNest[z.toNat]? = some (xmO me, i, xmY me', RX5)) && decide (xmK me' = 2) && decide (xmH me' = [])
  else if op = 335 then decide (decode (xmB me) pc = .ok (.invokestatic i, 3)) && xw z.toNat (.methodLink (xmO me) i (xmY me')) && decide (xmK me' = 0) && decide (xmH me' ≠ [])
  else false
def xthr1 (me : xMe) (pc a b i : Nat) (z : Int) : Bool := match xstr[b]? with
  | none => false
  | some q => decide (a < 4) && decide (xmO me = RX5) && decide (q.1 = RX5) && decide (xmH me = []) && xw z.toNat (.classLink RX5 i (xexn a)) && decide (decode (xmB me) pc = .ok (.new i, 3)) && decide (decode (xmB me) (pc + 3) = .ok (.dup, 1)) &&
    ((decide (decode (xmB me) (pc + 4) = .ok (.ldc q.2.1, 2)) && decide (decode (xmB me) (pc + 6) = .ok (.invokespecial (xexi a), 3)) && decide (decode (xmB me) (pc + 9) = .ok (.athrow, 1))) ||
     (decide (decode (xmB me) (pc + 4) = .ok (.ldc_w q.2.1, 3)) && decide (decode (xmB me) (pc + 7) = .ok (.invokespecial (xexi a), 3)) && decide (decode (xmB me) (pc + 10) = .ok (.athrow, 1))))
def xret1 (me : xMe) (pc a : Nat) : Bool := match a with
  | 0 => decide (decode (xmB me) pc = .ok (.return_, 1)) && decide (xmR me = none)
  | 1 => decide (decode (xmB me) pc = .ok (.ireturn, 1)) && decide (xmR me = some .int)
  | 2 => decide (decode (xmB me) pc = .ok (.ireturn, 1)) && decide (xmR me = some .boolean)
  | 3 => decide (decode (xmB me) pc = .ok (.lreturn, 1)) && decide (xmR me = some .long)
  | 4 => decide (decode (xmB me) pc = .ok (.freturn, 1)) && decide (xmR me = some .float)
  | 5 => decide (decode (xmB me) pc = .ok (.dreturn, 1)) && decide (xmR me = some .double)
  | _ => false
/-- lw: the number of the law, which nobody calls -/
def xchk (tab : List xMe) (lw : Nat) (me : xMe) (pc : Nat) (q : xI) : Bool := match q with
  | (op, a, b, i, z) =>
    if op < 100 then match x1ops[op]? with
      | none => false
      | some q => xdec (xmB me) pc (q.2 a b i z pc)
    else if op < 200 then match x2ops[op - 100]? with
      | none => false
      | some q => xdec (xmB me) pc (q.2 (xmO me) (xmY me).name a b i z pc)
    else if op < 250 then match x3ops[op - 200]? with
      | none => false
      | some q => xdec (xmB me) pc (q.2 (xmO me) (xmY me).name a b i z pc)
    else if op < 300 then match x4ops[op - 250]? with
      | none => false
      | some q => xdec (xmB me) pc (q.2 (xmO me) (xmY me).name a b i z pc)
    else if op = 300 then xret1 me pc a
    else if op = 310 then match (xmS me)[a]? with
      | none => false
      | some q => xswok (xmB me) pc q
    else if op = 320 then xthr1 me pc a b i z
    else if op < 340 then match tab[a]? with
      | none => false
      | some me' => decide (a < lw) && xcall1 me me' pc op b i z && (if xmH me = [] then true else xhok (xmO me) (xmB me) (xmL me) pc (xmH me) (xmC me))
    else true
/-- every instruction that the table tells is the machine's -/
def xcok (tab : List xMe) (lw : Nat) (me : xMe) : Bool := (List.range (xmI me).length).all (fun pc => match (xmI me)[pc]? with
  | none => true
  | some q => xchk tab lw me pc q)
/-- the words of a method that may be called -/
def xmok (me : xMe) (a b c d : Nat) : Bool := decide ((xmY me).cls = xmO me) && (plainFor (xmY me) && (decide (xmH me = []) || plainName (xmO me))) && decide (xmO me ≠ "java/lang/invoke/MethodHandle") && decide (xmO me ≠ "java/lang/invoke/VarHandle") && xw a (.initialized (xmO me)) &&
  (if xmH me = [] then xw b (.code (xmY me) (xmB me) (xmL me) (xmR me)) else xw b (.codeWith (xmY me) (xmB me) (xmL me) (xmR me) (xmH me))) && decide ((parseMethodDescriptor (xmY me).desc).map (fun d => d.parameters.length) = some (xmN me)) &&
  (if xmK me = 0 then xw c (.static (xmY me))
   else if xmK me = 1 then xw c (.instanceMethod (xmY me)) && xw d (.selects (xmO me) (xmY me) (xmY me)) && decide (xmX me < 7) && decide (xcR (xmX me) = xmO me)
   else if xmK me = 2 then xw c (.instanceMethod (xmY me)) && decide ((xmY me).name = "<init>") && decide (xmR me = none)
   else false)
