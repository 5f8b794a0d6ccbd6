/-! THE ABSTRACT INTERPRETER, 1: locals and stack. An instruction is a number of these lists with its operands (a, b, c, z); k1_ says what it does, d1_ which instruction of the machine it is (with a check), k1_.._ok that the machine does it. -/
abbrev xL : Type := List (Option Value)
abbrev xK1 : Type := Nat → Nat → Nat → Int → Nat → xL → List Value → Option (Nat × xL × List Value)
abbrev xD1 : Type := Nat → Nat → Nat → Int → Nat → Instr × Nat × Bool
/-- the locals ls hold what L says of them -/
def xLoc (ls : Array Slot) (nL : Nat) (L : xL) : Prop := L.length = nL ∧ ls.size = nL ∧ lv_wf ls ∧ ∀ (i : Nat) (v : Value), L[i]? = some (some v) → ls[i]? = some (.val v)
def xlv (L : xL) : List (Nat × Value) := (L.zipIdx).filterMap (fun q => q.1.map (fun v => (q.2, v)))
theorem xlv_mem {L : xL} {i : Nat} {v : Value} : (i, v) ∈ xlv L ↔ L[i]? = some (some v) := by
  unfold xlv
  rw [List.mem_filterMap]
  constructor
  · rintro ⟨⟨o, j⟩, h1, h2⟩
    rw [List.mem_zipIdx_iff_getElem?] at h1
    cases o with
    | none => cases h2
    | some w =>
      simp only [Option.map_some, Option.some.injEq, Prod.mk.injEq] at h2
      obtain ⟨rfl, rfl⟩ := h2
      simpa using h1
  · intro h
    exact ⟨(some v, i), by rw [List.mem_zipIdx_iff_getElem?]; simpa using h, rfl⟩
theorem xLoc_has {ls : Array Slot} {nL : Nat} {L : xL} (h : xLoc ls nL L) : lv_has ls nL (xlv L) := ⟨h.2.1, h.2.2.1, fun q hq => h.2.2.2 q.1 q.2 (xlv_mem.mp hq)⟩
/-- what a store at i leaves of the place below: nothing, if that was a long or a double -/
def xcl (L : xL) (i : Nat) : xL := match i with
  | 0 => L
  | j + 1 => match L[j]? with
    | some (some (.long _)) => L.set j none
    | some (some (.double _)) => L.set j none
    | _ => L
def xst1 (L : xL) (i : Nat) (v : Value) : xL := (xcl L i).set i (some v)
def xst2 (L : xL) (i : Nat) (v : Value) : xL := ((xcl L i).set i (some v)).set (i + 1) none
theorem xcl_len (L : xL) (i : Nat) : (xcl L i).length = L.length := by
  unfold xcl
  split
  · rfl
  · split <;> simp
theorem xcl_old {L : xL} {i j : Nat} {v : Value} (h : (xcl L i)[j]? = some (some v)) : L[j]? = some (some v) ∧ ¬ (j + 1 = i ∧ v.category = 2) := by
  unfold xcl at h
  split at h
  · exact ⟨h, fun q => by omega⟩
  · rename_i k
    split at h
    · rename_i w hw
      by_cases e : k = j
      · subst e
        rw [List.getElem?_set_self'] at h
        rw [hw] at h
        simp at h
      · rw [List.getElem?_set_ne e] at h
        exact ⟨h, fun q => e (by omega)⟩
    · rename_i w hw
      by_cases e : k = j
      · subst e
        rw [List.getElem?_set_self'] at h
        rw [hw] at h
        simp at h
      · rw [List.getElem?_set_ne e] at h
        exact ⟨h, fun q => e (by omega)⟩
    · rename_i h1 h2
      refine ⟨h, fun q => ?_⟩
      have e : j = k := by omega
      subst e
      have q2 := q.2
      cases v <;> simp [Value.category] at q2
      · exact h1 _ h
      · exact h2 _ h
theorem xLoc_st1 {ls ls' : Array Slot} {nL : Nat} {L : xL} {i : Nat} {v : Value} (hL : xLoc ls nL L) (hi : i < L.length) (hc : v.category = 1) (h' : lv_has ls' nL ((i, v) :: (xlv L).filter (fun q => !(q.1 == i) && !(q.1 + 1 == i && q.2.category == 2)))) : xLoc ls' nL (xst1 L i v) := by
  refine ⟨by unfold xst1; rw [List.length_set, xcl_len]; exact hL.1, h'.1, h'.2.1, fun j w hj => ?_⟩
  unfold xst1 at hj
  by_cases e : i = j
  · subst e
    rw [List.getElem?_set_self (by rw [xcl_len]; exact hi)] at hj
    simp only [Option.some.injEq] at hj
    subst hj
    exact h'.2.2 (i, v) List.mem_cons_self
  · rw [List.getElem?_set_ne e] at hj
    obtain ⟨h1, h2⟩ := xcl_old hj
    refine h'.2.2 (j, w) (List.mem_cons_of_mem _ (List.mem_filter.mpr ⟨xlv_mem.mpr h1, ?_⟩))
    simp only [Bool.and_eq_true, Bool.not_eq_true', beq_eq_false_iff_ne, ne_eq, Bool.and_eq_false_iff]
    refine ⟨fun q => e q.symm, ?_⟩
    by_cases e2 : j + 1 = i
    · exact Or.inr (fun q => h2 ⟨e2, q⟩)
    · exact Or.inl e2
theorem xLoc_st2 {ls ls' : Array Slot} {nL : Nat} {L : xL} {i : Nat} {v : Value} (hL : xLoc ls nL L) (hi : i + 1 < L.length) (hc : v.category = 2) (h' : lv_has ls' nL ((i, v) :: (xlv L).filter (fun q => !(q.1 == i) && (!(q.1 == i + 1) && !(q.1 + 1 == i && q.2.category == 2))))) : xLoc ls' nL (xst2 L i v) := by
  refine ⟨by unfold xst2; rw [List.length_set, List.length_set, xcl_len]; exact hL.1, h'.1, h'.2.1, fun j w hj => ?_⟩
  unfold xst2 at hj
  by_cases e1 : i + 1 = j
  · subst e1
    rw [List.getElem?_set_self (by rw [List.length_set, xcl_len]; exact hi)] at hj
    simp at hj
  · rw [List.getElem?_set_ne e1] at hj
    by_cases e : i = j
    · subst e
      rw [List.getElem?_set_self (by rw [xcl_len]; omega)] at hj
      simp only [Option.some.injEq] at hj
      subst hj
      exact h'.2.2 (i, v) List.mem_cons_self
    · rw [List.getElem?_set_ne e] at hj
      obtain ⟨h1, h2⟩ := xcl_old hj
      refine h'.2.2 (j, w) (List.mem_cons_of_mem _ (List.mem_filter.mpr ⟨xlv_mem.mpr h1, ?_⟩))
      simp only [Bool.and_eq_true, Bool.not_eq_true', beq_eq_false_iff_ne, ne_eq, Bool.and_eq_false_iff]
      refine ⟨fun q => e q.symm, fun q => e1 q.symm, ?_⟩
      by_cases e2 : j + 1 = i
      · exact Or.inr (fun q => h2 ⟨e2, q⟩)
      · exact Or.inl e2
def xOk1 (k : xK1) (d : xD1) : Prop :=
  ∀ (p : Program) (l : Launch) (e : Env) (R : Room) (s : State) (m : MethodId) (args : Array Value) (below : List Frame) (meth : Method) (c : Code) (H : Heap) (locs : List Loc) (cells slots : Nat) (Q : State → Prop) (cc : ByteArray) (pc : Nat) (ls : Array Slot) (nL a b i : Nat) (z : Int) (L : xL) (st : List Value) (pc' : Nat) (L' : xL) (st' : List Value),
    p.tables.exec = Jvm.exec → c.code = cc → xLoc ls nL L → decode cc pc = .ok ((d a b i z pc).1, (d a b i z pc).2.1) → (d a b i z pc).2.2 = true → k a b i z pc L st = some (pc', L', st') →
    (∀ ls' : Array Slot, xLoc ls' nL L' → W p l e R s m args below meth c H locs cells slots Q (F0 m pc' ls' st')) → W p l e R s m args below meth c H locs cells slots Q (F0 m pc ls st)

def k1_iconst : xK1 := fun a b i z pc L st => some (pc + 1, L, .int (Int32.ofInt z) :: st)
def d1_iconst : xD1 := fun a b i z pc => (.iconst z, 1, true)
theorem k1_iconst_ok : xOk1 k1_iconst d1_iconst := by
  intro p l e R s m args below meth c H locs cells slots Q cc pc ls nL a b i z L st pc' L' st' hx hb hL hdg hsd hk kk
  unfold k1_iconst at hk
  unfold d1_iconst at hdg hsd
  cases hk
  exact lv_iconst hx hb hdg rfl (kk ls hL)
def k1_bipush : xK1 := fun a b i z pc L st => some (pc + 2, L, .int (Int32.ofInt z) :: st)
def d1_bipush : xD1 := fun a b i z pc => (.bipush z, 2, decide ((Int8.ofInt z).toInt32 = Int32.ofInt z))
theorem k1_bipush_ok : xOk1 k1_bipush d1_bipush := by
  intro p l e R s m args below meth c H locs cells slots Q cc pc ls nL a b i z L st pc' L' st' hx hb hL hdg hsd hk kk
  unfold k1_bipush at hk
  unfold d1_bipush at hdg hsd
  cases hk
  exact lv_bipush hx hb hdg (of_decide_eq_true hsd) (kk ls hL)
def k1_sipush : xK1 := fun a b i z pc L st => some (pc + 3, L, .int (Int32.ofInt z) :: st)
def d1_sipush : xD1 := fun a b i z pc => (.sipush z, 3, decide ((Int16.ofInt z).toInt32 = Int32.ofInt z))
theorem k1_sipush_ok : xOk1 k1_sipush d1_sipush := by
  intro p l e R s m args below meth c H locs cells slots Q cc pc ls nL a b i z L st pc' L' st' hx hb hL hdg hsd hk kk
  unfold k1_sipush at hk
  unfold d1_sipush at hdg hsd
  cases hk
  exact lv_sipush hx hb hdg (of_decide_eq_true hsd) (kk ls hL)
def k1_lconst : xK1 := fun a b i z pc L st => some (pc + 1, L, .long (Int64.ofInt z) :: st)
def d1_lconst : xD1 := fun a b i z pc => (.lconst (Fin.ofNat 2 a), 1, decide (Int64.ofNat (Fin.ofNat 2 a : Nat) = Int64.ofInt z))
theorem k1_lconst_ok : xOk1 k1_lconst d1_lconst := by
  intro p l e R s m args below meth c H locs cells slots Q cc pc ls nL a b i z L st pc' L' st' hx hb hL hdg hsd hk kk
  unfold k1_lconst at hk
  unfold d1_lconst at hdg hsd
  cases hk
  exact lv_lconst hx hb hdg (of_decide_eq_true hsd) (kk ls hL)
def k1_dconst0 : xK1 := fun a b i z pc L st => some (pc + 1, L, .double FP.dconst0 :: st)
def d1_dconst0 : xD1 := fun a b i z pc => (.dconst 0, 1, true)
theorem k1_dconst0_ok : xOk1 k1_dconst0 d1_dconst0 := by
  intro p l e R s m args below meth c H locs cells slots Q cc pc ls nL a b i z L st pc' L' st' hx hb hL hdg hsd hk kk
  unfold k1_dconst0 at hk
  unfold d1_dconst0 at hdg hsd
  cases hk
  exact lv_dconst0 hx hb hdg (kk ls hL)
def k1_dconst1 : xK1 := fun a b i z pc L st => some (pc + 1, L, .double FP.dconst1 :: st)
def d1_dconst1 : xD1 := fun a b i z pc => (.dconst 1, 1, true)
theorem k1_dconst1_ok : xOk1 k1_dconst1 d1_dconst1 := by
  intro p l e R s m args below meth c H locs cells slots Q cc pc ls nL a b i z L st pc' L' st' hx hb hL hdg hsd hk kk
  unfold k1_dconst1 at hk
  unfold d1_dconst1 at hdg hsd
  cases hk
  exact lv_dconst1 hx hb hdg (kk ls hL)
def k1_fconst0 : xK1 := fun a b i z pc L st => some (pc + 1, L, .float FP.fconst0 :: st)
def d1_fconst0 : xD1 := fun a b i z pc => (.fconst 0, 1, true)
theorem k1_fconst0_ok : xOk1 k1_fconst0 d1_fconst0 := by
  intro p l e R s m args below meth c H locs cells slots Q cc pc ls nL a b i z L st pc' L' st' hx hb hL hdg hsd hk kk
  unfold k1_fconst0 at hk
  unfold d1_fconst0 at hdg hsd
  cases hk
  exact lv_fconst0 hx hb hdg (kk ls hL)
def k1_fconst1 : xK1 := fun a b i z pc L st => some (pc + 1, L, .float FP.fconst1 :: st)
def d1_fconst1 : xD1 := fun a b i z pc => (.fconst 1, 1, true)
theorem k1_fconst1_ok : xOk1 k1_fconst1 d1_fconst1 := by
  intro p l e R s m args below meth c H locs cells slots Q cc pc ls nL a b i z L st pc' L' st' hx hb hL hdg hsd hk kk
  unfold k1_fconst1 at hk
  unfold d1_fconst1 at hdg hsd
  cases hk
  exact lv_fconst1 hx hb hdg (kk ls hL)
def k1_iload : xK1 := fun a b i z pc L st => match L[a]? with
  | some (some (.int v)) => some (pc + b, L, .int v :: st)
  | _ => none
def d1_iload : xD1 := fun a b i z pc => if b = 1 then (.iload_n (Fin.ofNat 4 a), 1, decide (a < 4)) else (.iload a, 2, decide (b = 2))
theorem k1_iload_ok : xOk1 k1_iload d1_iload := by
  intro p l e R s m args below meth c H locs cells slots Q cc pc ls nL a b i z L st pc' L' st' hx hb hL hdg hsd hk kk
  unfold k1_iload at hk
  unfold d1_iload at hdg hsd
  split at hk
  · rename_i v hv
    cases hk
    have hl := hL.2.2.2 a _ hv
    by_cases h1 : b = 1
    · simp only [h1, if_true] at hdg hsd ⊢
      subst h1
      exact lv_iload_n hx hb hdg (Nat.mod_eq_of_lt (of_decide_eq_true hsd)) hl (kk ls hL)
    · simp only [h1, if_false] at hdg hsd
      have h2 : b = 2 := of_decide_eq_true hsd
      subst h2
      exact lv_iload hx hb hdg hl (kk ls hL)
  · cases hk
def k1_lload : xK1 := fun a b i z pc L st => match L[a]? with
  | some (some (.long v)) => some (pc + b, L, .long v :: st)
  | _ => none
def d1_lload : xD1 := fun a b i z pc => if b = 1 then (.lload_n (Fin.ofNat 4 a), 1, decide (a < 4)) else (.lload a, 2, decide (b = 2))
theorem k1_lload_ok : xOk1 k1_lload d1_lload := by
  intro p l e R s m args below meth c H locs cells slots Q cc pc ls nL a b i z L st pc' L' st' hx hb hL hdg hsd hk kk
  unfold k1_lload at hk
  unfold d1_lload at hdg hsd
  split at hk
  · rename_i v hv
    cases hk
    have hl := hL.2.2.2 a _ hv
    by_cases h1 : b = 1
    · simp only [h1, if_true] at hdg hsd ⊢
      subst h1
      exact lv_lload_n hx hb hdg (Nat.mod_eq_of_lt (of_decide_eq_true hsd)) hl (kk ls hL)
    · simp only [h1, if_false] at hdg hsd
      have h2 : b = 2 := of_decide_eq_true hsd
      subst h2
      exact lv_lload hx hb hdg hl (kk ls hL)
  · cases hk
def k1_aload : xK1 := fun a b i z pc L st => match L[a]? with
  | some (some (.ref v)) => some (pc + b, L, .ref v :: st)
  | _ => none
def d1_aload : xD1 := fun a b i z pc => if b = 1 then (.aload_n (Fin.ofNat 4 a), 1, decide (a < 4)) else (.aload a, 2, decide (b = 2))
theorem k1_aload_ok : xOk1 k1_aload d1_aload := by
  intro p l e R s m args below meth c H locs cells slots Q cc pc ls nL a b i z L st pc' L' st' hx hb hL hdg hsd hk kk
  unfold k1_aload at hk
  unfold d1_aload at hdg hsd
  split at hk
  · rename_i v hv
    cases hk
    have hl := hL.2.2.2 a _ hv
    by_cases h1 : b = 1
    · simp only [h1, if_true] at hdg hsd ⊢
      subst h1
      exact lv_aload_n hx hb hdg (Nat.mod_eq_of_lt (of_decide_eq_true hsd)) hl (kk ls hL)
    · simp only [h1, if_false] at hdg hsd
      have h2 : b = 2 := of_decide_eq_true hsd
      subst h2
      exact lv_aload hx hb hdg hl (kk ls hL)
  · cases hk
def k1_dload : xK1 := fun a b i z pc L st => match L[a]? with
  | some (some (.double v)) => some (pc + b, L, .double v :: st)
  | _ => none
def d1_dload : xD1 := fun a b i z pc => if b = 1 then (.dload_n (Fin.ofNat 4 a), 1, decide (a < 4)) else (.dload a, 2, decide (b = 2))
theorem k1_dload_ok : xOk1 k1_dload d1_dload := by
  intro p l e R s m args below meth c H locs cells slots Q cc pc ls nL a b i z L st pc' L' st' hx hb hL hdg hsd hk kk
  unfold k1_dload at hk
  unfold d1_dload at hdg hsd
  split at hk
  · rename_i v hv
    cases hk
    have hl := hL.2.2.2 a _ hv
    by_cases h1 : b = 1
    · simp only [h1, if_true] at hdg hsd ⊢
      subst h1
      exact lv_dload_n hx hb hdg (Nat.mod_eq_of_lt (of_decide_eq_true hsd)) hl (kk ls hL)
    · simp only [h1, if_false] at hdg hsd
      have h2 : b = 2 := of_decide_eq_true hsd
      subst h2
      exact lv_dload hx hb hdg hl (kk ls hL)
  · cases hk
def k1_fload : xK1 := fun a b i z pc L st => match L[a]? with
  | some (some (.float v)) => some (pc + b, L, .float v :: st)
  | _ => none
def d1_fload : xD1 := fun a b i z pc => if b = 1 then (.fload_n (Fin.ofNat 4 a), 1, decide (a < 4)) else (.fload a, 2, decide (b = 2))
theorem k1_fload_ok : xOk1 k1_fload d1_fload := by
  intro p l e R s m args below meth c H locs cells slots Q cc pc ls nL a b i z L st pc' L' st' hx hb hL hdg hsd hk kk
  unfold k1_fload at hk
  unfold d1_fload at hdg hsd
  split at hk
  · rename_i v hv
    cases hk
    have hl := hL.2.2.2 a _ hv
    by_cases h1 : b = 1
    · simp only [h1, if_true] at hdg hsd ⊢
      subst h1
      exact lv_fload_n hx hb hdg (Nat.mod_eq_of_lt (of_decide_eq_true hsd)) hl (kk ls hL)
    · simp only [h1, if_false] at hdg hsd
      have h2 : b = 2 := of_decide_eq_true hsd
      subst h2
      exact lv_fload hx hb hdg hl (kk ls hL)
  · cases hk
def k1_istore : xK1 := fun a b i z pc L st => match st with
  | .int v :: r => if a < L.length then some (pc + b, xst1 L a (.int v), r) else none
  | _ => none
def d1_istore : xD1 := fun a b i z pc => if b = 1 then (.istore_n (Fin.ofNat 4 a), 1, decide (a < 4)) else (.istore a, 2, decide (b = 2))
theorem k1_istore_ok : xOk1 k1_istore d1_istore := by
  intro p l e R s m args below meth c H locs cells slots Q cc pc ls nL a b i z L st pc' L' st' hx hb hL hdg hsd hk kk
  unfold k1_istore at hk
  unfold d1_istore at hdg hsd
  split at hk
  · rename_i v r
    split at hk
    · rename_i hlt
      cases hk
      have hn := hlt
      rw [hL.1] at hn
      by_cases h1 : b = 1
      · simp only [h1, if_true] at hdg hsd ⊢
        subst h1
        exact lv_istore_n hx hb hdg (Nat.mod_eq_of_lt (of_decide_eq_true hsd)) (xLoc_has hL) hn rfl (fun ls' h' => kk ls' (xLoc_st1 hL hlt rfl h'))
      · simp only [h1, if_false] at hdg hsd
        have h2 : b = 2 := of_decide_eq_true hsd
        subst h2
        exact lv_istore hx hb hdg (xLoc_has hL) hn rfl (fun ls' h' => kk ls' (xLoc_st1 hL hlt rfl h'))
    · cases hk
  · cases hk
def k1_lstore : xK1 := fun a b i z pc L st => match st with
  | .long v :: r => if a + 1 < L.length then some (pc + b, xst2 L a (.long v), r) else none
  | _ => none
def d1_lstore : xD1 := fun a b i z pc => if b = 1 then (.lstore_n (Fin.ofNat 4 a), 1, decide (a < 4)) else (.lstore a, 2, decide (b = 2))
theorem k1_lstore_ok : xOk1 k1_lstore d1_lstore := by
  intro p l e R s m args below meth c H locs cells slots Q cc pc ls nL a b i z L st pc' L' st' hx hb hL hdg hsd hk kk
  unfold k1_lstore at hk
  unfold d1_lstore at hdg hsd
  split at hk
  · rename_i v r
    split at hk
    · rename_i hlt
      cases hk
      have hn := hlt
      rw [hL.1] at hn
      by_cases h1 : b = 1
      · simp only [h1, if_true] at hdg hsd ⊢
        subst h1
        exact lv_lstore_n hx hb hdg (Nat.mod_eq_of_lt (of_decide_eq_true hsd)) (xLoc_has hL) hn rfl (fun ls' h' => kk ls' (xLoc_st2 hL hlt rfl h'))
      · simp only [h1, if_false] at hdg hsd
        have h2 : b = 2 := of_decide_eq_true hsd
        subst h2
        exact lv_lstore hx hb hdg (xLoc_has hL) hn rfl (fun ls' h' => kk ls' (xLoc_st2 hL hlt rfl h'))
    · cases hk
  · cases hk
def k1_astore : xK1 := fun a b i z pc L st => match st with
  | .ref v :: r => if a < L.length then some (pc + b, xst1 L a (.ref v), r) else none
  | _ => none
def d1_astore : xD1 := fun a b i z pc => if b = 1 then (.astore_n (Fin.ofNat 4 a), 1, decide (a < 4)) else (.astore a, 2, decide (b = 2))
theorem k1_astore_ok : xOk1 k1_astore d1_astore := by
  intro p l e R s m args below meth c H locs cells slots Q cc pc ls nL a b i z L st pc' L' st' hx hb hL hdg hsd hk kk
  unfold k1_astore at hk
  unfold d1_astore at hdg hsd
  split at hk
  · rename_i v r
    split at hk
    · rename_i hlt
      cases hk
      have hn := hlt
      rw [hL.1] at hn
      by_cases h1 : b = 1
      · simp only [h1, if_true] at hdg hsd ⊢
        subst h1
        exact lv_astore_n hx hb hdg (Nat.mod_eq_of_lt (of_decide_eq_true hsd)) (xLoc_has hL) hn rfl (fun ls' h' => kk ls' (xLoc_st1 hL hlt rfl h'))
      · simp only [h1, if_false] at hdg hsd
        have h2 : b = 2 := of_decide_eq_true hsd
        subst h2
        exact lv_astore hx hb hdg (xLoc_has hL) hn rfl (fun ls' h' => kk ls' (xLoc_st1 hL hlt rfl h'))
    · cases hk
  · cases hk
def k1_dstore : xK1 := fun a b i z pc L st => match st with
  | .double v :: r => if a + 1 < L.length then some (pc + b, xst2 L a (.double v), r) else none
  | _ => none
def d1_dstore : xD1 := fun a b i z pc => if b = 1 then (.dstore_n (Fin.ofNat 4 a), 1, decide (a < 4)) else (.dstore a, 2, decide (b = 2))
theorem k1_dstore_ok : xOk1 k1_dstore d1_dstore := by
  intro p l e R s m args below meth c H locs cells slots Q cc pc ls nL a b i z L st pc' L' st' hx hb hL hdg hsd hk kk
  unfold k1_dstore at hk
  unfold d1_dstore at hdg hsd
  split at hk
  · rename_i v r
    split at hk
    · rename_i hlt
      cases hk
      have hn := hlt
      rw [hL.1] at hn
      by_cases h1 : b = 1
      · simp only [h1, if_true] at hdg hsd ⊢
        subst h1
        exact lv_dstore_n hx hb hdg (Nat.mod_eq_of_lt (of_decide_eq_true hsd)) (xLoc_has hL) hn rfl (fun ls' h' => kk ls' (xLoc_st2 hL hlt rfl h'))
      · simp only [h1, if_false] at hdg hsd
        have h2 : b = 2 := of_decide_eq_true hsd
        subst h2
        exact lv_dstore hx hb hdg (xLoc_has hL) hn rfl (fun ls' h' => kk ls' (xLoc_st2 hL hlt rfl h'))
    · cases hk
  · cases hk
def k1_fstore : xK1 := fun a b i z pc L st => match st with
  | .float v :: r => if a < L.length then some (pc + b, xst1 L a (.float v), r) else none
  | _ => none
def d1_fstore : xD1 := fun a b i z pc => if b = 1 then (.fstore_n (Fin.ofNat 4 a), 1, decide (a < 4)) else (.fstore a, 2, decide (b = 2))
theorem k1_fstore_ok : xOk1 k1_fstore d1_fstore := by
  intro p l e R s m args below meth c H locs cells slots Q cc pc ls nL a b i z L st pc' L' st' hx hb hL hdg hsd hk kk
  unfold k1_fstore at hk
  unfold d1_fstore at hdg hsd
  split at hk
  · rename_i v r
    split at hk
    · rename_i hlt
      cases hk
      have hn := hlt
      rw [hL.1] at hn
      by_cases h1 : b = 1
      · simp only [h1, if_true] at hdg hsd ⊢
        subst h1
        exact lv_fstore_n hx hb hdg (Nat.mod_eq_of_lt (of_decide_eq_true hsd)) (xLoc_has hL) hn rfl (fun ls' h' => kk ls' (xLoc_st1 hL hlt rfl h'))
      · simp only [h1, if_false] at hdg hsd
        have h2 : b = 2 := of_decide_eq_true hsd
        subst h2
        exact lv_fstore hx hb hdg (xLoc_has hL) hn rfl (fun ls' h' => kk ls' (xLoc_st1 hL hlt rfl h'))
    · cases hk
  · cases hk
def k1_iinc : xK1 := fun a b i z pc L st => match L[a]? with
  | some (some (.int v)) => if a < L.length then some (pc + 3, xst1 L a (.int (v + Int32.ofInt z)), st) else none
  | _ => none
def d1_iinc : xD1 := fun a b i z pc => (.iinc a z, 3, true)
theorem k1_iinc_ok : xOk1 k1_iinc d1_iinc := by
  intro p l e R s m args below meth c H locs cells slots Q cc pc ls nL a b i z L st pc' L' st' hx hb hL hdg hsd hk kk
  unfold k1_iinc at hk
  unfold d1_iinc at hdg hsd
  split at hk
  · rename_i v hv
    split at hk
    · rename_i hlt
      cases hk
      have hn := hlt
      rw [hL.1] at hn
      obtain ⟨k, hk2⟩ := List.getElem?_of_mem (xlv_mem.mpr hv)
      exact lv_iinc hx hb hdg (xLoc_has hL) hk2 rfl hn rfl (fun ls' h' => kk ls' (xLoc_st1 hL hlt rfl h'))
    · cases hk
  · cases hk
def k1_iadd : xK1 := fun a b i z pc L st => match st with
  | .int y :: .int x :: r => some (pc + 1, L, .int (x + y) :: r)
  | _ => none
def d1_iadd : xD1 := fun a b i z pc => (.iadd, 1, true)
theorem k1_iadd_ok : xOk1 k1_iadd d1_iadd := by
  intro p l e R s m args below meth c H locs cells slots Q cc pc ls nL a b i z L st pc' L' st' hx hb hL hdg hsd hk kk
  unfold k1_iadd at hk
  unfold d1_iadd at hdg hsd
  split at hk
  · cases hk
    exact lv_iadd hx hb hdg (kk ls hL)
  · cases hk
def k1_isub : xK1 := fun a b i z pc L st => match st with
  | .int y :: .int x :: r => some (pc + 1, L, .int (x - y) :: r)
  | _ => none
def d1_isub : xD1 := fun a b i z pc => (.isub, 1, true)
theorem k1_isub_ok : xOk1 k1_isub d1_isub := by
  intro p l e R s m args below meth c H locs cells slots Q cc pc ls nL a b i z L st pc' L' st' hx hb hL hdg hsd hk kk
  unfold k1_isub at hk
  unfold d1_isub at hdg hsd
  split at hk
  · cases hk
    exact lv_isub hx hb hdg (kk ls hL)
  · cases hk
def k1_imul : xK1 := fun a b i z pc L st => match st with
  | .int y :: .int x :: r => some (pc + 1, L, .int (x * y) :: r)
  | _ => none
def d1_imul : xD1 := fun a b i z pc => (.imul, 1, true)
theorem k1_imul_ok : xOk1 k1_imul d1_imul := by
  intro p l e R s m args below meth c H locs cells slots Q cc pc ls nL a b i z L st pc' L' st' hx hb hL hdg hsd hk kk
  unfold k1_imul at hk
  unfold d1_imul at hdg hsd
  split at hk
  · cases hk
    exact lv_imul hx hb hdg (kk ls hL)
  · cases hk
def k1_iand : xK1 := fun a b i z pc L st => match st with
  | .int y :: .int x :: r => some (pc + 1, L, .int (x &&& y) :: r)
  | _ => none
def d1_iand : xD1 := fun a b i z pc => (.iand, 1, true)
theorem k1_iand_ok : xOk1 k1_iand d1_iand := by
  intro p l e R s m args below meth c H locs cells slots Q cc pc ls nL a b i z L st pc' L' st' hx hb hL hdg hsd hk kk
  unfold k1_iand at hk
  unfold d1_iand at hdg hsd
  split at hk
  · cases hk
    exact lv_iand hx hb hdg (kk ls hL)
  · cases hk
def k1_ixor : xK1 := fun a b i z pc L st => match st with
  | .int y :: .int x :: r => some (pc + 1, L, .int (x ^^^ y) :: r)
  | _ => none
def d1_ixor : xD1 := fun a b i z pc => (.ixor, 1, true)
theorem k1_ixor_ok : xOk1 k1_ixor d1_ixor := by
  intro p l e R s m args below meth c H locs cells slots Q cc pc ls nL a b i z L st pc' L' st' hx hb hL hdg hsd hk kk
  unfold k1_ixor at hk
  unfold d1_ixor at hdg hsd
  split at hk
  · cases hk
    exact lv_ixor hx hb hdg (kk ls hL)
  · cases hk
def k1_ishr : xK1 := fun a b i z pc L st => match st with
  | .int y :: .int x :: r => some (pc + 1, L, .int (x >>> (y &&& 31)) :: r)
  | _ => none
def d1_ishr : xD1 := fun a b i z pc => (.ishr, 1, true)
theorem k1_ishr_ok : xOk1 k1_ishr d1_ishr := by
  intro p l e R s m args below meth c H locs cells slots Q cc pc ls nL a b i z L st pc' L' st' hx hb hL hdg hsd hk kk
  unfold k1_ishr at hk
  unfold d1_ishr at hdg hsd
  split at hk
  · cases hk
    exact lv_ishr hx hb hdg (kk ls hL)
  · cases hk
def k1_ladd : xK1 := fun a b i z pc L st => match st with
  | .long y :: .long x :: r => some (pc + 1, L, .long (x + y) :: r)
  | _ => none
def d1_ladd : xD1 := fun a b i z pc => (.ladd, 1, true)
theorem k1_ladd_ok : xOk1 k1_ladd d1_ladd := by
  intro p l e R s m args below meth c H locs cells slots Q cc pc ls nL a b i z L st pc' L' st' hx hb hL hdg hsd hk kk
  unfold k1_ladd at hk
  unfold d1_ladd at hdg hsd
  split at hk
  · cases hk
    exact lv_ladd hx hb hdg (kk ls hL)
  · cases hk
def k1_lsub : xK1 := fun a b i z pc L st => match st with
  | .long y :: .long x :: r => some (pc + 1, L, .long (x - y) :: r)
  | _ => none
def d1_lsub : xD1 := fun a b i z pc => (.lsub, 1, true)
theorem k1_lsub_ok : xOk1 k1_lsub d1_lsub := by
  intro p l e R s m args below meth c H locs cells slots Q cc pc ls nL a b i z L st pc' L' st' hx hb hL hdg hsd hk kk
  unfold k1_lsub at hk
  unfold d1_lsub at hdg hsd
  split at hk
  · cases hk
    exact lv_lsub hx hb hdg (kk ls hL)
  · cases hk
def k1_lmul : xK1 := fun a b i z pc L st => match st with
  | .long y :: .long x :: r => some (pc + 1, L, .long (x * y) :: r)
  | _ => none
def d1_lmul : xD1 := fun a b i z pc => (.lmul, 1, true)
theorem k1_lmul_ok : xOk1 k1_lmul d1_lmul := by
  intro p l e R s m args below meth c H locs cells slots Q cc pc ls nL a b i z L st pc' L' st' hx hb hL hdg hsd hk kk
  unfold k1_lmul at hk
  unfold d1_lmul at hdg hsd
  split at hk
  · cases hk
    exact lv_lmul hx hb hdg (kk ls hL)
  · cases hk
def k1_land : xK1 := fun a b i z pc L st => match st with
  | .long y :: .long x :: r => some (pc + 1, L, .long (x &&& y) :: r)
  | _ => none
def d1_land : xD1 := fun a b i z pc => (.land, 1, true)
theorem k1_land_ok : xOk1 k1_land d1_land := by
  intro p l e R s m args below meth c H locs cells slots Q cc pc ls nL a b i z L st pc' L' st' hx hb hL hdg hsd hk kk
  unfold k1_land at hk
  unfold d1_land at hdg hsd
  split at hk
  · cases hk
    exact lv_land hx hb hdg (kk ls hL)
  · cases hk
def k1_lor : xK1 := fun a b i z pc L st => match st with
  | .long y :: .long x :: r => some (pc + 1, L, .long (x ||| y) :: r)
  | _ => none
def d1_lor : xD1 := fun a b i z pc => (.lor, 1, true)
theorem k1_lor_ok : xOk1 k1_lor d1_lor := by
  intro p l e R s m args below meth c H locs cells slots Q cc pc ls nL a b i z L st pc' L' st' hx hb hL hdg hsd hk kk
  unfold k1_lor at hk
  unfold d1_lor at hdg hsd
  split at hk
  · cases hk
    exact lv_lor hx hb hdg (kk ls hL)
  · cases hk
def k1_lcmp : xK1 := fun a b i z pc L st => match st with
  | .long y :: .long x :: r => some (pc + 1, L, .int (lg_cmp x y) :: r)
  | _ => none
def d1_lcmp : xD1 := fun a b i z pc => (.lcmp, 1, true)
theorem k1_lcmp_ok : xOk1 k1_lcmp d1_lcmp := by
  intro p l e R s m args below meth c H locs cells slots Q cc pc ls nL a b i z L st pc' L' st' hx hb hL hdg hsd hk kk
  unfold k1_lcmp at hk
  unfold d1_lcmp at hdg hsd
  split at hk
  · cases hk
    exact W.lcmp hx hb hdg (kk ls hL)
  · cases hk
def k1_lshl : xK1 := fun a b i z pc L st => match st with
  | .int y :: .long x :: r => some (pc + 1, L, .long (x <<< (y.toInt64 &&& 63)) :: r)
  | _ => none
def d1_lshl : xD1 := fun a b i z pc => (.lshl, 1, true)
theorem k1_lshl_ok : xOk1 k1_lshl d1_lshl := by
  intro p l e R s m args below meth c H locs cells slots Q cc pc ls nL a b i z L st pc' L' st' hx hb hL hdg hsd hk kk
  unfold k1_lshl at hk
  unfold d1_lshl at hdg hsd
  split at hk
  · cases hk
    exact lv_lshl hx hb hdg rfl (kk ls hL)
  · cases hk
def k1_lshr : xK1 := fun a b i z pc L st => match st with
  | .int y :: .long x :: r => some (pc + 1, L, .long (x >>> (y.toInt64 &&& 63)) :: r)
  | _ => none
def d1_lshr : xD1 := fun a b i z pc => (.lshr, 1, true)
theorem k1_lshr_ok : xOk1 k1_lshr d1_lshr := by
  intro p l e R s m args below meth c H locs cells slots Q cc pc ls nL a b i z L st pc' L' st' hx hb hL hdg hsd hk kk
  unfold k1_lshr at hk
  unfold d1_lshr at hdg hsd
  split at hk
  · cases hk
    exact lv_lshr hx hb hdg rfl (kk ls hL)
  · cases hk
def k1_idiv : xK1 := fun a b i z pc L st => match st with
  | .int y :: .int x :: r => if h : ¬ y = 0 then some (pc + 1, L, .int (x / y) :: r) else none
  | _ => none
def d1_idiv : xD1 := fun a b i z pc => (.idiv, 1, true)
theorem k1_idiv_ok : xOk1 k1_idiv d1_idiv := by
  intro p l e R s m args below meth c H locs cells slots Q cc pc ls nL a b i z L st pc' L' st' hx hb hL hdg hsd hk kk
  unfold k1_idiv at hk
  unfold d1_idiv at hdg hsd
  split at hk
  · split at hk
    · rename_i hc
      cases hk
      exact lv_idiv hx hb hdg hc (kk ls hL)
    · cases hk
  · cases hk
def k1_irem : xK1 := fun a b i z pc L st => match st with
  | .int y :: .int x :: r => if h : ¬ y = 0 then some (pc + 1, L, .int (x - x / y * y) :: r) else none
  | _ => none
def d1_irem : xD1 := fun a b i z pc => (.irem, 1, true)
theorem k1_irem_ok : xOk1 k1_irem d1_irem := by
  intro p l e R s m args below meth c H locs cells slots Q cc pc ls nL a b i z L st pc' L' st' hx hb hL hdg hsd hk kk
  unfold k1_irem at hk
  unfold d1_irem at hdg hsd
  split at hk
  · split at hk
    · rename_i hc
      cases hk
      exact lv_irem hx hb hdg hc (kk ls hL)
    · cases hk
  · cases hk
def k1_ldiv : xK1 := fun a b i z pc L st => match st with
  | .long y :: .long x :: r => if h : ¬ y = 0 then some (pc + 1, L, .long (x / y) :: r) else none
  | _ => none
def d1_ldiv : xD1 := fun a b i z pc => (.ldiv, 1, true)
theorem k1_ldiv_ok : xOk1 k1_ldiv d1_ldiv := by
  intro p l e R s m args below meth c H locs cells slots Q cc pc ls nL a b i z L st pc' L' st' hx hb hL hdg hsd hk kk
  unfold k1_ldiv at hk
  unfold d1_ldiv at hdg hsd
  split at hk
  · split at hk
    · rename_i hc
      cases hk
      exact lv_ldiv hx hb hdg hc (kk ls hL)
    · cases hk
  · cases hk
def k1_lrem : xK1 := fun a b i z pc L st => match st with
  | .long y :: .long x :: r => if h : ¬ y = 0 then some (pc + 1, L, .long (x - x / y * y) :: r) else none
  | _ => none
def d1_lrem : xD1 := fun a b i z pc => (.lrem, 1, true)
theorem k1_lrem_ok : xOk1 k1_lrem d1_lrem := by
  intro p l e R s m args below meth c H locs cells slots Q cc pc ls nL a b i z L st pc' L' st' hx hb hL hdg hsd hk kk
  unfold k1_lrem at hk
  unfold d1_lrem at hdg hsd
  split at hk
  · split at hk
    · rename_i hc
      cases hk
      exact lv_lrem hx hb hdg hc (kk ls hL)
    · cases hk
  · cases hk
def k1_fdiv : xK1 := fun a b i z pc L st => match st with
  | .float y :: .float x :: r => if h : FP.fdiv x y &&& 0x7fffffff ≤ 0x7f800000 then some (pc + 1, L, .float (FP.fdiv x y) :: r) else none
  | _ => none
def d1_fdiv : xD1 := fun a b i z pc => (.fdiv, 1, true)
theorem k1_fdiv_ok : xOk1 k1_fdiv d1_fdiv := by
  intro p l e R s m args below meth c H locs cells slots Q cc pc ls nL a b i z L st pc' L' st' hx hb hL hdg hsd hk kk
  unfold k1_fdiv at hk
  unfold d1_fdiv at hdg hsd
  split at hk
  · split at hk
    · rename_i hc
      cases hk
      exact lv_fdiv hx hb hdg hc (kk ls hL)
    · cases hk
  · cases hk
def k1_ddiv : xK1 := fun a b i z pc L st => match st with
  | .double y :: .double x :: r => if h : FP.ddiv x y &&& 0x7fffffffffffffff ≤ 0x7ff0000000000000 then some (pc + 1, L, .double (FP.ddiv x y) :: r) else none
  | _ => none
def d1_ddiv : xD1 := fun a b i z pc => (.ddiv, 1, true)
theorem k1_ddiv_ok : xOk1 k1_ddiv d1_ddiv := by
  intro p l e R s m args below meth c H locs cells slots Q cc pc ls nL a b i z L st pc' L' st' hx hb hL hdg hsd hk kk
  unfold k1_ddiv at hk
  unfold d1_ddiv at hdg hsd
  split at hk
  · split at hk
    · rename_i hc
      cases hk
      exact lv_ddiv hx hb hdg hc (kk ls hL)
    · cases hk
  · cases hk
def k1_f2d : xK1 := fun a b i z pc L st => match st with
  | .float x :: r => if h : FP.f2d x &&& 0x7fffffffffffffff ≤ 0x7ff0000000000000 then some (pc + 1, L, .double (FP.f2d x) :: r) else none
  | _ => none
def d1_f2d : xD1 := fun a b i z pc => (.f2d, 1, true)
theorem k1_f2d_ok : xOk1 k1_f2d d1_f2d := by
  intro p l e R s m args below meth c H locs cells slots Q cc pc ls nL a b i z L st pc' L' st' hx hb hL hdg hsd hk kk
  unfold k1_f2d at hk
  unfold d1_f2d at hdg hsd
  split at hk
  · split at hk
    · rename_i hc
      cases hk
      exact lv_f2d hx hb hdg hc (kk ls hL)
    · cases hk
  · cases hk
def k1_i2l : xK1 := fun a b i z pc L st => match st with
  | .int x :: r => some (pc + 1, L, .long x.toInt64 :: r)
  | _ => none
def d1_i2l : xD1 := fun a b i z pc => (.i2l, 1, true)
theorem k1_i2l_ok : xOk1 k1_i2l d1_i2l := by
  intro p l e R s m args below meth c H locs cells slots Q cc pc ls nL a b i z L st pc' L' st' hx hb hL hdg hsd hk kk
  unfold k1_i2l at hk
  unfold d1_i2l at hdg hsd
  split at hk
  · cases hk
    exact lv_i2l hx hb hdg rfl (kk ls hL)
  · cases hk
def k1_l2i : xK1 := fun a b i z pc L st => match st with
  | .long x :: r => some (pc + 1, L, .int x.toInt32 :: r)
  | _ => none
def d1_l2i : xD1 := fun a b i z pc => (.l2i, 1, true)
theorem k1_l2i_ok : xOk1 k1_l2i d1_l2i := by
  intro p l e R s m args below meth c H locs cells slots Q cc pc ls nL a b i z L st pc' L' st' hx hb hL hdg hsd hk kk
  unfold k1_l2i at hk
  unfold d1_l2i at hdg hsd
  split at hk
  · cases hk
    exact lv_l2i hx hb hdg rfl (kk ls hL)
  · cases hk
def k1_i2b : xK1 := fun a b i z pc L st => match st with
  | .int x :: r => some (pc + 1, L, .int x.toInt8.toInt32 :: r)
  | _ => none
def d1_i2b : xD1 := fun a b i z pc => (.i2b, 1, true)
theorem k1_i2b_ok : xOk1 k1_i2b d1_i2b := by
  intro p l e R s m args below meth c H locs cells slots Q cc pc ls nL a b i z L st pc' L' st' hx hb hL hdg hsd hk kk
  unfold k1_i2b at hk
  unfold d1_i2b at hdg hsd
  split at hk
  · cases hk
    exact lv_i2b hx hb hdg rfl (kk ls hL)
  · cases hk
def k1_l2d : xK1 := fun a b i z pc L st => match st with
  | .long x :: r => some (pc + 1, L, .double (FP.l2d x) :: r)
  | _ => none
def d1_l2d : xD1 := fun a b i z pc => (.l2d, 1, true)
theorem k1_l2d_ok : xOk1 k1_l2d d1_l2d := by
  intro p l e R s m args below meth c H locs cells slots Q cc pc ls nL a b i z L st pc' L' st' hx hb hL hdg hsd hk kk
  unfold k1_l2d at hk
  unfold d1_l2d at hdg hsd
  split at hk
  · cases hk
    exact lv_l2d hx hb hdg (kk ls hL)
  · cases hk
def k1_l2f : xK1 := fun a b i z pc L st => match st with
  | .long x :: r => some (pc + 1, L, .float (FP.l2f x) :: r)
  | _ => none
def d1_l2f : xD1 := fun a b i z pc => (.l2f, 1, true)
theorem k1_l2f_ok : xOk1 k1_l2f d1_l2f := by
  intro p l e R s m args below meth c H locs cells slots Q cc pc ls nL a b i z L st pc' L' st' hx hb hL hdg hsd hk kk
  unfold k1_l2f at hk
  unfold d1_l2f at hdg hsd
  split at hk
  · cases hk
    exact lv_l2f hx hb hdg (kk ls hL)
  · cases hk
def k1_dcmpl : xK1 := fun a b i z pc L st => match st with
  | .double y :: .double x :: r => some (pc + 1, L, .int (Op.cmpValue (FP.dcmp x y) .l) :: r)
  | _ => none
def d1_dcmpl : xD1 := fun a b i z pc => (.dcmp .l, 1, true)
theorem k1_dcmpl_ok : xOk1 k1_dcmpl d1_dcmpl := by
  intro p l e R s m args below meth c H locs cells slots Q cc pc ls nL a b i z L st pc' L' st' hx hb hL hdg hsd hk kk
  unfold k1_dcmpl at hk
  unfold d1_dcmpl at hdg hsd
  split at hk
  · cases hk
    exact lv_dcmp hx hb hdg (kk ls hL)
  · cases hk
def k1_dcmpg : xK1 := fun a b i z pc L st => match st with
  | .double y :: .double x :: r => some (pc + 1, L, .int (Op.cmpValue (FP.dcmp x y) .g) :: r)
  | _ => none
def d1_dcmpg : xD1 := fun a b i z pc => (.dcmp .g, 1, true)
theorem k1_dcmpg_ok : xOk1 k1_dcmpg d1_dcmpg := by
  intro p l e R s m args below meth c H locs cells slots Q cc pc ls nL a b i z L st pc' L' st' hx hb hL hdg hsd hk kk
  unfold k1_dcmpg at hk
  unfold d1_dcmpg at hdg hsd
  split at hk
  · cases hk
    exact lv_dcmp hx hb hdg (kk ls hL)
  · cases hk
def k1_fcmpl : xK1 := fun a b i z pc L st => match st with
  | .float y :: .float x :: r => some (pc + 1, L, .int (Op.cmpValue (FP.fcmp x y) .l) :: r)
  | _ => none
def d1_fcmpl : xD1 := fun a b i z pc => (.fcmp .l, 1, true)
theorem k1_fcmpl_ok : xOk1 k1_fcmpl d1_fcmpl := by
  intro p l e R s m args below meth c H locs cells slots Q cc pc ls nL a b i z L st pc' L' st' hx hb hL hdg hsd hk kk
  unfold k1_fcmpl at hk
  unfold d1_fcmpl at hdg hsd
  split at hk
  · cases hk
    exact lv_fcmp hx hb hdg (kk ls hL)
  · cases hk
def k1_fcmpg : xK1 := fun a b i z pc L st => match st with
  | .float y :: .float x :: r => some (pc + 1, L, .int (Op.cmpValue (FP.fcmp x y) .g) :: r)
  | _ => none
def d1_fcmpg : xD1 := fun a b i z pc => (.fcmp .g, 1, true)
theorem k1_fcmpg_ok : xOk1 k1_fcmpg d1_fcmpg := by
  intro p l e R s m args below meth c H locs cells slots Q cc pc ls nL a b i z L st pc' L' st' hx hb hL hdg hsd hk kk
  unfold k1_fcmpg at hk
  unfold d1_fcmpg at hdg hsd
  split at hk
  · cases hk
    exact lv_fcmp hx hb hdg (kk ls hL)
  · cases hk
def k1_dup : xK1 := fun a b i z pc L st => match st with
  | v :: r => if h : v.category = 1 then some (pc + 1, L, v :: v :: r) else none
  | _ => none
def d1_dup : xD1 := fun a b i z pc => (.dup, 1, true)
theorem k1_dup_ok : xOk1 k1_dup d1_dup := by
  intro p l e R s m args below meth c H locs cells slots Q cc pc ls nL a b i z L st pc' L' st' hx hb hL hdg hsd hk kk
  unfold k1_dup at hk
  unfold d1_dup at hdg hsd
  split at hk
  · split at hk
    · rename_i hc
      cases hk
      exact lv_dup hx hb hdg hc (kk ls hL)
    · cases hk
  · cases hk
def k1_pop : xK1 := fun a b i z pc L st => match st with
  | v :: r => if h : v.category = 1 then some (pc + 1, L, r) else none
  | _ => none
def d1_pop : xD1 := fun a b i z pc => (.pop, 1, true)
theorem k1_pop_ok : xOk1 k1_pop d1_pop := by
  intro p l e R s m args below meth c H locs cells slots Q cc pc ls nL a b i z L st pc' L' st' hx hb hL hdg hsd hk kk
  unfold k1_pop at hk
  unfold d1_pop at hdg hsd
  split at hk
  · split at hk
    · rename_i hc
      cases hk
      exact lv_pop hx hb hdg hc (kk ls hL)
    · cases hk
  · cases hk
def k1_dup2 : xK1 := fun a b i z pc L st => match st with
  | v :: w :: r => if h : v.category = 1 ∧ w.category = 1 then some (pc + 1, L, v :: w :: v :: w :: r) else none
  | _ => none
def d1_dup2 : xD1 := fun a b i z pc => (.dup2, 1, true)
theorem k1_dup2_ok : xOk1 k1_dup2 d1_dup2 := by
  intro p l e R s m args below meth c H locs cells slots Q cc pc ls nL a b i z L st pc' L' st' hx hb hL hdg hsd hk kk
  unfold k1_dup2 at hk
  unfold d1_dup2 at hdg hsd
  split at hk
  · split at hk
    · rename_i hc
      cases hk
      exact lv_dup2_11 hx hb hdg hc.1 hc.2 (kk ls hL)
    · cases hk
  · cases hk
def k1_goto : xK1 := fun a b i z pc L st => some (a, L, st)
def d1_goto : xD1 := fun a b i z pc => (.goto z, 3, decide ((pc : Int) + z = (a : Int)))
theorem k1_goto_ok : xOk1 k1_goto d1_goto := by
  intro p l e R s m args below meth c H locs cells slots Q cc pc ls nL a b i z L st pc' L' st' hx hb hL hdg hsd hk kk
  unfold k1_goto at hk
  unfold d1_goto at hdg hsd
  cases hk
  exact lv_goto hx hb hdg (of_decide_eq_true hsd) (kk ls hL)
def k1_ifeq : xK1 := fun a b i z pc L st => match st with
  | .int x :: r => if x = 0 then some (a, L, r) else some (pc + 3, L, r)
  | _ => none
def d1_ifeq : xD1 := fun a b i z pc => (.ifCond .eq z, 3, decide ((pc : Int) + z = (a : Int)))
theorem k1_ifeq_ok : xOk1 k1_ifeq d1_ifeq := by
  intro p l e R s m args below meth c H locs cells slots Q cc pc ls nL a b i z L st pc' L' st' hx hb hL hdg hsd hk kk
  unfold k1_ifeq at hk
  unfold d1_ifeq at hdg hsd
  split at hk
  · refine lv_if_eq hx hb hdg (of_decide_eq_true hsd) (fun h => ?_) (fun h => ?_)
    · rw [if_pos (by first | exact h | simpa using h)] at hk
      cases hk
      exact kk ls hL
    · rw [if_neg (by first | exact h | simpa using h)] at hk
      cases hk
      exact kk ls hL
  · cases hk
def k1_ifne : xK1 := fun a b i z pc L st => match st with
  | .int x :: r => if ¬ x = 0 then some (a, L, r) else some (pc + 3, L, r)
  | _ => none
def d1_ifne : xD1 := fun a b i z pc => (.ifCond .ne z, 3, decide ((pc : Int) + z = (a : Int)))
theorem k1_ifne_ok : xOk1 k1_ifne d1_ifne := by
  intro p l e R s m args below meth c H locs cells slots Q cc pc ls nL a b i z L st pc' L' st' hx hb hL hdg hsd hk kk
  unfold k1_ifne at hk
  unfold d1_ifne at hdg hsd
  split at hk
  · refine lv_if_ne hx hb hdg (of_decide_eq_true hsd) (fun h => ?_) (fun h => ?_)
    · rw [if_pos (by first | exact h | simpa using h)] at hk
      cases hk
      exact kk ls hL
    · rw [if_neg (by first | exact h | simpa using h)] at hk
      cases hk
      exact kk ls hL
  · cases hk
def k1_iflt : xK1 := fun a b i z pc L st => match st with
  | .int x :: r => if x < 0 then some (a, L, r) else some (pc + 3, L, r)
  | _ => none
def d1_iflt : xD1 := fun a b i z pc => (.ifCond .lt z, 3, decide ((pc : Int) + z = (a : Int)))
theorem k1_iflt_ok : xOk1 k1_iflt d1_iflt := by
  intro p l e R s m args below meth c H locs cells slots Q cc pc ls nL a b i z L st pc' L' st' hx hb hL hdg hsd hk kk
  unfold k1_iflt at hk
  unfold d1_iflt at hdg hsd
  split at hk
  · refine lv_if_lt hx hb hdg (of_decide_eq_true hsd) (fun h => ?_) (fun h => ?_)
    · rw [if_pos (by first | exact h | simpa using h)] at hk
      cases hk
      exact kk ls hL
    · rw [if_neg (by first | exact h | simpa using h)] at hk
      cases hk
      exact kk ls hL
  · cases hk
def k1_ifge : xK1 := fun a b i z pc L st => match st with
  | .int x :: r => if 0 ≤ x then some (a, L, r) else some (pc + 3, L, r)
  | _ => none
def d1_ifge : xD1 := fun a b i z pc => (.ifCond .ge z, 3, decide ((pc : Int) + z = (a : Int)))
theorem k1_ifge_ok : xOk1 k1_ifge d1_ifge := by
  intro p l e R s m args below meth c H locs cells slots Q cc pc ls nL a b i z L st pc' L' st' hx hb hL hdg hsd hk kk
  unfold k1_ifge at hk
  unfold d1_ifge at hdg hsd
  split at hk
  · refine lv_if_ge hx hb hdg (of_decide_eq_true hsd) (fun h => ?_) (fun h => ?_)
    · rw [if_pos (by first | exact h | simpa using h)] at hk
      cases hk
      exact kk ls hL
    · rw [if_neg (by first | exact h | simpa using h)] at hk
      cases hk
      exact kk ls hL
  · cases hk
def k1_ifgt : xK1 := fun a b i z pc L st => match st with
  | .int x :: r => if 0 < x then some (a, L, r) else some (pc + 3, L, r)
  | _ => none
def d1_ifgt : xD1 := fun a b i z pc => (.ifCond .gt z, 3, decide ((pc : Int) + z = (a : Int)))
theorem k1_ifgt_ok : xOk1 k1_ifgt d1_ifgt := by
  intro p l e R s m args below meth c H locs cells slots Q cc pc ls nL a b i z L st pc' L' st' hx hb hL hdg hsd hk kk
  unfold k1_ifgt at hk
  unfold d1_ifgt at hdg hsd
  split at hk
  · refine lv_if_gt hx hb hdg (of_decide_eq_true hsd) (fun h => ?_) (fun h => ?_)
    · rw [if_pos (by first | exact h | simpa using h)] at hk
      cases hk
      exact kk ls hL
    · rw [if_neg (by first | exact h | simpa using h)] at hk
      cases hk
      exact kk ls hL
  · cases hk
def k1_ifle : xK1 := fun a b i z pc L st => match st with
  | .int x :: r => if x ≤ 0 then some (a, L, r) else some (pc + 3, L, r)
  | _ => none
def d1_ifle : xD1 := fun a b i z pc => (.ifCond .le z, 3, decide ((pc : Int) + z = (a : Int)))
theorem k1_ifle_ok : xOk1 k1_ifle d1_ifle := by
  intro p l e R s m args below meth c H locs cells slots Q cc pc ls nL a b i z L st pc' L' st' hx hb hL hdg hsd hk kk
  unfold k1_ifle at hk
  unfold d1_ifle at hdg hsd
  split at hk
  · refine lv_if_le hx hb hdg (of_decide_eq_true hsd) (fun h => ?_) (fun h => ?_)
    · rw [if_pos (by first | exact h | simpa using h)] at hk
      cases hk
      exact kk ls hL
    · rw [if_neg (by first | exact h | simpa using h)] at hk
      cases hk
      exact kk ls hL
  · cases hk
def k1_icmpeq : xK1 := fun a b i z pc L st => match st with
  | .int y :: .int x :: r => if x = y then some (a, L, r) else some (pc + 3, L, r)
  | _ => none
def d1_icmpeq : xD1 := fun a b i z pc => (.if_icmp .eq z, 3, decide ((pc : Int) + z = (a : Int)))
theorem k1_icmpeq_ok : xOk1 k1_icmpeq d1_icmpeq := by
  intro p l e R s m args below meth c H locs cells slots Q cc pc ls nL a b i z L st pc' L' st' hx hb hL hdg hsd hk kk
  unfold k1_icmpeq at hk
  unfold d1_icmpeq at hdg hsd
  split at hk
  · refine lv_icmp_eq hx hb hdg (of_decide_eq_true hsd) (fun h => ?_) (fun h => ?_)
    · rw [if_pos (by first | exact h | simpa using h)] at hk
      cases hk
      exact kk ls hL
    · rw [if_neg (by first | exact h | simpa using h)] at hk
      cases hk
      exact kk ls hL
  · cases hk
def k1_icmpne : xK1 := fun a b i z pc L st => match st with
  | .int y :: .int x :: r => if ¬ x = y then some (a, L, r) else some (pc + 3, L, r)
  | _ => none
def d1_icmpne : xD1 := fun a b i z pc => (.if_icmp .ne z, 3, decide ((pc : Int) + z = (a : Int)))
theorem k1_icmpne_ok : xOk1 k1_icmpne d1_icmpne := by
  intro p l e R s m args below meth c H locs cells slots Q cc pc ls nL a b i z L st pc' L' st' hx hb hL hdg hsd hk kk
  unfold k1_icmpne at hk
  unfold d1_icmpne at hdg hsd
  split at hk
  · refine lv_icmp_ne hx hb hdg (of_decide_eq_true hsd) (fun h => ?_) (fun h => ?_)
    · rw [if_pos (by first | exact h | simpa using h)] at hk
      cases hk
      exact kk ls hL
    · rw [if_neg (by first | exact h | simpa using h)] at hk
      cases hk
      exact kk ls hL
  · cases hk
def k1_icmplt : xK1 := fun a b i z pc L st => match st with
  | .int y :: .int x :: r => if x < y then some (a, L, r) else some (pc + 3, L, r)
  | _ => none
def d1_icmplt : xD1 := fun a b i z pc => (.if_icmp .lt z, 3, decide ((pc : Int) + z = (a : Int)))
theorem k1_icmplt_ok : xOk1 k1_icmplt d1_icmplt := by
  intro p l e R s m args below meth c H locs cells slots Q cc pc ls nL a b i z L st pc' L' st' hx hb hL hdg hsd hk kk
  unfold k1_icmplt at hk
  unfold d1_icmplt at hdg hsd
  split at hk
  · refine lv_icmp_lt hx hb hdg (of_decide_eq_true hsd) (fun h => ?_) (fun h => ?_)
    · rw [if_pos (by first | exact h | simpa using h)] at hk
      cases hk
      exact kk ls hL
    · rw [if_neg (by first | exact h | simpa using h)] at hk
      cases hk
      exact kk ls hL
  · cases hk
def k1_icmpge : xK1 := fun a b i z pc L st => match st with
  | .int y :: .int x :: r => if y ≤ x then some (a, L, r) else some (pc + 3, L, r)
  | _ => none
def d1_icmpge : xD1 := fun a b i z pc => (.if_icmp .ge z, 3, decide ((pc : Int) + z = (a : Int)))
theorem k1_icmpge_ok : xOk1 k1_icmpge d1_icmpge := by
  intro p l e R s m args below meth c H locs cells slots Q cc pc ls nL a b i z L st pc' L' st' hx hb hL hdg hsd hk kk
  unfold k1_icmpge at hk
  unfold d1_icmpge at hdg hsd
  split at hk
  · refine lv_icmp_ge hx hb hdg (of_decide_eq_true hsd) (fun h => ?_) (fun h => ?_)
    · rw [if_pos (by first | exact h | simpa using h)] at hk
      cases hk
      exact kk ls hL
    · rw [if_neg (by first | exact h | simpa using h)] at hk
      cases hk
      exact kk ls hL
  · cases hk
def k1_icmpgt : xK1 := fun a b i z pc L st => match st with
  | .int y :: .int x :: r => if y < x then some (a, L, r) else some (pc + 3, L, r)
  | _ => none
def d1_icmpgt : xD1 := fun a b i z pc => (.if_icmp .gt z, 3, decide ((pc : Int) + z = (a : Int)))
theorem k1_icmpgt_ok : xOk1 k1_icmpgt d1_icmpgt := by
  intro p l e R s m args below meth c H locs cells slots Q cc pc ls nL a b i z L st pc' L' st' hx hb hL hdg hsd hk kk
  unfold k1_icmpgt at hk
  unfold d1_icmpgt at hdg hsd
  split at hk
  · refine lv_icmp_gt hx hb hdg (of_decide_eq_true hsd) (fun h => ?_) (fun h => ?_)
    · rw [if_pos (by first | exact h | simpa using h)] at hk
      cases hk
      exact kk ls hL
    · rw [if_neg (by first | exact h | simpa using h)] at hk
      cases hk
      exact kk ls hL
  · cases hk
def k1_icmple : xK1 := fun a b i z pc L st => match st with
  | .int y :: .int x :: r => if x ≤ y then some (a, L, r) else some (pc + 3, L, r)
  | _ => none
def d1_icmple : xD1 := fun a b i z pc => (.if_icmp .le z, 3, decide ((pc : Int) + z = (a : Int)))
theorem k1_icmple_ok : xOk1 k1_icmple d1_icmple := by
  intro p l e R s m args below meth c H locs cells slots Q cc pc ls nL a b i z L st pc' L' st' hx hb hL hdg hsd hk kk
  unfold k1_icmple at hk
  unfold d1_icmple at hdg hsd
  split at hk
  · refine lv_icmp_le hx hb hdg (of_decide_eq_true hsd) (fun h => ?_) (fun h => ?_)
    · rw [if_pos (by first | exact h | simpa using h)] at hk
      cases hk
      exact kk ls hL
    · rw [if_neg (by first | exact h | simpa using h)] at hk
      cases hk
      exact kk ls hL
  · cases hk
def x1ops : List (xK1 × xD1) := [(k1_iconst, d1_iconst), (k1_bipush, d1_bipush), (k1_sipush, d1_sipush), (k1_lconst, d1_lconst), (k1_dconst0, d1_dconst0), (k1_dconst1, d1_dconst1), (k1_fconst0, d1_fconst0), (k1_fconst1, d1_fconst1), (k1_iload, d1_iload), (k1_lload, d1_lload), (k1_aload, d1_aload), (k1_dload, d1_dload), (k1_fload, d1_fload), (k1_istore, d1_istore), (k1_lstore, d1_lstore), (k1_astore, d1_astore), (k1_dstore, d1_dstore), (k1_fstore, d1_fstore), (k1_iinc, d1_iinc), (k1_iadd, d1_iadd), (k1_isub, d1_isub), (k1_imul, d1_imul), (k1_iand, d1_iand), (k1_ixor, d1_ixor), (k1_ishr, d1_ishr), (k1_ladd, d1_ladd), (k1_lsub, d1_lsub), (k1_lmul, d1_lmul), (k1_land, d1_land), (k1_lor, d1_lor), (k1_lcmp, d1_lcmp), (k1_lshl, d1_lshl), (k1_lshr, d1_lshr), (k1_idiv, d1_idiv), (k1_irem, d1_irem), (k1_ldiv, d1_ldiv), (k1_lrem, d1_lrem), (k1_fdiv, d1_fdiv), (k1_ddiv, d1_ddiv), (k1_f2d, d1_f2d), (k1_i2l, d1_i2l), (k1_l2i, d1_l2i), (k1_i2b, d1_i2b), (k1_l2d, d1_l2d), (k1_l2f, d1_l2f), (k1_dcmpl, d1_dcmpl), (k1_dcmpg, d1_dcmpg), (k1_fcmpl, d1_fcmpl), (k1_fcmpg, d1_fcmpg), (k1_dup, d1_dup), (k1_pop, d1_pop), (k1_dup2, d1_dup2), (k1_goto, d1_goto), (k1_ifeq, d1_ifeq), (k1_ifne, d1_ifne), (k1_iflt, d1_iflt), (k1_ifge, d1_ifge), (k1_ifgt, d1_ifgt), (k1_ifle, d1_ifle), (k1_icmpeq, d1_icmpeq), (k1_icmpne, d1_icmpne), (k1_icmplt, d1_icmplt), (k1_icmpge, d1_icmpge), (k1_icmpgt, d1_icmpgt), (k1_icmple, d1_icmple)]
theorem x1ops_ok : ∀ q ∈ x1ops, xOk1 q.1 q.2 := List.forall_mem_cons.mpr ⟨k1_iconst_ok, List.forall_mem_cons.mpr ⟨k1_bipush_ok, List.forall_mem_cons.mpr ⟨k1_sipush_ok, List.forall_mem_cons.mpr ⟨k1_lconst_ok, List.forall_mem_cons.mpr ⟨k1_dconst0_ok, List.forall_mem_cons.mpr ⟨k1_dconst1_ok, List.forall_mem_cons.mpr ⟨k1_fconst0_ok, List.forall_mem_cons.mpr ⟨k1_fconst1_ok, List.forall_mem_cons.mpr ⟨k1_iload_ok, List.forall_mem_cons.mpr ⟨k1_lload_ok, List.forall_mem_cons.mpr ⟨k1_aload_ok, List.forall_mem_cons.mpr ⟨k1_dload_ok, List.forall_mem_cons.mpr ⟨k1_fload_ok, List.forall_mem_cons.mpr ⟨k1_istore_ok, List.forall_mem_cons.mpr ⟨k1_lstore_ok, List.forall_mem_cons.mpr ⟨k1_astore_ok, List.forall_mem_cons.mpr ⟨k1_dstore_ok, List.forall_mem_cons.mpr ⟨k1_fstore_ok, List.forall_mem_cons.mpr ⟨k1_iinc_ok, List.forall_mem_cons.mpr ⟨k1_iadd_ok, List.forall_mem_cons.mpr ⟨k1_isub_ok, List.forall_mem_cons.mpr ⟨k1_imul_ok, List.forall_mem_cons.mpr ⟨k1_iand_ok, List.forall_mem_cons.mpr ⟨k1_ixor_ok, List.forall_mem_cons.mpr ⟨k1_ishr_ok, List.forall_mem_cons.mpr ⟨k1_ladd_ok, List.forall_mem_cons.mpr ⟨k1_lsub_ok, List.forall_mem_cons.mpr ⟨k1_lmul_ok, List.forall_mem_cons.mpr ⟨k1_land_ok, List.forall_mem_cons.mpr ⟨k1_lor_ok, List.forall_mem_cons.mpr ⟨k1_lcmp_ok, List.forall_mem_cons.mpr ⟨k1_lshl_ok, List.forall_mem_cons.mpr ⟨k1_lshr_ok, List.forall_mem_cons.mpr ⟨k1_idiv_ok, List.forall_mem_cons.mpr ⟨k1_irem_ok, List.forall_mem_cons.mpr ⟨k1_ldiv_ok, List.forall_mem_cons.mpr ⟨k1_lrem_ok, List.forall_mem_cons.mpr ⟨k1_fdiv_ok, List.forall_mem_cons.mpr ⟨k1_ddiv_ok, List.forall_mem_cons.mpr ⟨k1_f2d_ok, List.forall_mem_cons.mpr ⟨k1_i2l_ok, List.forall_mem_cons.mpr ⟨k1_l2i_ok, List.forall_mem_cons.mpr ⟨k1_i2b_ok, List.forall_mem_cons.mpr ⟨k1_l2d_ok, List.forall_mem_cons.mpr ⟨k1_l2f_ok, List.forall_mem_cons.mpr ⟨k1_dcmpl_ok, List.forall_mem_cons.mpr ⟨k1_dcmpg_ok, List.forall_mem_cons.mpr ⟨k1_fcmpl_ok, List.forall_mem_cons.mpr ⟨k1_fcmpg_ok, List.forall_mem_cons.mpr ⟨k1_dup_ok, List.forall_mem_cons.mpr ⟨k1_pop_ok, List.forall_mem_cons.mpr ⟨k1_dup2_ok, List.forall_mem_cons.mpr ⟨k1_goto_ok, List.forall_mem_cons.mpr ⟨k1_ifeq_ok, List.forall_mem_cons.mpr ⟨k1_ifne_ok, List.forall_mem_cons.mpr ⟨k1_iflt_ok, List.forall_mem_cons.mpr ⟨k1_ifge_ok, List.forall_mem_cons.mpr ⟨k1_ifgt_ok, List.forall_mem_cons.mpr ⟨k1_ifle_ok, List.forall_mem_cons.mpr ⟨k1_icmpeq_ok, List.forall_mem_cons.mpr ⟨k1_icmpne_ok, List.forall_mem_cons.mpr ⟨k1_icmplt_ok, List.forall_mem_cons.mpr ⟨k1_icmpge_ok, List.forall_mem_cons.mpr ⟨k1_icmpgt_ok, List.forall_mem_cons.mpr ⟨k1_icmple_ok, fun _ h => nomatch h⟩⟩⟩⟩⟩⟩⟩⟩⟩⟩⟩⟩⟩⟩⟩⟩⟩⟩⟩⟩⟩⟩⟩⟩⟩⟩⟩⟩⟩⟩⟩⟩⟩⟩⟩⟩⟩⟩⟩⟩⟩⟩⟩⟩⟩⟩⟩⟩⟩⟩⟩⟩⟩⟩⟩⟩⟩⟩⟩⟩⟩⟩⟩⟩⟩
