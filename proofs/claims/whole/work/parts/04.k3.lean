/-! THE ABSTRACT INTERPRETER, 3: what is known of the start, constants of the pool, new cells. -/
abbrev xM : Type := xH × Nat × Nat × Nat
/-- addresses of the string constants; which text a string has; the script: its address, its length, its ints -/
abbrev xSx : Type := (Nat → Nat) × (Nat → Option Nat) × Nat × Nat × (Nat → Int32)
def xdef (ci : Nat) : List Value := (List.range (xcN ci)).map (fun k => defaultValue (xcty ci k))
theorem xdef_ok (ci j : Nat) (hj : j < xcN ci) : defaultValue (xcty ci j) = vp_V (xdef ci) j := by
  unfold vp_V xdef
  rw [List.getD_eq_getElem?_getD, List.getElem?_map, List.getElem?_range hj]
  rfl
def xw (i : Nat) (w : Cond) : Bool := lw_tbl[i]? == some w && goodWord w
theorem xw_ok {i : Nat} {w : Cond} (h : xw i w = true) : w ∈ xLT := xLT_of h
theorem xcl_new (ci : Nat) (h : ci < 7) : Cond.instantiable (xcR ci) (xcN ci) ∈ xLT ∧ Cond.initialized (xcR ci) ∈ xLT := by
  match ci, h with
  | 0, _ => exact ⟨by decide +kernel, by decide +kernel⟩
  | 1, _ => exact ⟨by decide +kernel, by decide +kernel⟩
  | 2, _ => exact ⟨by decide +kernel, by decide +kernel⟩
  | 3, _ => exact ⟨by decide +kernel, by decide +kernel⟩
  | 4, _ => exact ⟨by decide +kernel, by decide +kernel⟩
  | 5, _ => exact ⟨by decide +kernel, by decide +kernel⟩
  | 6, _ => exact ⟨by decide +kernel, by decide +kernel⟩
theorem xaw0 : Cond.arrayClass .int ∈ xLT := by decide +kernel
theorem xaw1 : Cond.arrayClass .long ∈ xLT := by decide +kernel
theorem xaw2 : Cond.arrayClass .byte ∈ xLT := by decide +kernel
theorem xaw3 : Cond.arrayClass .boolean ∈ xLT := by decide +kernel
theorem xaw4 : Cond.arrayClass .double ∈ xLT := by decide +kernel
/-- s: a state of the run that began at Z -/
def xSt (Z s : State) : Prop := Z.WarmedH s.vm ∧ Z.heap.size ≤ s.heap.size ∧ ∀ q : Nat, q < Z.heap.size → s.heap[q]? = Z.heap[q]?
def xOver (s : State) : Prop := va_AO RX0 s ∧ va_AO RX2 s ∧ va_AO RX1 s
theorem xSize {Z : State} {D : va_G} {dA : Nat → ClassId} {p : Program} {l : Launch} {e : Env} {R : Room} {s : State} {m : MethodId} {args : Array Value} {below : List Frame} {meth : Method} {c : Code} {H : Heap} {locs : List Loc} {cells slots nx : Nat} {h : xH} {T : State}
    (hZs : Z.heap.size ≤ s.heap.size) (hR : xRel Z D dA s h nx H locs cells) (h0 : nx ≠ 0) (hT : T.heap = H) (X : Stand p l e R s m args below meth c T locs cells slots) : H.size = nx := by
  obtain ⟨⟨ws, hP, hD, hC⟩, hS, hN⟩ := hR
  obtain ⟨h1, h2⟩ := hN h0
  have h3 := X.heapSize
  rw [hT] at h3
  have h4 : nx ≤ H.size := by
    rcases h2 with h2 | ⟨c0, h2⟩
    · have := hS.1
      omega
    · obtain ⟨k, hk⟩ := hC _ _ h2
      have h5 : nx - 1 < H.size := (hP k _ hk).lt
      omega
  omega
theorem xRel_new {Z : State} {D : va_G} {dA : Nat → ClassId} {s : State} {H H1 : Heap} {locs : List Loc} {cells nx : Nat} {h : xH} {c' : xC}
    (hZs : Z.heap.size ≤ s.heap.size) (hR : xRel Z D dA s h nx H locs cells) (h0 : nx ≠ 0) (hz : H.size = nx) (z1 : H1.size = nx + 1) (o1 : ∀ q, q < nx → H1[q]? = H[q]?) (hat : va_at D vwCl (nx, xE dA c') H1) : xRel Z D dA s (xup h nx c') (nx + 1) H1 locs (cells + 1) := by
  obtain ⟨⟨ws, hP, hD, hC⟩, hS, hN⟩ := hR
  have hk : ∀ (k : Nat) (x : Nat × va_E), ws[k]? = some x → H1[x.1]? = H[x.1]? := fun k x hx => o1 x.1 (by rw [← hz]; exact (hP k x hx).lt)
  have hS1 := hS.1
  refine ⟨⟨ws ++ [(nx, xE dA c')], (hP.kept hk).app (fun k x hx => ?_), hD.push hP hz.symm (show Z.heap.size ≤ nx by omega), xCov_push hC nx c'⟩, ⟨by omega, fun q h1 h2 => ?_, hS.2.2⟩, fun _ => ⟨?_, Or.inr ⟨c', ?_⟩⟩⟩
  · have hl : k < 1 := (List.getElem?_eq_some_iff.mp hx).1
    rw [show k = 0 by omega] at hx
    cases hx
    exact hat
  · rw [o1 q (by omega)]
    exact hS.2.1 q h1 h2
  · have := (hN h0).1
    omega
  · show xup h nx c' (nx + 1 - 1) = some c'
    unfold xup
    rw [if_pos (by omega)]
abbrev xK3 : Type := xSx → Nat → Nat → Nat → Int → xM → List Value → Option (xM × List Value)
def xOk3 (k : xK3) (d : xD2) : Prop :=
  ∀ (Z : State) (D : va_G) (dA : Nat → ClassId) (sx : xSx) (p : Program) (l : Launch) (e : Env) (R : Room) (s : State) (m : MethodId) (args : Array Value) (below : List Frame) (meth : Method) (c : Code) (H : Heap) (locs : List Loc) (cells slots : Nat) (Q : State → Prop) (cc : ByteArray) (pc : Nat) (ls : Array Slot) (nL : Nat) (own yn : String) (a b i : Nat) (z : Int) (h : xH) (nx ce sl : Nat) (st : List Value) (h' : xH) (nx' ce' sl' : Nat) (st' : List Value),
    xCtx Z D dA p s m args meth c cc nL own yn → xOver s → xRel Z D dA s h nx H locs cells → decode cc pc = .ok ((d own yn a b i z pc).1, (d own yn a b i z pc).2.1) → (d own yn a b i z pc).2.2 = true → k sx a b i z (h, nx, ce, sl) st = some ((h', nx', ce', sl'), st') →
    cells + (ce' - ce) ≤ R.cells → slots + (sl' - sl) ≤ R.slots →
    (∀ (H1 : Heap) (locs1 : List Loc), xRel Z D dA s h' nx' H1 locs1 (cells + (ce' - ce)) → W p l e R s m args below meth c H1 locs1 (cells + (ce' - ce)) (slots + (sl' - sl)) Q (F0 m (pc + (d own yn a b i z pc).2.1) ls st')) → W p l e R s m args below meth c H locs cells slots Q (F0 m pc ls st)
def xMono3 (k : xK3) : Prop := ∀ (sx : xSx) (a b i : Nat) (z : Int) (h : xH) (nx ce sl : Nat) (st : List Value) (h' : xH) (nx' ce' sl' : Nat) (st' : List Value), k sx a b i z (h, nx, ce, sl) st = some ((h', nx', ce', sl'), st') → ce ≤ ce' ∧ sl ≤ sl'

def k3_constI : xK3 := fun sx a b i z M st => some (M, .int (Int32.ofInt z) :: st)
def d3_constI : xD2 := fun own yn a b i z pc => if a = 2 then (.ldc i, 2, xw b (.constant own i (Int32.ofInt z))) else (.ldc_w i, 3, xw b (.constant own i (Int32.ofInt z)))
theorem k3_constI_ok : xOk3 k3_constI d3_constI := by
  intro Z D dA sx p l e R s m args below meth c H locs cells slots Q cc pc ls nL own yn a b i z h nx ce sl st h' nx' ce' sl' st' hX hV hR hdg hsd hk hcells hslots kk
  obtain ⟨hx, hb, hml, hown, hts, hK, hyn, hZs⟩ := hX
  unfold k3_constI at hk
  unfold d3_constI at hdg hsd kk
  cases hk
  simp only [Nat.sub_self, Nat.add_zero] at kk
  by_cases h1 : a = 2
  · simp only [h1, if_true] at hdg hsd kk
    exact lv_ldc hx hb hown (hts _ (xw_ok hsd)) hdg (kk H locs hR)
  · simp only [h1, if_false] at hdg hsd kk
    exact lv_ldcw hx hb hown (hts _ (xw_ok hsd)) hdg (kk H locs hR)
theorem k3_constI_mono : xMono3 k3_constI := by
  intro sx a b i z h nx ce sl st h' nx' ce' sl' st' hk
  unfold k3_constI at hk
  cases hk
  exact ⟨Nat.le_refl _, Nat.le_refl _⟩
def k3_constJ : xK3 := fun sx a b i z M st => some (M, .long (Int64.ofInt z) :: st)
def d3_constJ : xD2 := fun own yn a b i z pc => (.ldc2_w i, 3, xw b (.constantLong own i (Int64.ofInt z)))
theorem k3_constJ_ok : xOk3 k3_constJ d3_constJ := by
  intro Z D dA sx p l e R s m args below meth c H locs cells slots Q cc pc ls nL own yn a b i z h nx ce sl st h' nx' ce' sl' st' hX hV hR hdg hsd hk hcells hslots kk
  obtain ⟨hx, hb, hml, hown, hts, hK, hyn, hZs⟩ := hX
  unfold k3_constJ at hk
  unfold d3_constJ at hdg hsd kk
  cases hk
  simp only [Nat.sub_self, Nat.add_zero] at kk
  exact lv_ldc2 hx hb hown (hts _ (xw_ok hsd)) hdg (kk H locs hR)
theorem k3_constJ_mono : xMono3 k3_constJ := by
  intro sx a b i z h nx ce sl st h' nx' ce' sl' st' hk
  unfold k3_constJ at hk
  cases hk
  exact ⟨Nat.le_refl _, Nat.le_refl _⟩
def k3_constD : xK3 := fun sx a b i z M st => some (M, .double (UInt64.ofNat z.toNat) :: st)
def d3_constD : xD2 := fun own yn a b i z pc => (.ldc2_w i, 3, xw b (.constantDouble own i (UInt64.ofNat z.toNat)))
theorem k3_constD_ok : xOk3 k3_constD d3_constD := by
  intro Z D dA sx p l e R s m args below meth c H locs cells slots Q cc pc ls nL own yn a b i z h nx ce sl st h' nx' ce' sl' st' hX hV hR hdg hsd hk hcells hslots kk
  obtain ⟨hx, hb, hml, hown, hts, hK, hyn, hZs⟩ := hX
  unfold k3_constD at hk
  unfold d3_constD at hdg hsd kk
  cases hk
  simp only [Nat.sub_self, Nat.add_zero] at kk
  exact lv_ldc2d hx hb hown (hts _ (xw_ok hsd)) hdg (kk H locs hR)
theorem k3_constD_mono : xMono3 k3_constD := by
  intro sx a b i z h nx ce sl st h' nx' ce' sl' st' hk
  unfold k3_constD at hk
  cases hk
  exact ⟨Nat.le_refl _, Nat.le_refl _⟩
def k3_new : xK3 := fun sx a b i z M st => if M.2.1 ≠ 0 then some ((xup M.1 M.2.1 (.inr (a, xdef a)), M.2.1 + 1, M.2.2.1 + 1, M.2.2.2 + xcN a), .ref M.2.1 :: st) else none
def d3_new : xD2 := fun own yn a b i z pc => (.new i, 3, decide (a < 7) && xw b (.classLink own i (xcR a)))
theorem k3_new_ok : xOk3 k3_new d3_new := by
  intro Z D dA sx p l e R s m args below meth c H locs cells slots Q cc pc ls nL own yn a b i z h nx ce sl st h' nx' ce' sl' st' hX hV hR hdg hsd hk hcells hslots kk
  obtain ⟨hx, hb, hml, hown, hts, hK, hyn, hZs⟩ := hX
  unfold k3_new at hk
  unfold d3_new at hdg hsd kk
  simp only [Bool.and_eq_true, decide_eq_true_eq] at hsd
  obtain ⟨ha7, hl⟩ := hsd
  obtain ⟨hcl, hin, hty, hnm⟩ := xcl_ok a ha7
  obtain ⟨hins, hini⟩ := xcl_new a ha7
  split at hk
  · rename_i h0
    cases hk
    dsimp only at h0 hcells hslots kk
    simp only [Nat.add_sub_cancel_left] at hcells hslots kk
    intro T hT X
    have hz := xSize hZs hR h0 hT X
    have hKn := hK.1 a _ hcl
    refine (?_ : W p l e R s m args below meth c H locs cells slots Q (F0 m pc ls _)) T hT X
    refine W.newcK hx hb hown (hts _ (xw_ok hl)) (hts _ hins) (hts _ hini) rfl hdg hcells hslots hKn.2.1 hz (fun H1 kC hkC e1 z1 o1 => ?_)
    exact kk H1 locs (xRel_new hZs hR h0 hz z1 o1 ⟨_, hcl, (u_born (xcty a) hts hin hKn hkC e1 hty).to (fun j hj => xdef_ok a j hj)⟩)
  · cases hk
theorem k3_new_mono : xMono3 k3_new := by
  intro sx a b i z h nx ce sl st h' nx' ce' sl' st' hk
  unfold k3_new at hk
  split at hk
  · cases hk
    exact ⟨by dsimp only; omega, by dsimp only; omega⟩
  · cases hk
def k3_newa0 : xK3 := fun sx a b i z M st => match st with
  | .int n :: rest => if M.2.1 ≠ 0 ∧ ¬ n < 0 ∧ n.toNatClampNeg * 8 ≤ 536870912 then some ((xup M.1 M.2.1 (.inl (0, n.toNatClampNeg, .inl (fun _ => 0))), M.2.1 + 1, M.2.2.1 + 1, M.2.2.2 + n.toNatClampNeg), .ref M.2.1 :: rest) else none
  | _ => none
def d3_newa0 : xD2 := fun own yn a b i z pc => (.newarray .int, 2, true)
theorem k3_newa0_ok : xOk3 k3_newa0 d3_newa0 := by
  intro Z D dA sx p l e R s m args below meth c H locs cells slots Q cc pc ls nL own yn a b i z h nx ce sl st h' nx' ce' sl' st' hX hV hR hdg hsd hk hcells hslots kk
  obtain ⟨hx, hb, hml, hown, hts, hK, hyn, hZs⟩ := hX
  unfold k3_newa0 at hk
  unfold d3_newa0 at hdg hsd kk
  split at hk
  · rename_i n rest
    split at hk
    · rename_i hc
      obtain ⟨h0, hn, hby⟩ := hc
      cases hk
      dsimp only at h0 hcells hslots kk
      simp only [Nat.add_sub_cancel_left] at hcells hslots kk
      intro T hT X
      have hz := xSize hZs hR h0 hT X
      refine (?_ : W p l e R s m args below meth c H locs cells slots Q (F0 m pc ls _)) T hT X
      refine va_newaK (atype := .int) hx hb (hts _ xaw0) rfl hdg rfl hn rfl (Nat.le_trans (Nat.mul_le_mul_left _ (show componentBytes (newarray.typeOf .int) ≤ 8 by decide)) hby) hcells hslots hz (fun H1 cA e1 z1 o1 hAr hNm => ?_)
      have hcA : cA = dA 0 := by
        have h9 : va_RA s (dA 0) .int := (hK.2 0 _ rfl).2
        exact Option.some.inj (hNm.symm.trans h9)
      subst hcA
      exact kk H1 locs (xRel_new hZs hR h0 hz z1 o1 e1)
    · cases hk
  · cases hk
theorem k3_newa0_mono : xMono3 k3_newa0 := by
  intro sx a b i z h nx ce sl st h' nx' ce' sl' st' hk
  unfold k3_newa0 at hk
  split at hk
  · split at hk
    · cases hk
      exact ⟨by dsimp only; omega, by dsimp only; omega⟩
    · cases hk
  · cases hk
def k3_newa1 : xK3 := fun sx a b i z M st => match st with
  | .int n :: rest => if M.2.1 ≠ 0 ∧ ¬ n < 0 ∧ n.toNatClampNeg * 8 ≤ 536870912 then some ((xup M.1 M.2.1 (.inl (1, n.toNatClampNeg, .inr (.inl (fun _ => 0)))), M.2.1 + 1, M.2.2.1 + 1, M.2.2.2 + n.toNatClampNeg), .ref M.2.1 :: rest) else none
  | _ => none
def d3_newa1 : xD2 := fun own yn a b i z pc => (.newarray .long, 2, true)
theorem k3_newa1_ok : xOk3 k3_newa1 d3_newa1 := by
  intro Z D dA sx p l e R s m args below meth c H locs cells slots Q cc pc ls nL own yn a b i z h nx ce sl st h' nx' ce' sl' st' hX hV hR hdg hsd hk hcells hslots kk
  obtain ⟨hx, hb, hml, hown, hts, hK, hyn, hZs⟩ := hX
  unfold k3_newa1 at hk
  unfold d3_newa1 at hdg hsd kk
  split at hk
  · rename_i n rest
    split at hk
    · rename_i hc
      obtain ⟨h0, hn, hby⟩ := hc
      cases hk
      dsimp only at h0 hcells hslots kk
      simp only [Nat.add_sub_cancel_left] at hcells hslots kk
      intro T hT X
      have hz := xSize hZs hR h0 hT X
      refine (?_ : W p l e R s m args below meth c H locs cells slots Q (F0 m pc ls _)) T hT X
      refine va_newaK (atype := .long) hx hb (hts _ xaw1) rfl hdg rfl hn rfl (Nat.le_trans (Nat.mul_le_mul_left _ (show componentBytes (newarray.typeOf .long) ≤ 8 by decide)) hby) hcells hslots hz (fun H1 cA e1 z1 o1 hAr hNm => ?_)
      have hcA : cA = dA 1 := by
        have h9 : va_RA s (dA 1) .long := (hK.2 1 _ rfl).2
        exact Option.some.inj (hNm.symm.trans h9)
      subst hcA
      exact kk H1 locs (xRel_new hZs hR h0 hz z1 o1 e1)
    · cases hk
  · cases hk
theorem k3_newa1_mono : xMono3 k3_newa1 := by
  intro sx a b i z h nx ce sl st h' nx' ce' sl' st' hk
  unfold k3_newa1 at hk
  split at hk
  · split at hk
    · cases hk
      exact ⟨by dsimp only; omega, by dsimp only; omega⟩
    · cases hk
  · cases hk
def k3_newa2 : xK3 := fun sx a b i z M st => match st with
  | .int n :: rest => if M.2.1 ≠ 0 ∧ ¬ n < 0 ∧ n.toNatClampNeg * 8 ≤ 536870912 then some ((xup M.1 M.2.1 (.inl (2, n.toNatClampNeg, .inl (fun _ => 0))), M.2.1 + 1, M.2.2.1 + 1, M.2.2.2 + n.toNatClampNeg), .ref M.2.1 :: rest) else none
  | _ => none
def d3_newa2 : xD2 := fun own yn a b i z pc => (.newarray .byte, 2, true)
theorem k3_newa2_ok : xOk3 k3_newa2 d3_newa2 := by
  intro Z D dA sx p l e R s m args below meth c H locs cells slots Q cc pc ls nL own yn a b i z h nx ce sl st h' nx' ce' sl' st' hX hV hR hdg hsd hk hcells hslots kk
  obtain ⟨hx, hb, hml, hown, hts, hK, hyn, hZs⟩ := hX
  unfold k3_newa2 at hk
  unfold d3_newa2 at hdg hsd kk
  split at hk
  · rename_i n rest
    split at hk
    · rename_i hc
      obtain ⟨h0, hn, hby⟩ := hc
      cases hk
      dsimp only at h0 hcells hslots kk
      simp only [Nat.add_sub_cancel_left] at hcells hslots kk
      intro T hT X
      have hz := xSize hZs hR h0 hT X
      refine (?_ : W p l e R s m args below meth c H locs cells slots Q (F0 m pc ls _)) T hT X
      refine va_newaK (atype := .byte) hx hb (hts _ xaw2) rfl hdg rfl hn rfl (Nat.le_trans (Nat.mul_le_mul_left _ (show componentBytes (newarray.typeOf .byte) ≤ 8 by decide)) hby) hcells hslots hz (fun H1 cA e1 z1 o1 hAr hNm => ?_)
      have hcA : cA = dA 2 := by
        have h9 : va_RA s (dA 2) .byte := (hK.2 2 _ rfl).2
        exact Option.some.inj (hNm.symm.trans h9)
      subst hcA
      exact kk H1 locs (xRel_new hZs hR h0 hz z1 o1 e1)
    · cases hk
  · cases hk
theorem k3_newa2_mono : xMono3 k3_newa2 := by
  intro sx a b i z h nx ce sl st h' nx' ce' sl' st' hk
  unfold k3_newa2 at hk
  split at hk
  · split at hk
    · cases hk
      exact ⟨by dsimp only; omega, by dsimp only; omega⟩
    · cases hk
  · cases hk
def k3_newa3 : xK3 := fun sx a b i z M st => match st with
  | .int n :: rest => if M.2.1 ≠ 0 ∧ ¬ n < 0 ∧ n.toNatClampNeg * 8 ≤ 536870912 then some ((xup M.1 M.2.1 (.inl (3, n.toNatClampNeg, .inl (fun _ => 0))), M.2.1 + 1, M.2.2.1 + 1, M.2.2.2 + n.toNatClampNeg), .ref M.2.1 :: rest) else none
  | _ => none
def d3_newa3 : xD2 := fun own yn a b i z pc => (.newarray .boolean, 2, true)
theorem k3_newa3_ok : xOk3 k3_newa3 d3_newa3 := by
  intro Z D dA sx p l e R s m args below meth c H locs cells slots Q cc pc ls nL own yn a b i z h nx ce sl st h' nx' ce' sl' st' hX hV hR hdg hsd hk hcells hslots kk
  obtain ⟨hx, hb, hml, hown, hts, hK, hyn, hZs⟩ := hX
  unfold k3_newa3 at hk
  unfold d3_newa3 at hdg hsd kk
  split at hk
  · rename_i n rest
    split at hk
    · rename_i hc
      obtain ⟨h0, hn, hby⟩ := hc
      cases hk
      dsimp only at h0 hcells hslots kk
      simp only [Nat.add_sub_cancel_left] at hcells hslots kk
      intro T hT X
      have hz := xSize hZs hR h0 hT X
      refine (?_ : W p l e R s m args below meth c H locs cells slots Q (F0 m pc ls _)) T hT X
      refine va_newaK (atype := .boolean) hx hb (hts _ xaw3) rfl hdg rfl hn rfl (Nat.le_trans (Nat.mul_le_mul_left _ (show componentBytes (newarray.typeOf .boolean) ≤ 8 by decide)) hby) hcells hslots hz (fun H1 cA e1 z1 o1 hAr hNm => ?_)
      have hcA : cA = dA 3 := by
        have h9 : va_RA s (dA 3) .boolean := (hK.2 3 _ rfl).2
        exact Option.some.inj (hNm.symm.trans h9)
      subst hcA
      exact kk H1 locs (xRel_new hZs hR h0 hz z1 o1 e1)
    · cases hk
  · cases hk
theorem k3_newa3_mono : xMono3 k3_newa3 := by
  intro sx a b i z h nx ce sl st h' nx' ce' sl' st' hk
  unfold k3_newa3 at hk
  split at hk
  · split at hk
    · cases hk
      exact ⟨by dsimp only; omega, by dsimp only; omega⟩
    · cases hk
  · cases hk
def k3_newa4 : xK3 := fun sx a b i z M st => match st with
  | .int n :: rest => if M.2.1 ≠ 0 ∧ ¬ n < 0 ∧ n.toNatClampNeg * 8 ≤ 536870912 then some ((xup M.1 M.2.1 (.inl (4, n.toNatClampNeg, .inr (.inr (.inr (.inl (fun _ => 0)))))), M.2.1 + 1, M.2.2.1 + 1, M.2.2.2 + n.toNatClampNeg), .ref M.2.1 :: rest) else none
  | _ => none
def d3_newa4 : xD2 := fun own yn a b i z pc => (.newarray .double, 2, true)
theorem k3_newa4_ok : xOk3 k3_newa4 d3_newa4 := by
  intro Z D dA sx p l e R s m args below meth c H locs cells slots Q cc pc ls nL own yn a b i z h nx ce sl st h' nx' ce' sl' st' hX hV hR hdg hsd hk hcells hslots kk
  obtain ⟨hx, hb, hml, hown, hts, hK, hyn, hZs⟩ := hX
  unfold k3_newa4 at hk
  unfold d3_newa4 at hdg hsd kk
  split at hk
  · rename_i n rest
    split at hk
    · rename_i hc
      obtain ⟨h0, hn, hby⟩ := hc
      cases hk
      dsimp only at h0 hcells hslots kk
      simp only [Nat.add_sub_cancel_left] at hcells hslots kk
      intro T hT X
      have hz := xSize hZs hR h0 hT X
      refine (?_ : W p l e R s m args below meth c H locs cells slots Q (F0 m pc ls _)) T hT X
      refine va_newaK (atype := .double) hx hb (hts _ xaw4) rfl hdg rfl hn rfl (Nat.le_trans (Nat.mul_le_mul_left _ (show componentBytes (newarray.typeOf .double) ≤ 8 by decide)) hby) hcells hslots hz (fun H1 cA e1 z1 o1 hAr hNm => ?_)
      have hcA : cA = dA 4 := by
        have h9 : va_RA s (dA 4) .double := (hK.2 4 _ rfl).2
        exact Option.some.inj (hNm.symm.trans h9)
      subst hcA
      exact kk H1 locs (xRel_new hZs hR h0 hz z1 o1 e1)
    · cases hk
  · cases hk
theorem k3_newa4_mono : xMono3 k3_newa4 := by
  intro sx a b i z h nx ce sl st h' nx' ce' sl' st' hk
  unfold k3_newa4 at hk
  split at hk
  · split at hk
    · cases hk
      exact ⟨by dsimp only; omega, by dsimp only; omega⟩
    · cases hk
  · cases hk
def k3_anew5 : xK3 := fun sx a b i z M st => match st with
  | .int n :: rest => if M.2.1 ≠ 0 ∧ ¬ n < 0 ∧ n.toNatClampNeg * 4 ≤ 536870912 then some ((xup M.1 M.2.1 (.inl (5, n.toNatClampNeg, .inr (.inr (.inr (.inr (fun _ => none)))))), M.2.1 + 1, M.2.2.1 + 1, M.2.2.2 + n.toNatClampNeg), .ref M.2.1 :: rest) else none
  | _ => none
def d3_anew5 : xD2 := fun own yn a b i z pc => (.anewarray i, 3, xw b (.classLink own i (xcR 0)))
theorem k3_anew5_ok : xOk3 k3_anew5 d3_anew5 := by
  intro Z D dA sx p l e R s m args below meth c H locs cells slots Q cc pc ls nL own yn a b i z h nx ce sl st h' nx' ce' sl' st' hX hV hR hdg hsd hk hcells hslots kk
  obtain ⟨hx, hb, hml, hown, hts, hK, hyn, hZs⟩ := hX
  unfold k3_anew5 at hk
  unfold d3_anew5 at hdg hsd kk
  split at hk
  · rename_i n rest
    split at hk
    · rename_i hc
      obtain ⟨h0, hn, hby⟩ := hc
      cases hk
      dsimp only at h0 hcells hslots kk
      simp only [Nat.add_sub_cancel_left] at hcells hslots kk
      intro T hT X
      have hz := xSize hZs hR h0 hT X
      refine (?_ : W p l e R s m args below meth c H locs cells slots Q (F0 m pc ls _)) T hT X
      refine W.anew hx hb hown (hts _ (xw_ok hsd)) (va_AO.use hV.1) rfl hdg rfl hn hby hcells hslots (fun cA kA comp f1 f2 f3 f4 => ?_)
      have hcA : cA = dA 5 := by
        obtain ⟨kA9, comp9, g1, g2, g3, g4⟩ := (hK.2 5 _ rfl).2
        exact Option.some.inj (f1.symm.trans g4)
      subst hcA
      rw [hz]
      refine kk _ locs (xRel_new hZs hR h0 hz (by rw [Array.size_push, hz]) (fun q hq => by rw [Array.getElem?_push, if_neg (by omega)]) ?_)
      show (H.push _)[nx]? = some (vp_cell _ _)
      rw [vp_cell_q, ← hz, Array.getElem?_push_size, ← arrV_new]
      rfl
    · cases hk
  · cases hk
theorem k3_anew5_mono : xMono3 k3_anew5 := by
  intro sx a b i z h nx ce sl st h' nx' ce' sl' st' hk
  unfold k3_anew5 at hk
  split at hk
  · split at hk
    · cases hk
      exact ⟨by dsimp only; omega, by dsimp only; omega⟩
    · cases hk
  · cases hk
def k3_anew6 : xK3 := fun sx a b i z M st => match st with
  | .int n :: rest => if M.2.1 ≠ 0 ∧ ¬ n < 0 ∧ n.toNatClampNeg * 4 ≤ 536870912 then some ((xup M.1 M.2.1 (.inl (6, n.toNatClampNeg, .inr (.inr (.inr (.inr (fun _ => none)))))), M.2.1 + 1, M.2.2.1 + 1, M.2.2.2 + n.toNatClampNeg), .ref M.2.1 :: rest) else none
  | _ => none
def d3_anew6 : xD2 := fun own yn a b i z pc => (.anewarray i, 3, xw b (.classLink own i (xcR 2)))
theorem k3_anew6_ok : xOk3 k3_anew6 d3_anew6 := by
  intro Z D dA sx p l e R s m args below meth c H locs cells slots Q cc pc ls nL own yn a b i z h nx ce sl st h' nx' ce' sl' st' hX hV hR hdg hsd hk hcells hslots kk
  obtain ⟨hx, hb, hml, hown, hts, hK, hyn, hZs⟩ := hX
  unfold k3_anew6 at hk
  unfold d3_anew6 at hdg hsd kk
  split at hk
  · rename_i n rest
    split at hk
    · rename_i hc
      obtain ⟨h0, hn, hby⟩ := hc
      cases hk
      dsimp only at h0 hcells hslots kk
      simp only [Nat.add_sub_cancel_left] at hcells hslots kk
      intro T hT X
      have hz := xSize hZs hR h0 hT X
      refine (?_ : W p l e R s m args below meth c H locs cells slots Q (F0 m pc ls _)) T hT X
      refine W.anew hx hb hown (hts _ (xw_ok hsd)) (va_AO.use hV.2.1) rfl hdg rfl hn hby hcells hslots (fun cA kA comp f1 f2 f3 f4 => ?_)
      have hcA : cA = dA 6 := by
        obtain ⟨kA9, comp9, g1, g2, g3, g4⟩ := (hK.2 6 _ rfl).2
        exact Option.some.inj (f1.symm.trans g4)
      subst hcA
      rw [hz]
      refine kk _ locs (xRel_new hZs hR h0 hz (by rw [Array.size_push, hz]) (fun q hq => by rw [Array.getElem?_push, if_neg (by omega)]) ?_)
      show (H.push _)[nx]? = some (vp_cell _ _)
      rw [vp_cell_q, ← hz, Array.getElem?_push_size, ← arrV_new]
      rfl
    · cases hk
  · cases hk
theorem k3_anew6_mono : xMono3 k3_anew6 := by
  intro sx a b i z h nx ce sl st h' nx' ce' sl' st' hk
  unfold k3_anew6 at hk
  split at hk
  · split at hk
    · cases hk
      exact ⟨by dsimp only; omega, by dsimp only; omega⟩
    · cases hk
  · cases hk
def k3_anew7 : xK3 := fun sx a b i z M st => match st with
  | .int n :: rest => if M.2.1 ≠ 0 ∧ ¬ n < 0 ∧ n.toNatClampNeg * 4 ≤ 536870912 then some ((xup M.1 M.2.1 (.inl (7, n.toNatClampNeg, .inr (.inr (.inr (.inr (fun _ => none)))))), M.2.1 + 1, M.2.2.1 + 1, M.2.2.2 + n.toNatClampNeg), .ref M.2.1 :: rest) else none
  | _ => none
def d3_anew7 : xD2 := fun own yn a b i z pc => (.anewarray i, 3, xw b (.classLink own i (xcR 1)))
theorem k3_anew7_ok : xOk3 k3_anew7 d3_anew7 := by
  intro Z D dA sx p l e R s m args below meth c H locs cells slots Q cc pc ls nL own yn a b i z h nx ce sl st h' nx' ce' sl' st' hX hV hR hdg hsd hk hcells hslots kk
  obtain ⟨hx, hb, hml, hown, hts, hK, hyn, hZs⟩ := hX
  unfold k3_anew7 at hk
  unfold d3_anew7 at hdg hsd kk
  split at hk
  · rename_i n rest
    split at hk
    · rename_i hc
      obtain ⟨h0, hn, hby⟩ := hc
      cases hk
      dsimp only at h0 hcells hslots kk
      simp only [Nat.add_sub_cancel_left] at hcells hslots kk
      intro T hT X
      have hz := xSize hZs hR h0 hT X
      refine (?_ : W p l e R s m args below meth c H locs cells slots Q (F0 m pc ls _)) T hT X
      refine W.anew hx hb hown (hts _ (xw_ok hsd)) (va_AO.use hV.2.2) rfl hdg rfl hn hby hcells hslots (fun cA kA comp f1 f2 f3 f4 => ?_)
      have hcA : cA = dA 7 := by
        obtain ⟨kA9, comp9, g1, g2, g3, g4⟩ := (hK.2 7 _ rfl).2
        exact Option.some.inj (f1.symm.trans g4)
      subst hcA
      rw [hz]
      refine kk _ locs (xRel_new hZs hR h0 hz (by rw [Array.size_push, hz]) (fun q hq => by rw [Array.getElem?_push, if_neg (by omega)]) ?_)
      show (H.push _)[nx]? = some (vp_cell _ _)
      rw [vp_cell_q, ← hz, Array.getElem?_push_size, ← arrV_new]
      rfl
    · cases hk
  · cases hk
theorem k3_anew7_mono : xMono3 k3_anew7 := by
  intro sx a b i z h nx ce sl st h' nx' ce' sl' st' hk
  unfold k3_anew7 at hk
  split at hk
  · split at hk
    · cases hk
      exact ⟨by dsimp only; omega, by dsimp only; omega⟩
    · cases hk
  · cases hk
def x3ops : List (xK3 × xD2) := [(k3_constI, d3_constI), (k3_constJ, d3_constJ), (k3_constD, d3_constD), (k3_new, d3_new), (k3_newa0, d3_newa0), (k3_newa1, d3_newa1), (k3_newa2, d3_newa2), (k3_newa3, d3_newa3), (k3_newa4, d3_newa4), (k3_anew5, d3_anew5), (k3_anew6, d3_anew6), (k3_anew7, d3_anew7)]
theorem x3ops_ok : ∀ q ∈ x3ops, xOk3 q.1 q.2 := List.forall_mem_cons.mpr ⟨k3_constI_ok, List.forall_mem_cons.mpr ⟨k3_constJ_ok, List.forall_mem_cons.mpr ⟨k3_constD_ok, List.forall_mem_cons.mpr ⟨k3_new_ok, List.forall_mem_cons.mpr ⟨k3_newa0_ok, List.forall_mem_cons.mpr ⟨k3_newa1_ok, List.forall_mem_cons.mpr ⟨k3_newa2_ok, List.forall_mem_cons.mpr ⟨k3_newa3_ok, List.forall_mem_cons.mpr ⟨k3_newa4_ok, List.forall_mem_cons.mpr ⟨k3_anew5_ok, List.forall_mem_cons.mpr ⟨k3_anew6_ok, List.forall_mem_cons.mpr ⟨k3_anew7_ok, fun _ h => nomatch h⟩⟩⟩⟩⟩⟩⟩⟩⟩⟩⟩⟩
theorem x3ops_mono : ∀ q ∈ x3ops, xMono3 q.1 := List.forall_mem_cons.mpr ⟨k3_constI_mono, List.forall_mem_cons.mpr ⟨k3_constJ_mono, List.forall_mem_cons.mpr ⟨k3_constD_mono, List.forall_mem_cons.mpr ⟨k3_new_mono, List.forall_mem_cons.mpr ⟨k3_newa0_mono, List.forall_mem_cons.mpr ⟨k3_newa1_mono, List.forall_mem_cons.mpr ⟨k3_newa2_mono, List.forall_mem_cons.mpr ⟨k3_newa3_mono, List.forall_mem_cons.mpr ⟨k3_newa4_mono, List.forall_mem_cons.mpr ⟨k3_anew5_mono, List.forall_mem_cons.mpr ⟨k3_anew6_mono, List.forall_mem_cons.mpr ⟨k3_anew7_mono, fun _ h => nomatch h⟩⟩⟩⟩⟩⟩⟩⟩⟩⟩⟩⟩
