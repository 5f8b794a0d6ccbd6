/-! THE ABSTRACT INTERPRETER, 2: the heap. A cell is an array (number of its type in xtys, contents) or an object (number of its shaper in vwCl, fields in the order of the tables); the heap is a function of the address. -/
abbrev xC : Type := (Nat × vp_A) ⊕ (Nat × List Value)
abbrev xH : Type := Nat → Option xC
def xup (h : xH) (a : Nat) (c : xC) : xH := fun q => if q = a then some c else h q
def xE (dA : Nat → ClassId) (c : xC) : va_E := match c with
  | .inl x => .inl (dA x.1, x.2)
  | .inr o => .inr o
def xtys (dA : Nat → ClassId) : List (ClassId × FieldType) := [(dA 0, .int), (dA 1, .long), (dA 2, .byte), (dA 3, .boolean), (dA 4, .double), (dA 5, .object RX0), (dA 6, .object RX2), (dA 7, .object RX1)]
/-- the words of the tables that any state of the run keeps -/
def xLT : List Cond := lw_tbl.filter goodWord
def xcR (ci : Nat) : String := match ci with
  | 0 => RX0
  | 1 => RX1
  | 2 => RX2
  | 3 => RX3
  | 4 => RX4
  | 5 => RX5
  | _ => RX6
def xcT (ci : Nat) : u_T := match ci with
  | 0 => TX0
  | 1 => TX1
  | 2 => TX2
  | 3 => TX3
  | 4 => TX4
  | 5 => TX5
  | _ => TX6
def xcty (ci : Nat) : Nat → FieldType := match ci with
  | 0 => tyX0
  | 1 => tyX1
  | 2 => tyX2
  | 3 => tyX3
  | 4 => tyX4
  | 5 => tyX5
  | _ => tyX6
def xcN (ci : Nat) : Nat := match ci with
  | 0 => 5
  | 1 => 14
  | 2 => 14
  | 3 => 2
  | 4 => 10
  | 5 => 9
  | _ => 29
theorem xLT_of {i : Nat} {w : Cond} (h : (lw_tbl[i]? == some w && goodWord w) = true) : w ∈ xLT := by
  simp only [Bool.and_eq_true, beq_iff_eq] at h
  exact List.mem_filter.mpr ⟨List.mem_of_getElem? h.1, h.2⟩
theorem xcl_in0 : ∀ w ∈ u_ws RX0 TX0 5, w ∈ xLT := by decide +kernel
theorem xcl_in1 : ∀ w ∈ u_ws RX1 TX1 14, w ∈ xLT := by decide +kernel
theorem xcl_in2 : ∀ w ∈ u_ws RX2 TX2 14, w ∈ xLT := by decide +kernel
theorem xcl_in3 : ∀ w ∈ u_ws RX3 TX3 2, w ∈ xLT := by decide +kernel
theorem xcl_in4 : ∀ w ∈ u_ws RX4 TX4 10, w ∈ xLT := by decide +kernel
theorem xcl_in5 : ∀ w ∈ u_ws RX5 TX5 9, w ∈ xLT := by decide +kernel
theorem xcl_in6 : ∀ w ∈ u_ws RX6 TX6 29, w ∈ xLT := by decide +kernel
theorem xcl_ok (ci : Nat) (h : ci < 7) : vwCl[ci]? = some (xcR ci, xcT ci, xcN ci) ∧ (∀ w ∈ u_ws (xcR ci) (xcT ci) (xcN ci), w ∈ xLT) ∧ (∀ k, k < xcN ci → parseFieldDescriptor (xcT ci k).2.2.1 = some (xcty ci k)) ∧ (∀ a, a < xcN ci → ∀ b, b < xcN ci → a ≠ b → (xcT ci a).2.1 ≠ (xcT ci b).2.1) := by
  match ci, h with
  | 0, _ => exact ⟨rfl, xcl_in0, tyX0_ok, nmX0⟩
  | 1, _ => exact ⟨rfl, xcl_in1, tyX1_ok, nmX1⟩
  | 2, _ => exact ⟨rfl, xcl_in2, tyX2_ok, nmX2⟩
  | 3, _ => exact ⟨rfl, xcl_in3, tyX3_ok, nmX3⟩
  | 4, _ => exact ⟨rfl, xcl_in4, tyX4_ok, nmX4⟩
  | 5, _ => exact ⟨rfl, xcl_in5, tyX5_ok, nmX5⟩
  | 6, _ => exact ⟨rfl, xcl_in6, tyX6_ok, nmX6⟩
def xfit (ty : FieldType) (v : Value) : Bool := match ty, v with
  | .int, .int _ => true
  | .long, .long _ => true
  | .boolean, .int x => x == 0 || x == 1
  | .object _, .ref _ => true
  | .array _, .ref _ => true
  | _, _ => false
theorem xfit_ok {ty : FieldType} {v : Value} (h : xfit ty v = true) : narrow ty v = v ∧ fits ty v = true := by
  unfold xfit at h
  split at h
  · exact ⟨rfl, rfl⟩
  · exact ⟨rfl, rfl⟩
  · rename_i x
    have h2 : x = 0 ∨ x = 1 := by simpa using h
    rcases h2 with rfl | rfl <;> exact ⟨by decide, by decide⟩
  · exact ⟨rfl, rfl⟩
  · exact ⟨rfl, rfl⟩
  · cases h
def xCov (dA : Nat → ClassId) (h : xH) (ws : va_W) : Prop := ∀ (a : Nat) (c : xC), h a = some c → ∃ k : Nat, ws[k]? = some (a, xE dA c)
theorem xCov_set {dA : Nat → ClassId} {h : xH} {ws : va_W} {A : Nat → Prop} {k a : Nat} {e0 : va_E} (hC : xCov dA h ws) (hD : va_D A ws) (hk : ws[k]? = some (a, e0)) (c' : xC) : xCov dA (xup h a c') (ws.set k (a, xE dA c')) := by
  have hl := (List.getElem?_eq_some_iff.mp hk).1
  intro b c hb
  unfold xup at hb
  by_cases e : b = a
  · subst e
    rw [if_pos rfl] at hb
    cases hb
    exact ⟨k, by rw [List.getElem?_set_self hl]⟩
  · rw [if_neg e] at hb
    obtain ⟨j, hj⟩ := hC b c hb
    refine ⟨j, ?_⟩
    rw [List.getElem?_set_ne]
    · exact hj
    · intro q
      subst q
      rw [hj] at hk
      cases hk
      exact e rfl
theorem xCov_push {dA : Nat → ClassId} {h : xH} {ws : va_W} (hC : xCov dA h ws) (q : Nat) (c' : xC) : xCov dA (xup h q c') (ws ++ [(q, xE dA c')]) := by
  intro b c hb
  unfold xup at hb
  by_cases e : b = q
  · subst e
    rw [if_pos rfl] at hb
    cases hb
    exact ⟨ws.length, by simp⟩
  · rw [if_neg e] at hb
    obtain ⟨j, hj⟩ := hC b c hb
    exact ⟨j, by rw [List.getElem?_append_left (List.getElem?_eq_some_iff.mp hj).1]; exact hj⟩
/-- where the method stands: its code, its shaper, the words, the tables -/
def xCtx (Z : State) (D : va_G) (dA : Nat → ClassId) (p : Program) (s : State) (m : MethodId) (args : Array Value) (meth : Method) (c : Code) (cc : ByteArray) (nL : Nat) (own yn : String) : Prop :=
  p.tables.exec = Jvm.exec ∧ c.code = cc ∧ c.maxLocals = nL ∧ s.vm.findClass own = some m.cls ∧ (∀ w ∈ xLT, w.before args s = true) ∧ va_K D vwCl (xtys dA) s ∧ meth.name = yn ∧ Z.heap.size ≤ s.heap.size
abbrev xA (Z : State) : Nat → Prop := fun q => Z.heap.size ≤ q
def xNx (Z s : State) (h : xH) (nx cells : Nat) : Prop := nx ≠ 0 → nx = s.heap.size + cells ∧ (nx = Z.heap.size ∨ ∃ c, h (nx - 1) = some c)
/-- the heap H holds what h says; Z: the start of the law -/
def xRel (Z : State) (D : va_G) (dA : Nat → ClassId) (s : State) (h : xH) (nx : Nat) (H : Heap) (locs : List Loc) (cells : Nat) : Prop :=
  (∃ ws : va_W, va_P D vwCl ws H ∧ va_D (xA Z) ws ∧ xCov dA h ws) ∧ va_S (xA Z) s.heap H locs ∧ xNx Z s h nx cells
theorem xNx_up {Z s : State} {h : xH} {nx cells a : Nat} {c : xC} (hN : xNx Z s h nx cells) : xNx Z s (xup h a c) nx cells := by
  intro h0
  obtain ⟨h1, h2⟩ := hN h0
  refine ⟨h1, h2.imp id ?_⟩
  rintro ⟨c2, hc2⟩
  unfold xup
  by_cases e : nx - 1 = a
  · exact ⟨c, by rw [if_pos e]⟩
  · exact ⟨c2, by rw [if_neg e]; exact hc2⟩
abbrev xK2 : Type := Nat → Nat → xH → List Value → Option (xH × List Value)
abbrev xD2 : Type := String → String → Nat → Nat → Nat → Int → Nat → Instr × Nat × Bool
def xOk2 (k : xK2) (d : xD2) : Prop :=
  ∀ (Z : State) (D : va_G) (dA : Nat → ClassId) (p : Program) (l : Launch) (e : Env) (R : Room) (s : State) (m : MethodId) (args : Array Value) (below : List Frame) (meth : Method) (c : Code) (H : Heap) (locs : List Loc) (cells slots : Nat) (Q : State → Prop) (cc : ByteArray) (pc : Nat) (ls : Array Slot) (nL : Nat) (own yn : String) (a b i : Nat) (z : Int) (h : xH) (nx : Nat) (st : List Value) (h' : xH) (st' : List Value),
    xCtx Z D dA p s m args meth c cc nL own yn → xRel Z D dA s h nx H locs cells → decode cc pc = .ok ((d own yn a b i z pc).1, (d own yn a b i z pc).2.1) → (d own yn a b i z pc).2.2 = true → k a b h st = some (h', st') →
    (∀ (H1 : Heap) (locs1 : List Loc), xRel Z D dA s h' nx H1 locs1 cells → W p l e R s m args below meth c H1 locs1 cells slots Q (F0 m (pc + (d own yn a b i z pc).2.1) ls st')) → W p l e R s m args below meth c H locs cells slots Q (F0 m pc ls st)

def k2_getf : xK2 := fun a b h st => match st with
  | .ref r :: rest => match h r with
    | some (.inr (ci, fs)) => if ci = a then (match fs[b]? with
      | some v => some (h, v :: rest)
      | none => none) else none
    | _ => none
  | _ => none
def d2_getf : xD2 := fun own yn a b i z pc => (.getfield i, 3, decide (a < 7) && decide (b < xcN a) && decide ((xcT a b).1 = xcR a) && (lw_tbl[z.toNat]? == some (.fieldLink own i (xcR a) (xcT a b).2.1 (xcT a b).2.2.1) && goodWord (.fieldLink own i (xcR a) (xcT a b).2.1 (xcT a b).2.2.1)))
theorem k2_getf_ok : xOk2 k2_getf d2_getf := by
  intro Z D dA p l e R s m args below meth c H locs cells slots Q cc pc ls nL own yn a b i z h nx st h' st' hX hR hdg hsd hk kk
  obtain ⟨hx, hb, hml, hown, hts, hK, hyn, hZs⟩ := hX
  obtain ⟨⟨ws, hP, hD, hC⟩, hS, hN⟩ := id hR
  unfold k2_getf at hk
  unfold d2_getf at hdg hsd kk
  simp only [Bool.and_eq_true, decide_eq_true_eq] at hsd
  obtain ⟨⟨⟨ha7, hbN⟩, hdecl⟩, hl⟩ := hsd
  obtain ⟨hcl, hin, hty, hnm⟩ := xcl_ok a ha7
  have hlk := hts _ (xLT_of (by simp only [Bool.and_eq_true]; exact hl))
  split at hk
  · rename_i r rest
    split at hk
    · rename_i ci fs hr
      split at hk
      · rename_i e
        subst e
        split at hk
        · rename_i v hv
          cases hk
          obtain ⟨k0, hk0⟩ := hC r _ hr
          exact va_get hx hb hts hin hown hK hP k0 hk0 hcl b hbN hlk (fun x hx => by rw [hdecl] at hx; exact hx) hv hdg (kk H locs hR)
        · cases hk
      · cases hk
    · cases hk
  · cases hk
def k2_putf : xK2 := fun a b h st => match st with
  | v :: .ref r :: rest => match h r with
    | some (.inr (ci, fs)) => if ci = a ∧ b < fs.length ∧ xfit (xcty a b) v = true then some (xup h r (.inr (a, fs.set b v)), rest) else none
    | _ => none
  | _ => none
def d2_putf : xD2 := fun own yn a b i z pc => (.putfield i, 3, (decide (a < 7) && decide (b < xcN a) && decide ((xcT a b).1 = xcR a) && (lw_tbl[z.toNat]? == some (.fieldLink own i (xcR a) (xcT a b).2.1 (xcT a b).2.2.1) && goodWord (.fieldLink own i (xcR a) (xcT a b).2.1 (xcT a b).2.2.1))) && decide ((xcT a b).2.2.2 = false))
theorem k2_putf_ok : xOk2 k2_putf d2_putf := by
  intro Z D dA p l e R s m args below meth c H locs cells slots Q cc pc ls nL own yn a b i z h nx st h' st' hX hR hdg hsd hk kk
  obtain ⟨hx, hb, hml, hown, hts, hK, hyn, hZs⟩ := hX
  obtain ⟨⟨ws, hP, hD, hC⟩, hS, hN⟩ := id hR
  unfold k2_putf at hk
  unfold d2_putf at hdg hsd kk
  simp only [Bool.and_eq_true, decide_eq_true_eq] at hsd
  obtain ⟨hsd, hfin⟩ := hsd
  obtain ⟨⟨⟨ha7, hbN⟩, hdecl⟩, hl⟩ := hsd
  obtain ⟨hcl, hin, hty, hnm⟩ := xcl_ok a ha7
  have hlk := hts _ (xLT_of (by simp only [Bool.and_eq_true]; exact hl))
  split at hk
  · rename_i v r rest
    split at hk
    · rename_i ci fs hr
      split at hk
      · rename_i e
        obtain ⟨rfl, hlen, hf⟩ := e
        cases hk
        obtain ⟨k0, hk0⟩ := hC r _ hr
        obtain ⟨hn1, hf1⟩ := xfit_ok hf
        refine va_put hx hb hts hin _ hty hnm hown hK hP hD hS k0 hk0 hcl b hbN hlk (fun x hx => by rw [hdecl] at hx; exact hx) hfin (hty b hbN) hn1 hf1 hlen hdg (fun H1 locs1 hP1 hD1 hS1 => ?_)
        exact kk H1 locs1 ⟨⟨_, hP1, hD1, xCov_set hC hD hk0 _⟩, hS1, xNx_up hN⟩
      · cases hk
    · cases hk
  · cases hk
def k2_putff : xK2 := fun a b h st => match st with
  | v :: .ref r :: rest => match h r with
    | some (.inr (ci, fs)) => if ci = a ∧ b < fs.length ∧ xfit (xcty a b) v = true then some (xup h r (.inr (a, fs.set b v)), rest) else none
    | _ => none
  | _ => none
def d2_putff : xD2 := fun own yn a b i z pc => (.putfield i, 3, (decide (a < 7) && decide (b < xcN a) && decide ((xcT a b).1 = xcR a) && (lw_tbl[z.toNat]? == some (.fieldLink own i (xcR a) (xcT a b).2.1 (xcT a b).2.2.1) && goodWord (.fieldLink own i (xcR a) (xcT a b).2.1 (xcT a b).2.2.1))) && decide ((xcT a b).2.2.2 = true ∧ yn = "<init>" ∧ xcR a = own))
theorem k2_putff_ok : xOk2 k2_putff d2_putff := by
  intro Z D dA p l e R s m args below meth c H locs cells slots Q cc pc ls nL own yn a b i z h nx st h' st' hX hR hdg hsd hk kk
  obtain ⟨hx, hb, hml, hown, hts, hK, hyn, hZs⟩ := hX
  obtain ⟨⟨ws, hP, hD, hC⟩, hS, hN⟩ := id hR
  unfold k2_putff at hk
  unfold d2_putff at hdg hsd kk
  simp only [Bool.and_eq_true, decide_eq_true_eq] at hsd
  obtain ⟨hsd, hfin⟩ := hsd
  obtain ⟨⟨⟨ha7, hbN⟩, hdecl⟩, hl⟩ := hsd
  obtain ⟨hcl, hin, hty, hnm⟩ := xcl_ok a ha7
  have hlk := hts _ (xLT_of (by simp only [Bool.and_eq_true]; exact hl))
  split at hk
  · rename_i v r rest
    split at hk
    · rename_i ci fs hr
      split at hk
      · rename_i e
        obtain ⟨rfl, hlen, hf⟩ := e
        cases hk
        obtain ⟨k0, hk0⟩ := hC r _ hr
        obtain ⟨hn1, hf1⟩ := xfit_ok hf
        refine va_putF hx hb hts hin _ hty hnm hown hK hP hD hS k0 hk0 hcl b hbN hlk (fun x hx => by rw [hdecl] at hx; exact hx) hfin.1 (hyn.trans hfin.2.1) (hdecl.trans hfin.2.2) (hty b hbN) hn1 hf1 hlen hdg (fun H1 locs1 hP1 hD1 hS1 => ?_)
        exact kk H1 locs1 ⟨⟨_, hP1, hD1, xCov_set hC hD hk0 _⟩, hS1, xNx_up hN⟩
      · cases hk
    · cases hk
  · cases hk
def k2_iald : xK2 := fun a b h st => match st with
  | .int j :: .ref r :: rest => match h r with
    | some (.inl (0, n, .inl f)) => if ¬ (j < 0 ∨ n ≤ j.toNatClampNeg) then some (h, .int (f j.toNatClampNeg) :: rest) else none
    | _ => none
  | _ => none
def d2_iald : xD2 := fun own yn a b i z pc => (.iaload, 1, true)
theorem k2_iald_ok : xOk2 k2_iald d2_iald := by
  intro Z D dA p l e R s m args below meth c H locs cells slots Q cc pc ls nL own yn a b i z h nx st h' st' hX hR hdg hsd hk kk
  obtain ⟨hx, hb, hml, hown, hts, hK, hyn, hZs⟩ := hX
  obtain ⟨⟨ws, hP, hD, hC⟩, hS, hN⟩ := id hR
  unfold k2_iald at hk
  unfold d2_iald at hdg hsd kk
  split at hk
  · rename_i j r rest
    split at hk
    · rename_i n f hr
      split at hk
      · rename_i hin
        cases hk
        obtain ⟨k0, hk0⟩ := hC r _ hr
        exact va_iald hx hb hK hP k0 0 hk0 rfl hin hdg (kk H locs hR)
      · cases hk
    · cases hk
  · cases hk
def k2_bald : xK2 := fun a b h st => match st with
  | .int j :: .ref r :: rest => match h r with
    | some (.inl (2, n, .inl f)) => if ¬ (j < 0 ∨ n ≤ j.toNatClampNeg) then some (h, .int (f j.toNatClampNeg) :: rest) else none
    | _ => none
  | _ => none
def d2_bald : xD2 := fun own yn a b i z pc => (.baload, 1, true)
theorem k2_bald_ok : xOk2 k2_bald d2_bald := by
  intro Z D dA p l e R s m args below meth c H locs cells slots Q cc pc ls nL own yn a b i z h nx st h' st' hX hR hdg hsd hk kk
  obtain ⟨hx, hb, hml, hown, hts, hK, hyn, hZs⟩ := hX
  obtain ⟨⟨ws, hP, hD, hC⟩, hS, hN⟩ := id hR
  unfold k2_bald at hk
  unfold d2_bald at hdg hsd kk
  split at hk
  · rename_i j r rest
    split at hk
    · rename_i n f hr
      split at hk
      · rename_i hin
        cases hk
        obtain ⟨k0, hk0⟩ := hC r _ hr
        exact va_bald hx hb hK hP k0 2 hk0 rfl hin hdg (kk H locs hR)
      · cases hk
    · cases hk
  · cases hk
def k2_zald : xK2 := fun a b h st => match st with
  | .int j :: .ref r :: rest => match h r with
    | some (.inl (3, n, .inl f)) => if ¬ (j < 0 ∨ n ≤ j.toNatClampNeg) then some (h, .int (f j.toNatClampNeg) :: rest) else none
    | _ => none
  | _ => none
def d2_zald : xD2 := fun own yn a b i z pc => (.baload, 1, true)
theorem k2_zald_ok : xOk2 k2_zald d2_zald := by
  intro Z D dA p l e R s m args below meth c H locs cells slots Q cc pc ls nL own yn a b i z h nx st h' st' hX hR hdg hsd hk kk
  obtain ⟨hx, hb, hml, hown, hts, hK, hyn, hZs⟩ := hX
  obtain ⟨⟨ws, hP, hD, hC⟩, hS, hN⟩ := id hR
  unfold k2_zald at hk
  unfold d2_zald at hdg hsd kk
  split at hk
  · rename_i j r rest
    split at hk
    · rename_i n f hr
      split at hk
      · rename_i hin
        cases hk
        obtain ⟨k0, hk0⟩ := hC r _ hr
        exact va_zald hx hb hK hP k0 3 hk0 rfl hin hdg (kk H locs hR)
      · cases hk
    · cases hk
  · cases hk
def k2_lald : xK2 := fun a b h st => match st with
  | .int j :: .ref r :: rest => match h r with
    | some (.inl (1, n, .inr (.inl f))) => if ¬ (j < 0 ∨ n ≤ j.toNatClampNeg) then some (h, .long (f j.toNatClampNeg) :: rest) else none
    | _ => none
  | _ => none
def d2_lald : xD2 := fun own yn a b i z pc => (.laload, 1, true)
theorem k2_lald_ok : xOk2 k2_lald d2_lald := by
  intro Z D dA p l e R s m args below meth c H locs cells slots Q cc pc ls nL own yn a b i z h nx st h' st' hX hR hdg hsd hk kk
  obtain ⟨hx, hb, hml, hown, hts, hK, hyn, hZs⟩ := hX
  obtain ⟨⟨ws, hP, hD, hC⟩, hS, hN⟩ := id hR
  unfold k2_lald at hk
  unfold d2_lald at hdg hsd kk
  split at hk
  · rename_i j r rest
    split at hk
    · rename_i n f hr
      split at hk
      · rename_i hin
        cases hk
        obtain ⟨k0, hk0⟩ := hC r _ hr
        exact va_lald hx hb hK hP k0 1 hk0 rfl hin hdg (kk H locs hR)
      · cases hk
    · cases hk
  · cases hk
def k2_dald : xK2 := fun a b h st => match st with
  | .int j :: .ref r :: rest => match h r with
    | some (.inl (4, n, .inr (.inr (.inr (.inl f))))) => if ¬ (j < 0 ∨ n ≤ j.toNatClampNeg) then some (h, .double (f j.toNatClampNeg) :: rest) else none
    | _ => none
  | _ => none
def d2_dald : xD2 := fun own yn a b i z pc => (.daload, 1, true)
theorem k2_dald_ok : xOk2 k2_dald d2_dald := by
  intro Z D dA p l e R s m args below meth c H locs cells slots Q cc pc ls nL own yn a b i z h nx st h' st' hX hR hdg hsd hk kk
  obtain ⟨hx, hb, hml, hown, hts, hK, hyn, hZs⟩ := hX
  obtain ⟨⟨ws, hP, hD, hC⟩, hS, hN⟩ := id hR
  unfold k2_dald at hk
  unfold d2_dald at hdg hsd kk
  split at hk
  · rename_i j r rest
    split at hk
    · rename_i n f hr
      split at hk
      · rename_i hin
        cases hk
        obtain ⟨k0, hk0⟩ := hC r _ hr
        exact va_dald hx hb hK hP k0 4 hk0 rfl hin hdg (kk H locs hR)
      · cases hk
    · cases hk
  · cases hk
def k2_aald5 : xK2 := fun a b h st => match st with
  | .int j :: .ref r :: rest => match h r with
    | some (.inl (5, n, .inr (.inr (.inr (.inr f))))) => if ¬ (j < 0 ∨ n ≤ j.toNatClampNeg) then some (h, va_rf (f j.toNatClampNeg) :: rest) else none
    | _ => none
  | _ => none
def d2_aald5 : xD2 := fun own yn a b i z pc => (.aaload, 1, true)
theorem k2_aald5_ok : xOk2 k2_aald5 d2_aald5 := by
  intro Z D dA p l e R s m args below meth c H locs cells slots Q cc pc ls nL own yn a b i z h nx st h' st' hX hR hdg hsd hk kk
  obtain ⟨hx, hb, hml, hown, hts, hK, hyn, hZs⟩ := hX
  obtain ⟨⟨ws, hP, hD, hC⟩, hS, hN⟩ := id hR
  unfold k2_aald5 at hk
  unfold d2_aald5 at hdg hsd kk
  split at hk
  · rename_i j r rest
    split at hk
    · rename_i n f hr
      split at hk
      · rename_i hin
        cases hk
        obtain ⟨k0, hk0⟩ := hC r _ hr
        exact va_aldq hx hb hK hP k0 5 hk0 rfl hin hdg (kk H locs hR)
      · cases hk
    · cases hk
  · cases hk
def k2_aald6 : xK2 := fun a b h st => match st with
  | .int j :: .ref r :: rest => match h r with
    | some (.inl (6, n, .inr (.inr (.inr (.inr f))))) => if ¬ (j < 0 ∨ n ≤ j.toNatClampNeg) then some (h, va_rf (f j.toNatClampNeg) :: rest) else none
    | _ => none
  | _ => none
def d2_aald6 : xD2 := fun own yn a b i z pc => (.aaload, 1, true)
theorem k2_aald6_ok : xOk2 k2_aald6 d2_aald6 := by
  intro Z D dA p l e R s m args below meth c H locs cells slots Q cc pc ls nL own yn a b i z h nx st h' st' hX hR hdg hsd hk kk
  obtain ⟨hx, hb, hml, hown, hts, hK, hyn, hZs⟩ := hX
  obtain ⟨⟨ws, hP, hD, hC⟩, hS, hN⟩ := id hR
  unfold k2_aald6 at hk
  unfold d2_aald6 at hdg hsd kk
  split at hk
  · rename_i j r rest
    split at hk
    · rename_i n f hr
      split at hk
      · rename_i hin
        cases hk
        obtain ⟨k0, hk0⟩ := hC r _ hr
        exact va_aldq hx hb hK hP k0 6 hk0 rfl hin hdg (kk H locs hR)
      · cases hk
    · cases hk
  · cases hk
def k2_aald7 : xK2 := fun a b h st => match st with
  | .int j :: .ref r :: rest => match h r with
    | some (.inl (7, n, .inr (.inr (.inr (.inr f))))) => if ¬ (j < 0 ∨ n ≤ j.toNatClampNeg) then some (h, va_rf (f j.toNatClampNeg) :: rest) else none
    | _ => none
  | _ => none
def d2_aald7 : xD2 := fun own yn a b i z pc => (.aaload, 1, true)
theorem k2_aald7_ok : xOk2 k2_aald7 d2_aald7 := by
  intro Z D dA p l e R s m args below meth c H locs cells slots Q cc pc ls nL own yn a b i z h nx st h' st' hX hR hdg hsd hk kk
  obtain ⟨hx, hb, hml, hown, hts, hK, hyn, hZs⟩ := hX
  obtain ⟨⟨ws, hP, hD, hC⟩, hS, hN⟩ := id hR
  unfold k2_aald7 at hk
  unfold d2_aald7 at hdg hsd kk
  split at hk
  · rename_i j r rest
    split at hk
    · rename_i n f hr
      split at hk
      · rename_i hin
        cases hk
        obtain ⟨k0, hk0⟩ := hC r _ hr
        exact va_aldq hx hb hK hP k0 7 hk0 rfl hin hdg (kk H locs hR)
      · cases hk
    · cases hk
  · cases hk
def k2_iast : xK2 := fun a b h st => match st with
  | .int v :: .int j :: .ref r :: rest => match h r with
    | some (.inl (0, n, .inl f)) => if ¬ (j < 0 ∨ n ≤ j.toNatClampNeg) then some (xup h r (.inl (0, n, .inl (upd f j.toNatClampNeg v))), rest) else none
    | _ => none
  | _ => none
def d2_iast : xD2 := fun own yn a b i z pc => (.iastore, 1, true)
theorem k2_iast_ok : xOk2 k2_iast d2_iast := by
  intro Z D dA p l e R s m args below meth c H locs cells slots Q cc pc ls nL own yn a b i z h nx st h' st' hX hR hdg hsd hk kk
  obtain ⟨hx, hb, hml, hown, hts, hK, hyn, hZs⟩ := hX
  obtain ⟨⟨ws, hP, hD, hC⟩, hS, hN⟩ := id hR
  unfold k2_iast at hk
  unfold d2_iast at hdg hsd kk
  split at hk
  · rename_i v j r rest
    split at hk
    · rename_i n f hr
      split at hk
      · rename_i hin
        cases hk
        obtain ⟨k0, hk0⟩ := hC r _ hr
        refine va_iast hx hb hK hP hD hS k0 0 hk0 rfl hin hdg (fun H1 locs1 hP1 hD1 hS1 => ?_)
        exact kk H1 locs1 ⟨⟨_, hP1, hD1, xCov_set (c' := .inl (0, n, .inl (upd f j.toNatClampNeg v))) hC hD hk0⟩, hS1, xNx_up hN⟩
      · cases hk
    · cases hk
  · cases hk
def k2_bast : xK2 := fun a b h st => match st with
  | .int v :: .int j :: .ref r :: rest => match h r with
    | some (.inl (2, n, .inl f)) => if ¬ (j < 0 ∨ n ≤ j.toNatClampNeg) then some (xup h r (.inl (2, n, .inl (upd f j.toNatClampNeg (vp_nar .byte v)))), rest) else none
    | _ => none
  | _ => none
def d2_bast : xD2 := fun own yn a b i z pc => (.bastore, 1, true)
theorem k2_bast_ok : xOk2 k2_bast d2_bast := by
  intro Z D dA p l e R s m args below meth c H locs cells slots Q cc pc ls nL own yn a b i z h nx st h' st' hX hR hdg hsd hk kk
  obtain ⟨hx, hb, hml, hown, hts, hK, hyn, hZs⟩ := hX
  obtain ⟨⟨ws, hP, hD, hC⟩, hS, hN⟩ := id hR
  unfold k2_bast at hk
  unfold d2_bast at hdg hsd kk
  split at hk
  · rename_i v j r rest
    split at hk
    · rename_i n f hr
      split at hk
      · rename_i hin
        cases hk
        obtain ⟨k0, hk0⟩ := hC r _ hr
        refine va_bast hx hb hK hP hD hS k0 2 hk0 rfl hin hdg (fun H1 locs1 hP1 hD1 hS1 => ?_)
        exact kk H1 locs1 ⟨⟨_, hP1, hD1, xCov_set (c' := .inl (2, n, .inl (upd f j.toNatClampNeg (vp_nar .byte v)))) hC hD hk0⟩, hS1, xNx_up hN⟩
      · cases hk
    · cases hk
  · cases hk
def k2_zast : xK2 := fun a b h st => match st with
  | .int v :: .int j :: .ref r :: rest => match h r with
    | some (.inl (3, n, .inl f)) => if ¬ (j < 0 ∨ n ≤ j.toNatClampNeg) then some (xup h r (.inl (3, n, .inl (upd f j.toNatClampNeg (vp_nar .boolean v)))), rest) else none
    | _ => none
  | _ => none
def d2_zast : xD2 := fun own yn a b i z pc => (.bastore, 1, true)
theorem k2_zast_ok : xOk2 k2_zast d2_zast := by
  intro Z D dA p l e R s m args below meth c H locs cells slots Q cc pc ls nL own yn a b i z h nx st h' st' hX hR hdg hsd hk kk
  obtain ⟨hx, hb, hml, hown, hts, hK, hyn, hZs⟩ := hX
  obtain ⟨⟨ws, hP, hD, hC⟩, hS, hN⟩ := id hR
  unfold k2_zast at hk
  unfold d2_zast at hdg hsd kk
  split at hk
  · rename_i v j r rest
    split at hk
    · rename_i n f hr
      split at hk
      · rename_i hin
        cases hk
        obtain ⟨k0, hk0⟩ := hC r _ hr
        refine va_zast hx hb hK hP hD hS k0 3 hk0 rfl hin hdg (fun H1 locs1 hP1 hD1 hS1 => ?_)
        exact kk H1 locs1 ⟨⟨_, hP1, hD1, xCov_set (c' := .inl (3, n, .inl (upd f j.toNatClampNeg (vp_nar .boolean v)))) hC hD hk0⟩, hS1, xNx_up hN⟩
      · cases hk
    · cases hk
  · cases hk
def k2_last : xK2 := fun a b h st => match st with
  | .long v :: .int j :: .ref r :: rest => match h r with
    | some (.inl (1, n, .inr (.inl f))) => if ¬ (j < 0 ∨ n ≤ j.toNatClampNeg) then some (xup h r (.inl (1, n, .inr (.inl (vp_updL f j.toNatClampNeg v)))), rest) else none
    | _ => none
  | _ => none
def d2_last : xD2 := fun own yn a b i z pc => (.lastore, 1, true)
theorem k2_last_ok : xOk2 k2_last d2_last := by
  intro Z D dA p l e R s m args below meth c H locs cells slots Q cc pc ls nL own yn a b i z h nx st h' st' hX hR hdg hsd hk kk
  obtain ⟨hx, hb, hml, hown, hts, hK, hyn, hZs⟩ := hX
  obtain ⟨⟨ws, hP, hD, hC⟩, hS, hN⟩ := id hR
  unfold k2_last at hk
  unfold d2_last at hdg hsd kk
  split at hk
  · rename_i v j r rest
    split at hk
    · rename_i n f hr
      split at hk
      · rename_i hin
        cases hk
        obtain ⟨k0, hk0⟩ := hC r _ hr
        refine va_last hx hb hK hP hD hS k0 1 hk0 rfl hin hdg (fun H1 locs1 hP1 hD1 hS1 => ?_)
        exact kk H1 locs1 ⟨⟨_, hP1, hD1, xCov_set (c' := .inl (1, n, .inr (.inl (vp_updL f j.toNatClampNeg v)))) hC hD hk0⟩, hS1, xNx_up hN⟩
      · cases hk
    · cases hk
  · cases hk
def k2_dast : xK2 := fun a b h st => match st with
  | .double v :: .int j :: .ref r :: rest => match h r with
    | some (.inl (4, n, .inr (.inr (.inr (.inl f))))) => if ¬ (j < 0 ∨ n ≤ j.toNatClampNeg) then some (xup h r (.inl (4, n, .inr (.inr (.inr (.inl (vf_upd f j.toNatClampNeg v)))))), rest) else none
    | _ => none
  | _ => none
def d2_dast : xD2 := fun own yn a b i z pc => (.dastore, 1, true)
theorem k2_dast_ok : xOk2 k2_dast d2_dast := by
  intro Z D dA p l e R s m args below meth c H locs cells slots Q cc pc ls nL own yn a b i z h nx st h' st' hX hR hdg hsd hk kk
  obtain ⟨hx, hb, hml, hown, hts, hK, hyn, hZs⟩ := hX
  obtain ⟨⟨ws, hP, hD, hC⟩, hS, hN⟩ := id hR
  unfold k2_dast at hk
  unfold d2_dast at hdg hsd kk
  split at hk
  · rename_i v j r rest
    split at hk
    · rename_i n f hr
      split at hk
      · rename_i hin
        cases hk
        obtain ⟨k0, hk0⟩ := hC r _ hr
        refine va_dast hx hb hK hP hD hS k0 4 hk0 rfl hin hdg (fun H1 locs1 hP1 hD1 hS1 => ?_)
        exact kk H1 locs1 ⟨⟨_, hP1, hD1, xCov_set (c' := .inl (4, n, .inr (.inr (.inr (.inl (vf_upd f j.toNatClampNeg v)))))) hC hD hk0⟩, hS1, xNx_up hN⟩
      · cases hk
    · cases hk
  · cases hk
def k2_aast5 : xK2 := fun a b h st => match st with
  | .ref v :: .int j :: .ref r :: rest => match h r, h v with
    | some (.inl (5, n, .inr (.inr (.inr (.inr f))))), some (.inr (ci, fs)) => if ci = 0 ∧ ¬ (j < 0 ∨ n ≤ j.toNatClampNeg) then some (xup h r (.inl (5, n, .inr (.inr (.inr (.inr (va_up f j.toNatClampNeg (some v))))))), rest) else none
    | _, _ => none
  | _ => none
def d2_aast5 : xD2 := fun own yn a b i z pc => (.aastore, 1, true)
theorem k2_aast5_ok : xOk2 k2_aast5 d2_aast5 := by
  intro Z D dA p l e R s m args below meth c H locs cells slots Q cc pc ls nL own yn a b i z h nx st h' st' hX hR hdg hsd hk kk
  obtain ⟨hx, hb, hml, hown, hts, hK, hyn, hZs⟩ := hX
  obtain ⟨⟨ws, hP, hD, hC⟩, hS, hN⟩ := id hR
  unfold k2_aast5 at hk
  unfold d2_aast5 at hdg hsd kk
  split at hk
  · rename_i v j r rest
    split at hk
    · rename_i n f ci fs hr hv
      split at hk
      · rename_i hin
        obtain ⟨rfl, hin⟩ := hin
        cases hk
        obtain ⟨k0, hk0⟩ := hC r _ hr
        obtain ⟨k1, hk1⟩ := hC v _ hv
        refine va_astq (r := (xcR 0, xcT 0, xcN 0)) hx hb hK hP hD hS k0 5 k1 0 hk0 rfl hk1 rfl hin hdg (fun H1 locs1 hP1 hD1 hS1 => ?_)
        exact kk H1 locs1 ⟨⟨_, hP1, hD1, xCov_set (c' := .inl (5, n, .inr (.inr (.inr (.inr (va_up f j.toNatClampNeg (some v))))))) hC hD hk0⟩, hS1, xNx_up hN⟩
      · cases hk
    · cases hk
  · cases hk
def k2_aast6 : xK2 := fun a b h st => match st with
  | .ref v :: .int j :: .ref r :: rest => match h r, h v with
    | some (.inl (6, n, .inr (.inr (.inr (.inr f))))), some (.inr (ci, fs)) => if ci = 2 ∧ ¬ (j < 0 ∨ n ≤ j.toNatClampNeg) then some (xup h r (.inl (6, n, .inr (.inr (.inr (.inr (va_up f j.toNatClampNeg (some v))))))), rest) else none
    | _, _ => none
  | _ => none
def d2_aast6 : xD2 := fun own yn a b i z pc => (.aastore, 1, true)
theorem k2_aast6_ok : xOk2 k2_aast6 d2_aast6 := by
  intro Z D dA p l e R s m args below meth c H locs cells slots Q cc pc ls nL own yn a b i z h nx st h' st' hX hR hdg hsd hk kk
  obtain ⟨hx, hb, hml, hown, hts, hK, hyn, hZs⟩ := hX
  obtain ⟨⟨ws, hP, hD, hC⟩, hS, hN⟩ := id hR
  unfold k2_aast6 at hk
  unfold d2_aast6 at hdg hsd kk
  split at hk
  · rename_i v j r rest
    split at hk
    · rename_i n f ci fs hr hv
      split at hk
      · rename_i hin
        obtain ⟨rfl, hin⟩ := hin
        cases hk
        obtain ⟨k0, hk0⟩ := hC r _ hr
        obtain ⟨k1, hk1⟩ := hC v _ hv
        refine va_astq (r := (xcR 2, xcT 2, xcN 2)) hx hb hK hP hD hS k0 6 k1 2 hk0 rfl hk1 rfl hin hdg (fun H1 locs1 hP1 hD1 hS1 => ?_)
        exact kk H1 locs1 ⟨⟨_, hP1, hD1, xCov_set (c' := .inl (6, n, .inr (.inr (.inr (.inr (va_up f j.toNatClampNeg (some v))))))) hC hD hk0⟩, hS1, xNx_up hN⟩
      · cases hk
    · cases hk
  · cases hk
def k2_aast7 : xK2 := fun a b h st => match st with
  | .ref v :: .int j :: .ref r :: rest => match h r, h v with
    | some (.inl (7, n, .inr (.inr (.inr (.inr f))))), some (.inr (ci, fs)) => if ci = 1 ∧ ¬ (j < 0 ∨ n ≤ j.toNatClampNeg) then some (xup h r (.inl (7, n, .inr (.inr (.inr (.inr (va_up f j.toNatClampNeg (some v))))))), rest) else none
    | _, _ => none
  | _ => none
def d2_aast7 : xD2 := fun own yn a b i z pc => (.aastore, 1, true)
theorem k2_aast7_ok : xOk2 k2_aast7 d2_aast7 := by
  intro Z D dA p l e R s m args below meth c H locs cells slots Q cc pc ls nL own yn a b i z h nx st h' st' hX hR hdg hsd hk kk
  obtain ⟨hx, hb, hml, hown, hts, hK, hyn, hZs⟩ := hX
  obtain ⟨⟨ws, hP, hD, hC⟩, hS, hN⟩ := id hR
  unfold k2_aast7 at hk
  unfold d2_aast7 at hdg hsd kk
  split at hk
  · rename_i v j r rest
    split at hk
    · rename_i n f ci fs hr hv
      split at hk
      · rename_i hin
        obtain ⟨rfl, hin⟩ := hin
        cases hk
        obtain ⟨k0, hk0⟩ := hC r _ hr
        obtain ⟨k1, hk1⟩ := hC v _ hv
        refine va_astq (r := (xcR 1, xcT 1, xcN 1)) hx hb hK hP hD hS k0 7 k1 1 hk0 rfl hk1 rfl hin hdg (fun H1 locs1 hP1 hD1 hS1 => ?_)
        exact kk H1 locs1 ⟨⟨_, hP1, hD1, xCov_set (c' := .inl (7, n, .inr (.inr (.inr (.inr (va_up f j.toNatClampNeg (some v))))))) hC hD hk0⟩, hS1, xNx_up hN⟩
      · cases hk
    · cases hk
  · cases hk
def k2_alen : xK2 := fun a b h st => match st with
  | .ref r :: rest => match h r with
    | some (.inl (t, n, f)) => if t < 8 then some (h, .int (Int32.ofNat n) :: rest) else none
    | _ => none
  | _ => none
def d2_alen : xD2 := fun own yn a b i z pc => (.arraylength, 1, true)
theorem k2_alen_ok : xOk2 k2_alen d2_alen := by
  intro Z D dA p l e R s m args below meth c H locs cells slots Q cc pc ls nL own yn a b i z h nx st h' st' hX hR hdg hsd hk kk
  obtain ⟨hx, hb, hml, hown, hts, hK, hyn, hZs⟩ := hX
  obtain ⟨⟨ws, hP, hD, hC⟩, hS, hN⟩ := id hR
  unfold k2_alen at hk
  unfold d2_alen at hdg hsd kk
  split at hk
  · rename_i r rest
    split at hk
    · rename_i t n f hr
      split at hk
      · rename_i ht
        cases hk
        obtain ⟨k0, hk0⟩ := hC r _ hr
        obtain ⟨ty, hty⟩ : ∃ ty, (xtys dA)[t]? = some (dA t, ty) := by
          match t, ht with
          | 0, _ => exact ⟨_, rfl⟩
          | 1, _ => exact ⟨_, rfl⟩
          | 2, _ => exact ⟨_, rfl⟩
          | 3, _ => exact ⟨_, rfl⟩
          | 4, _ => exact ⟨_, rfl⟩
          | 5, _ => exact ⟨_, rfl⟩
          | 6, _ => exact ⟨_, rfl⟩
          | 7, _ => exact ⟨_, rfl⟩
        exact va_alen hx hb hK hP k0 t hk0 hty rfl hdg (kk H locs hR)
      · cases hk
    · cases hk
  · cases hk
def x2ops : List (xK2 × xD2) := [(k2_getf, d2_getf), (k2_putf, d2_putf), (k2_putff, d2_putff), (k2_iald, d2_iald), (k2_bald, d2_bald), (k2_zald, d2_zald), (k2_lald, d2_lald), (k2_dald, d2_dald), (k2_aald5, d2_aald5), (k2_aald6, d2_aald6), (k2_aald7, d2_aald7), (k2_iast, d2_iast), (k2_bast, d2_bast), (k2_zast, d2_zast), (k2_last, d2_last), (k2_dast, d2_dast), (k2_aast5, d2_aast5), (k2_aast6, d2_aast6), (k2_aast7, d2_aast7), (k2_alen, d2_alen)]
theorem x2ops_ok : ∀ q ∈ x2ops, xOk2 q.1 q.2 := List.forall_mem_cons.mpr ⟨k2_getf_ok, List.forall_mem_cons.mpr ⟨k2_putf_ok, List.forall_mem_cons.mpr ⟨k2_putff_ok, List.forall_mem_cons.mpr ⟨k2_iald_ok, List.forall_mem_cons.mpr ⟨k2_bald_ok, List.forall_mem_cons.mpr ⟨k2_zald_ok, List.forall_mem_cons.mpr ⟨k2_lald_ok, List.forall_mem_cons.mpr ⟨k2_dald_ok, List.forall_mem_cons.mpr ⟨k2_aald5_ok, List.forall_mem_cons.mpr ⟨k2_aald6_ok, List.forall_mem_cons.mpr ⟨k2_aald7_ok, List.forall_mem_cons.mpr ⟨k2_iast_ok, List.forall_mem_cons.mpr ⟨k2_bast_ok, List.forall_mem_cons.mpr ⟨k2_zast_ok, List.forall_mem_cons.mpr ⟨k2_last_ok, List.forall_mem_cons.mpr ⟨k2_dast_ok, List.forall_mem_cons.mpr ⟨k2_aast5_ok, List.forall_mem_cons.mpr ⟨k2_aast6_ok, List.forall_mem_cons.mpr ⟨k2_aast7_ok, List.forall_mem_cons.mpr ⟨k2_alen_ok, fun _ h => nomatch h⟩⟩⟩⟩⟩⟩⟩⟩⟩⟩⟩⟩⟩⟩⟩⟩⟩⟩⟩⟩
