/-! THE ABSTRACT INTERPRETER, 4: what any state of the run keeps of the start Z; the JDK's members that are ops here. -/
def xexn (k : Nat) : String := match k with
  | 0 => "java/lang/IllegalArgumentException"
  | 1 => "java/lang/IllegalStateException"
  | 2 => "java/lang/IndexOutOfBoundsException"
  | _ => "java/util/NoSuchElementException"
def xexi (k : Nat) : Nat := match k with
  | 0 => 119
  | 1 => 266
  | 2 => 304
  | _ => 311
abbrev xsup : List String := ["java/lang/RuntimeException", "java/lang/Exception"]
def xstr : List (String × Nat × String) := [("RefundShaper$TextReader", 92, "link"), ("RefundShaper$TextReader", 66, "house"), ("RefundShaper$TextReader", 75, "program"), ("RefundShaper$TextReader", 80, "off"), ("RefundShaper$TextReader", 167, "meek"), ("RefundShaper$TextReader", 169, "stubborn"), ("RefundShaper$TextReader", 171, "copying"), ("RefundShaper$TextReader", 173, "steady"), ("RefundShaperModel", 157, "link"), ("RefundShaperModel", 185, "house"), ("RefundShaperModel", 190, "program"), ("RefundShaperModel", 195, "off"), ("RefundShaperModel", 174, "meek"), ("RefundShaperModel", 178, "stubborn"), ("RefundShaperModel", 180, "copying"), ("RefundShaperModel", 176, "steady"), ("RefundShaper", 117, "there is no such number"), ("RefundShaper", 302, "there is no such household"), ("RefundShaper", 147, "a household has no such number"), ("RefundShaper", 305, "there is no such program"), ("RefundShaper", 192, "a program has no such number"), ("RefundShaper", 312, "a number is out of range"), ("RefundShaper", 309, "that hour is not kept"), ("RefundShaper", 264, "the balance would be too great"), ("RefundShaper", 284, "no snapshot is saved there")]
def xlen : List Nat := [4, 5, 7, 3, 4, 8, 7, 6]
def xbyt : List (List Int32) := [[108, 105, 110, 107], [104, 111, 117, 115, 101], [112, 114, 111, 103, 114, 97, 109], [111, 102, 102], [109, 101, 101, 107], [115, 116, 117, 98, 98, 111, 114, 110], [99, 111, 112, 121, 105, 110, 103], [115, 116, 101, 97, 100, 121]]
def xNest : List (String × Nat × MethodName × String) := [("RefundShaper", 9, { cls := "RefundShaper$TextReader", name := "<init>", desc := "()V" }, "RefundShaper"), ("RefundShaper$Link", 62, { cls := "RefundShaper$Household", name := "<init>", desc := "()V" }, "RefundShaper"), ("RefundShaper$Link", 63, { cls := "RefundShaper$Program", name := "<init>", desc := "()V" }, "RefundShaper"), ("RefundShaper", 18, { cls := "RefundShaper$Report", name := "<init>", desc := "()V" }, "RefundShaper"), ("RefundShaper$Link", 118, { cls := "RefundShaper", name := "fairnessOf", desc := "(JJI)D" }, "RefundShaper"), ("RefundShaper$Report", 50, { cls := "RefundShaper", name := "letterOf", desc := "(JI)I" }, "RefundShaper"), ("RefundShaper$TextReader", 184, { cls := "RefundShaper", name := "withLetter", desc := "(JII)J" }, "RefundShaper")]
def xnse : String := xexn 3
/-- the words of a throw of NoSuchElementException, whose constructor has an entry of its own number -/
def xnsA : List Cond := Bundle.throwableAtoms ++ Bundle.throwableSAtoms ++ Bundle.passSAtoms xnse "java/lang/RuntimeException" 13 prog_25_method_4_code ++ Bundle.chainSAtoms "java/lang/RuntimeException" ["java/lang/Exception"] ++
  [.methodLink RX5 311 (Bundle.initS xnse), .instantiable xnse 6, .castable xnse xnse, .selects xnse Bundle.tFill0 Bundle.tFill0, .selects xnse Bundle.tFill Bundle.tFill,
   .lays xnse Bundle.tN "cause" "Ljava/lang/Throwable;", .lays xnse Bundle.tN "stackTrace" Bundle.steD, .lays xnse Bundle.tN "suppressedExceptions" Bundle.listD, .lays xnse Bundle.tN "detailMessage" "Ljava/lang/String;",
   .isRef (.static Bundle.tN "UNASSIGNED_STACK" Bundle.steD), .isRef (.static Bundle.tN "SUPPRESSED_SENTINEL" Bundle.listD),
   .fieldLink Bundle.tN 198 Bundle.tN "backtrace" "Ljava/lang/Object;", .lays Bundle.tN Bundle.tN "backtrace" "Ljava/lang/Object;", .lays xnse Bundle.tN "backtrace" "Ljava/lang/Object;"]
def xthw : List Cond := vx_atS RX5 (xexi 0) (xexn 0) xsup ++ (vx_atS RX5 (xexi 1) (xexn 1) xsup ++ (vx_atS RX5 (xexi 2) (xexn 2) xsup ++ xnsA.filter vx_no))
theorem xthw_in : ∀ w ∈ xthw, w ∈ lw_tbl := by decide +kernel
theorem xthw_ok : ∀ w ∈ xthw, (w.onTables && w.keepsFace) = true := by decide +kernel
def xEnv (Z s : State) (D : va_G) (dA : Nat → ClassId) (sx : xSx) : Prop :=
  xSt Z s ∧ (∀ (A : Array Value) (w : Cond), w ∈ xLT → w.before A s = true) ∧ va_K D vwCl (xtys dA) s ∧ xOver s ∧ (∀ (A : Array Value) (w : Cond), w ∈ xthw → w.before A s = true) ∧
  (∀ q ∈ xNest, va_Nw (.methodLinkNest q.1 q.2.1 q.2.2.1 q.2.2.2) s) ∧ (∀ (k : Nat) (q : String × Nat × String), xstr[k]? = some q → vk_R q.1 q.2.1 q.2.2 (sx.1 k) s) ∧
  (∃ adV : Nat → Nat, vk_S 8 xlen xbyt sx.1 adV (xA Z) s s.heap) ∧ (∀ r k : Nat, sx.2.1 r = some k → k < 8 ∧ r = sx.1 k) ∧ va_Z "java/lang/String" "COMPACT_STRINGS" "Z" (.int 1) (xA Z) s s.heap ∧
  vx_Zq Bundle.tN "UNASSIGNED_STACK" Bundle.steD (xA Z) s s.heap ∧ vx_Zq Bundle.tN "SUPPRESSED_SENTINEL" Bundle.listD (xA Z) s s.heap ∧ (∀ i j : Nat, i < 4 → j < 4 → i ≠ j → va_Nc (xexn i) (xexn j) s) ∧ va_Zq "jdk/internal/util/Preconditions" "SIOOBE_FORMATTER" "Ljava/util/function/BiFunction;" (xA Z) s s.heap ∧ va_X sx.2.2.1 sx.2.2.2.1 sx.2.2.2.2 s s.heap ∧ sx.2.2.1 < Z.heap.size
theorem xEnv_mv {Z s : State} {D : va_G} {dA : Nat → ClassId} {sx : xSx} (h : xEnv Z Z D dA sx) (hs : xSt Z s) : xEnv Z s D dA sx := by
  obtain ⟨-, h1, h2, h3, h4, h5, h6, ⟨adV, h7⟩, h8, h9, h10, h11, h12, h17, h13, h14⟩ := h
  have hW := hs.1
  have hq : ∀ a : Nat, a < Z.heap.size → ¬ xA Z a → s.heap[a]? = Z.heap[a]? := fun a ha _ => hs.2.2 a ha
  refine ⟨hs, fun A w hw => ?_, va_K.moved hW.alike h2, ⟨va_AO.moved hW.alike h3.1, va_AO.moved hW.alike h3.2.1, va_AO.moved hW.alike h3.2.2⟩, fun A w hw => ?_, fun q hm => va_Nw.warmM hW (h5 q hm), fun k q hk => vk_R.warm hW (h6 k q hk), ⟨adV, vk_S.moved hW.alike (h7.kept hq)⟩, h8, va_Z.moved hW.alike (h9.kept hq), vx_Zq.moved hW.alike (h10.kept hq), vx_Zq.moved hW.alike (h11.kept hq), fun i j hi hj hij => va_Nc.moved hW.alike (h12 i j hi hj hij), va_Zq.moved hW.alike (h17.kept hq), va_X.moved hW.alike (h13.kept (hs.2.2 _ h14)), h14⟩
  · exact word_at hW (good_of_word (List.mem_filter.mp hw).2) (h1 #[] w hw)
  · have h15 := xthw_ok w hw
    simp only [Bool.and_eq_true] at h15
    have h16 : w.before #[] (Z.setVm s.vm) = true := Cond.before_shiftedFace (State.Shifted.of_warmed hW) w h15.2 (h4 #[] w hw)
    exact va_tabs h15.1 (rfl : (Z.setVm s.vm).vm = s.vm) h16
abbrev xK4 : Type := xSx → Nat → Nat → Nat → Int → xH → List Value → Option (xH × List Value)
def xsum (st : List Value) : Nat := (st.map fun v => v.category).sum
def xOk4 (k : xK4) (d : xD2) : Prop :=
  ∀ (Z : State) (D : va_G) (dA : Nat → ClassId) (sx : xSx) (p : Program) (l : Launch) (e : Env) (R : Room) (s : State) (m : MethodId) (args : Array Value) (below : List Frame) (meth : Method) (c : Code) (H : Heap) (locs : List Loc) (cells slots : Nat) (Q : State → Prop) (cc : ByteArray) (pc : Nat) (ls : Array Slot) (nL : Nat) (own yn : String) (a b i : Nat) (z : Int) (h : xH) (nx : Nat) (st : List Value) (h' : xH) (st' : List Value),
    xCtx Z D dA p s m args meth c cc nL own yn → xEnv Z s D dA sx → xRel Z D dA s h nx H locs cells → ls.size = nL → xsum st ≤ 16 → 5 ≤ R.frames → 128 ≤ R.locals → cells ≤ R.cells → slots ≤ R.slots → decode cc pc = .ok ((d own yn a b i z pc).1, (d own yn a b i z pc).2.1) → (d own yn a b i z pc).2.2 = true → k sx a b i z h st = some (h', st') →
    (∀ (H1 : Heap) (locs1 : List Loc), xRel Z D dA s h' nx H1 locs1 cells → W p l e R s m args below meth c H1 locs1 cells slots Q (F0 m (pc + (d own yn a b i z pc).2.1) ls st')) → W p l e R s m args below meth c H locs cells slots Q (F0 m pc ls st)
theorem xpw0 : Cond.instanceMethod Lib.objectInit ∈ xLT ∧ Cond.code Lib.objectInit ⟨#[0xb1]⟩ 1 none ∈ xLT := ⟨by decide +kernel, by decide +kernel⟩
theorem xpw1 : Cond.static Lib.Math.max.name ∈ xLT ∧ Cond.initialized "java/lang/Math" ∈ xLT ∧ Cond.code Lib.Math.max.name Lib.Math.max.code 2 (some .int) ∈ xLT := ⟨by decide +kernel, by decide +kernel, by decide +kernel⟩
theorem xpw2 : Cond.static Lib.Math.min.name ∈ xLT ∧ Cond.initialized "java/lang/Math" ∈ xLT ∧ Cond.code Lib.Math.min.name Lib.Math.min.code 2 (some .int) ∈ xLT := ⟨by decide +kernel, by decide +kernel, by decide +kernel⟩
theorem xpw3 : Cond.native arraycopyName ∈ xLT ∧ Cond.static arraycopyName ∈ xLT ∧ Cond.initialized "java/lang/System" ∈ xLT := ⟨by decide +kernel, by decide +kernel, by decide +kernel⟩
theorem xnfw : nativeFrameWords "java/lang/System" "arraycopy" 5 = 7 := by decide +kernel

def k4_objInit : xK4 := fun sx a b i z h st => match st with
  | .ref r :: rest => some (h, rest)
  | _ => none
def d4_objInit : xD2 := fun own yn a b i z pc => (.invokespecial i, 3, xw b (.methodLink own i Lib.objectInit))
theorem k4_objInit_ok : xOk4 k4_objInit d4_objInit := by
  intro Z D dA sx p l e R s m args below meth c H locs cells slots Q cc pc ls nL own yn a b i z h nx st h' st' hX hV hR hsz hsum hfr hlo hce hsl hdg hsd hk kk
  obtain ⟨hx, hb, hml, hown, hts, hK, hyn, hZs⟩ := hX
  obtain ⟨⟨ws, hP, hD, hC⟩, hS, hN⟩ := id hR
  unfold k4_objInit at hk
  unfold d4_objInit at hdg hsd kk
  split at hk
  · rename_i r rest
    have hs2 : (rest.map fun v => v.category).sum ≤ 16 := by
      unfold xsum at hsum
      simp only [List.map_cons, List.sum_cons] at hsum
      omega
    cases hk
    refine W.objInit hx hb hown (hts _ (xw_ok hsd)) (hts _ xpw0.1) (hts _ xpw0.2) rfl (by show ls.size = _; rw [hsz, hml]) rfl hdg (by omega) (by show 2 * 0 + _ + 12 ≤ _; omega) ?_
    exact kk H locs hR
  · cases hk
def k4_mmax : xK4 := fun sx a b i z h st => match st with
  | .int y :: .int x :: rest => some (h, .int (if x < y then y else x) :: rest)
  | _ => none
def d4_mmax : xD2 := fun own yn a b i z pc => (.invokestatic i, 3, xw b (.methodLink own i Lib.Math.max.name))
theorem k4_mmax_ok : xOk4 k4_mmax d4_mmax := by
  intro Z D dA sx p l e R s m args below meth c H locs cells slots Q cc pc ls nL own yn a b i z h nx st h' st' hX hV hR hsz hsum hfr hlo hce hsl hdg hsd hk kk
  obtain ⟨hx, hb, hml, hown, hts, hK, hyn, hZs⟩ := hX
  obtain ⟨⟨ws, hP, hD, hC⟩, hS, hN⟩ := id hR
  unfold k4_mmax at hk
  unfold d4_mmax at hdg hsd kk
  split at hk
  · rename_i y x rest
    have hs2 : (rest.map fun v => v.category).sum ≤ 16 := by
      unfold xsum at hsum
      simp only [List.map_cons, List.sum_cons] at hsum
      omega
    cases hk
    exact va_mmax hx hb (by rw [hml, hsz]) hown (hts _ (xw_ok hsd)) (hts _ xpw1.1) (hts _ xpw1.2.1) (hts _ xpw1.2.2) (by omega) (by omega) hce hsl hdg (kk H locs hR)
  · cases hk
def k4_mmin : xK4 := fun sx a b i z h st => match st with
  | .int y :: .int x :: rest => some (h, .int (if y < x then y else x) :: rest)
  | _ => none
def d4_mmin : xD2 := fun own yn a b i z pc => (.invokestatic i, 3, xw b (.methodLink own i Lib.Math.min.name))
theorem k4_mmin_ok : xOk4 k4_mmin d4_mmin := by
  intro Z D dA sx p l e R s m args below meth c H locs cells slots Q cc pc ls nL own yn a b i z h nx st h' st' hX hV hR hsz hsum hfr hlo hce hsl hdg hsd hk kk
  obtain ⟨hx, hb, hml, hown, hts, hK, hyn, hZs⟩ := hX
  obtain ⟨⟨ws, hP, hD, hC⟩, hS, hN⟩ := id hR
  unfold k4_mmin at hk
  unfold d4_mmin at hdg hsd kk
  split at hk
  · rename_i y x rest
    have hs2 : (rest.map fun v => v.category).sum ≤ 16 := by
      unfold xsum at hsum
      simp only [List.map_cons, List.sum_cons] at hsum
      omega
    cases hk
    exact va_mmin hx hb (by rw [hml, hsz]) hown (hts _ (xw_ok hsd)) (hts _ xpw2.1) (hts _ xpw2.2.1) (hts _ xpw2.2.2) (by omega) (by omega) hce hsl hdg (kk H locs hR)
  · cases hk
def k4_copyi : xK4 := fun sx a b i z h st => match st with
  | .int n :: .int dp :: .ref r1 :: .int sp :: .ref r0 :: rest => match h r0, h r1 with
    | some (.inl (0, n0, .inl f)), some (.inl (0, n1, .inl g)) => if ¬ sp < 0 ∧ ¬ dp < 0 ∧ ¬ n < 0 ∧ sp.toNatClampNeg + n.toNatClampNeg ≤ n0 ∧ dp.toNatClampNeg + n.toNatClampNeg ≤ n1 then some (xup h r1 (.inl (0, n1, .inl (va_cpy f g sp.toNatClampNeg dp.toNatClampNeg n.toNatClampNeg))), rest) else none
    | _, _ => none
  | _ => none
def d4_copyi : xD2 := fun own yn a b i z pc => (.invokestatic i, 3, xw b (.methodLink own i arraycopyName))
theorem k4_copyi_ok : xOk4 k4_copyi d4_copyi := by
  intro Z D dA sx p l e R s m args below meth c H locs cells slots Q cc pc ls nL own yn a b i z h nx st h' st' hX hV hR hsz hsum hfr hlo hce hsl hdg hsd hk kk
  obtain ⟨hx, hb, hml, hown, hts, hK, hyn, hZs⟩ := hX
  obtain ⟨⟨ws, hP, hD, hC⟩, hS, hN⟩ := id hR
  unfold k4_copyi at hk
  unfold d4_copyi at hdg hsd kk
  split at hk
  · rename_i n dp r1 sp r0 rest
    split at hk
    · rename_i n0 f n1 g h0 h1
      split at hk
      · rename_i hc
        obtain ⟨c1, c2, c3, c4, c5⟩ := hc
        have hs2 : (rest.map fun v => v.category).sum ≤ 16 := by
          unfold xsum at hsum
          simp only [List.map_cons, List.sum_cons] at hsum
          omega
        cases hk
        obtain ⟨k0, hk0⟩ := hC r0 _ h0
        obtain ⟨k1, hk1⟩ := hC r1 _ h1
        refine va_copyi hx hb (by rw [hml, hsz]) hown (hts _ (xw_ok hsd)) (hts _ xpw3.1) (hts _ xpw3.2.1) (hts _ xpw3.2.2) hK hP hD hS k0 k1 0 0 hk0 hk1 rfl rfl rfl c1 c2 c3 c4 c5 (fun _ _ => rfl) (by omega) (by rw [xnfw]; omega) hdg (fun H1 locs1 hP1 hD1 hS1 => ?_)
        exact kk H1 locs1 ⟨⟨_, hP1, hD1, xCov_set (c' := .inl (0, n1, .inl (va_cpy f g sp.toNatClampNeg dp.toNatClampNeg n.toNatClampNeg))) hC hD hk1⟩, hS1, xNx_up hN⟩
      · cases hk
    · cases hk
  · cases hk
def k4_copyl : xK4 := fun sx a b i z h st => match st with
  | .int n :: .int dp :: .ref r1 :: .int sp :: .ref r0 :: rest => match h r0, h r1 with
    | some (.inl (1, n0, .inr (.inl f))), some (.inl (1, n1, .inr (.inl g))) => if ¬ sp < 0 ∧ ¬ dp < 0 ∧ ¬ n < 0 ∧ sp.toNatClampNeg + n.toNatClampNeg ≤ n0 ∧ dp.toNatClampNeg + n.toNatClampNeg ≤ n1 then some (xup h r1 (.inl (1, n1, .inr (.inl (va_cpy f g sp.toNatClampNeg dp.toNatClampNeg n.toNatClampNeg)))), rest) else none
    | _, _ => none
  | _ => none
def d4_copyl : xD2 := fun own yn a b i z pc => (.invokestatic i, 3, xw b (.methodLink own i arraycopyName))
theorem k4_copyl_ok : xOk4 k4_copyl d4_copyl := by
  intro Z D dA sx p l e R s m args below meth c H locs cells slots Q cc pc ls nL own yn a b i z h nx st h' st' hX hV hR hsz hsum hfr hlo hce hsl hdg hsd hk kk
  obtain ⟨hx, hb, hml, hown, hts, hK, hyn, hZs⟩ := hX
  obtain ⟨⟨ws, hP, hD, hC⟩, hS, hN⟩ := id hR
  unfold k4_copyl at hk
  unfold d4_copyl at hdg hsd kk
  split at hk
  · rename_i n dp r1 sp r0 rest
    split at hk
    · rename_i n0 f n1 g h0 h1
      split at hk
      · rename_i hc
        obtain ⟨c1, c2, c3, c4, c5⟩ := hc
        have hs2 : (rest.map fun v => v.category).sum ≤ 16 := by
          unfold xsum at hsum
          simp only [List.map_cons, List.sum_cons] at hsum
          omega
        cases hk
        obtain ⟨k0, hk0⟩ := hC r0 _ h0
        obtain ⟨k1, hk1⟩ := hC r1 _ h1
        refine va_copyl hx hb (by rw [hml, hsz]) hown (hts _ (xw_ok hsd)) (hts _ xpw3.1) (hts _ xpw3.2.1) (hts _ xpw3.2.2) hK hP hD hS k0 k1 1 1 hk0 hk1 rfl rfl rfl c1 c2 c3 c4 c5 (fun _ _ => rfl) (by omega) (by rw [xnfw]; omega) hdg (fun H1 locs1 hP1 hD1 hS1 => ?_)
        exact kk H1 locs1 ⟨⟨_, hP1, hD1, xCov_set (c' := .inl (1, n1, .inr (.inl (va_cpy f g sp.toNatClampNeg dp.toNatClampNeg n.toNatClampNeg)))) hC hD hk1⟩, hS1, xNx_up hN⟩
      · cases hk
    · cases hk
  · cases hk
def k4_ldcS : xK4 := fun sx a b i z h st => some (h, .ref (sx.1 a) :: st)
def d4_ldcS : xD2 := fun own yn a b i z pc => (.ldc i, 2, match xstr[a]? with
  | some q => q.1 == own && q.2.1 == i
  | none => false)
theorem k4_ldcS_ok : xOk4 k4_ldcS d4_ldcS := by
  intro Z D dA sx p l e R s m args below meth c H locs cells slots Q cc pc ls nL own yn a b i z h nx st h' st' hX hV hR hsz hsum hfr hlo hce hsl hdg hsd hk kk
  obtain ⟨hx, hb, hml, hown, hts, hK, hyn, hZs⟩ := hX
  obtain ⟨⟨ws, hP, hD, hC⟩, hS, hN⟩ := id hR
  unfold k4_ldcS at hk
  unfold d4_ldcS at hdg hsd kk
  cases hk
  split at hsd
  · rename_i q hq
    simp only [Bool.and_eq_true, beq_iff_eq] at hsd
    obtain ⟨rfl, rfl⟩ := hsd
    exact va_ldcS hx hb hown (hV.2.2.2.2.2.2.1 a q hq) hdg (kk H locs hR)
  · cases hsd
def k4_scrld : xK4 := fun sx a b i z h st => match st with
  | .int j :: .ref r :: rest => if r = sx.2.2.1 ∧ ¬ (j < 0 ∨ sx.2.2.2.1 ≤ j.toNatClampNeg) then some (h, .int (sx.2.2.2.2 j.toNatClampNeg) :: rest) else none
  | _ => none
def d4_scrld : xD2 := fun own yn a b i z pc => (.iaload, 1, true)
theorem k4_scrld_ok : xOk4 k4_scrld d4_scrld := by
  intro Z D dA sx p l e R s m args below meth c H locs cells slots Q cc pc ls nL own yn a b i z h nx st h' st' hX hV hR hsz hsum hfr hlo hce hsl hdg hsd hk kk
  obtain ⟨hx, hb, hml, hown, hts, hK, hyn, hZs⟩ := hX
  obtain ⟨⟨ws, hP, hD, hC⟩, hS, hN⟩ := id hR
  unfold k4_scrld at hk
  unfold d4_scrld at hdg hsd kk
  split at hk
  · rename_i j r rest
    split at hk
    · rename_i hc
      obtain ⟨rfl, hin⟩ := hc
      cases hk
      have hX9 := hV.2.2.2.2.2.2.2.2.2.2.2.2.2.2
      exact va_sld hx hb hX9.1 (Nat.lt_of_lt_of_le hX9.2 hZs) (Nat.not_le.mpr hX9.2) hS hin hdg (kk H locs hR)
    · cases hk
  · cases hk
def k4_scrlen : xK4 := fun sx a b i z h st => match st with
  | .ref r :: rest => if r = sx.2.2.1 then some (h, .int (Int32.ofNat sx.2.2.2.1) :: rest) else none
  | _ => none
def d4_scrlen : xD2 := fun own yn a b i z pc => (.arraylength, 1, true)
theorem k4_scrlen_ok : xOk4 k4_scrlen d4_scrlen := by
  intro Z D dA sx p l e R s m args below meth c H locs cells slots Q cc pc ls nL own yn a b i z h nx st h' st' hX hV hR hsz hsum hfr hlo hce hsl hdg hsd hk kk
  obtain ⟨hx, hb, hml, hown, hts, hK, hyn, hZs⟩ := hX
  obtain ⟨⟨ws, hP, hD, hC⟩, hS, hN⟩ := id hR
  unfold k4_scrlen at hk
  unfold d4_scrlen at hdg hsd kk
  split at hk
  · rename_i r rest
    split at hk
    · rename_i hc
      subst hc
      cases hk
      have hX9 := hV.2.2.2.2.2.2.2.2.2.2.2.2.2.2
      exact va_slen hx hb hX9.1 (Nat.lt_of_lt_of_le hX9.2 hZs) (Nat.not_le.mpr hX9.2) hS hdg (kk H locs hR)
    · cases hk
  · cases hk
def x4opsA : List (xK4 × xD2) := [(k4_objInit, d4_objInit), (k4_mmax, d4_mmax), (k4_mmin, d4_mmin), (k4_copyi, d4_copyi), (k4_copyl, d4_copyl), (k4_ldcS, d4_ldcS), (k4_scrld, d4_scrld), (k4_scrlen, d4_scrlen)]
theorem x4opsA_ok : ∀ q ∈ x4opsA, xOk4 q.1 q.2 := List.forall_mem_cons.mpr ⟨k4_objInit_ok, List.forall_mem_cons.mpr ⟨k4_mmax_ok, List.forall_mem_cons.mpr ⟨k4_mmin_ok, List.forall_mem_cons.mpr ⟨k4_copyi_ok, List.forall_mem_cons.mpr ⟨k4_copyl_ok, List.forall_mem_cons.mpr ⟨k4_ldcS_ok, List.forall_mem_cons.mpr ⟨k4_scrld_ok, List.forall_mem_cons.mpr ⟨k4_scrlen_ok, fun _ h => nomatch h⟩⟩⟩⟩⟩⟩⟩⟩
