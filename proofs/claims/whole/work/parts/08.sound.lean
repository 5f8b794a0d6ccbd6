/-! THE ABSTRACT INTERPRETER, 7: a run of the table is a walk of the machine. -/
def xPost (Z : State) (D : va_G) (dA : Nat → ClassId) (M : xM) (mc : Nat) (st t : State) : Prop :=
  (∃ ws : va_W, va_P D vwCl ws t.heap ∧ va_D (xA Z) ws ∧ xCov dA M.1 ws) ∧ st.heap.size ≤ t.heap.size ∧ (∀ q : Nat, q < Z.heap.size → t.heap[q]? = st.heap[q]?) ∧ xNx Z st M.1 M.2.1 mc
def xQc (Z : State) (D : va_G) (dA : Nat → ClassId) (M : xM) (v : Option Value) (mc : Nat) : Array Value → State → Outcome → State → Prop := fun _ st o t => o = .returned v ∧ xPost Z D dA M mc st t
def xPc (Z : State) (D : va_G) (dA : Nat → ClassId) (M : xM) (As : List Value) : Array Value → State → Prop := fun v U => v = As.toArray ∧ xSt Z U ∧ xRel Z D dA U M.1 M.2.1 U.heap [] 0
theorem xPc_blind (Z : State) (D : va_G) (dA : Nat → ClassId) (M : xM) (As : List Value) : FrameBlind (xPc Z D dA M As) := fun _ _ _ _ h => h
theorem xPc_of {Z : State} {D : va_G} {dA : Nat → ClassId} {s : State} {M : xM} {H : Heap} {locs : List Loc} {cells : Nat} (As : List Value) (hs : xSt Z s) (hR : xRel Z D dA s M.1 M.2.1 H locs cells) (hz : M.2.1 ≠ 0 → H.size = M.2.1) {U : State} (hU : U.heap = H) (hW : s.WarmedH U.vm) : xPc Z D dA M As As.toArray U := by
  obtain ⟨⟨ws, hP, hD, hC⟩, hS, hN⟩ := hR
  refine ⟨rfl, ⟨hs.1.trans hW, ?_, fun q hq => ?_⟩, ⟨ws, by rw [hU]; exact hP, hD, hC⟩, va_S.rf, fun h0 => ⟨?_, (hN h0).2⟩⟩
  · rw [hU]; exact Nat.le_trans hs.2.1 hS.1
  · rw [hU, hS.2.1 q (Nat.lt_of_lt_of_le hq hs.2.1) (Nat.not_le.mpr hq)]
    exact hs.2.2 q hq
  · rw [hU, hz h0]; rfl
theorem xRel_back {Z : State} {D : va_G} {dA : Nat → ClassId} {s : State} {M M' : xM} {H H1 : Heap} {locs L : List Loc} {cells mc : Nat} (hs : xSt Z s) (hR : xRel Z D dA s M.1 M.2.1 H locs cells) (hz : M.2.1 ≠ 0 → H.size = M.2.1) (hle : M.2.1 = 0 → M'.2.1 = 0)
    {st0 t : State} (h0 : st0.heap = H) (hp : xPost Z D dA M' mc st0 t) (e1 : H1 = t.heap) (hL : ∀ q ∈ L, xA Z q.base) : xRel Z D dA s M'.1 M'.2.1 H1 (locs ++ L) (cells + mc) := by
  obtain ⟨-, hS, hN⟩ := hR
  obtain ⟨⟨ws, hP1, hD1, hC1⟩, hsz, hold, hN1⟩ := hp
  rw [h0] at hsz hold
  refine ⟨⟨ws, by rw [e1]; exact hP1, hD1, hC1⟩, ⟨by rw [e1]; exact Nat.le_trans hS.1 hsz, fun q h1 h2 => ?_, fun q hq => ?_⟩, fun hn => ?_⟩
  · rw [e1, hold q (Nat.not_le.mp h2)]
    exact hS.2.1 q h1 h2
  · rcases List.mem_append.mp hq with h | h
    · exact hS.2.2 q h
    · exact hL q h
  · have hnx : M.2.1 ≠ 0 := fun h => hn (hle h)
    obtain ⟨g1, g2⟩ := hN1 hn
    rw [h0, hz hnx] at g1
    refine ⟨?_, g2⟩
    have := (hN hnx).1
    omega
/-- what stands fast in a method's body -/
def xFix (Z : State) (D : va_G) (dA : Nat → ClassId) (sx : xSx) (p : Program) (l : Launch) (s : State) (m : MethodId) (meth : Method) (c : Code) (me : xMe) : Prop :=
  p.tables.exec = Jvm.exec ∧ c.code = xmB me ∧ c.maxLocals = xmL me ∧ s.vm.findClass (xmO me) = some m.cls ∧ meth.name = (xmY me).name ∧ meth.locks = false ∧ c.exceptionTable.toList = tableOf (xmH me) ∧ l.stackTraces = false ∧ xEnv Z Z D dA sx ∧ xEnv Z s D dA sx
theorem xFix_ctx {Z : State} {D : va_G} {dA : Nat → ClassId} {sx : xSx} {p : Program} {l : Launch} {s : State} {m : MethodId} {args : Array Value} {meth : Method} {c : Code} {me : xMe} (F : xFix Z D dA sx p l s m meth c me) : xCtx Z D dA p s m args meth c (xmB me) (xmL me) (xmO me) (xmY me).name := by
  obtain ⟨h1, h2, h3, h4, h5, h6, h7, h8, hZ, hE⟩ := F
  exact ⟨h1, h2, h3, h4, fun w hw => hE.2.1 args w hw, hE.2.2.1, h5, hE.1.2.1⟩
def xHRet (Z : State) (D : va_G) (dA : Nat → ClassId) (p : Program) (l : Launch) (e : Env) (R : Room) (s : State) (m : MethodId) (args : Array Value) (below : List Frame) (meth : Method) (c : Code) (Q : State → Prop) (me : xMe) (r : xR) (C1 S1 : Nat) : Prop :=
  ∀ (H1 : Heap) (locs1 : List Loc) (pc1 : Nat) (ls1 : Array Slot) (a : Nat) (st1 : List Value) (v : Option Value), r.1 = .inl v → xRel Z D dA s r.2.1 r.2.2.1 H1 locs1 C1 → xret1 me pc1 a = true → xretv a st1 = some v → W p l e R s m args below meth c H1 locs1 C1 S1 Q (F0 m pc1 ls1 st1)
def xHThr (Z : State) (D : va_G) (dA : Nat → ClassId) (p : Program) (l : Launch) (e : Env) (R : Room) (s : State) (m : MethodId) (args : Array Value) (below : List Frame) (meth : Method) (c : Code) (Q : State → Prop) (me : xMe) (r : xR) (C1 S1 : Nat) : Prop :=
  ∀ (H1 : Heap) (locs1 : List Loc) (cells1 slots1 pc1 : Nat) (ls1 : Array Slot) (a b i : Nat) (z : Int) (st1 : List Value) (nx : Nat), r.1 = .inr a → r.2.2.1 = 0 → xRel Z D dA s r.2.1 nx H1 locs1 cells1 → cells1 + 1 = C1 → slots1 + 6 = S1 → ls1.size = xmL me → 6 ≤ R.frames → 128 ≤ R.locals → xsum st1 ≤ 16 → xthr1 me pc1 a b i z = true →
    W p l e R s m args below meth c H1 locs1 cells1 slots1 Q (F0 m pc1 ls1 st1)
def xHOut (Z : State) (D : va_G) (dA : Nat → ClassId) (p : Program) (l : Launch) (e : Env) (R : Room) (s : State) (m : MethodId) (args : Array Value) (below : List Frame) (meth : Method) (c : Code) (Q : State → Prop) (me : xMe) (r : xR) (C1 S1 : Nat) : Prop :=
  ∀ (H1 : Heap) (locs1 : List Loc) (pc1 : Nat) (ls1 : Array Slot) (rest : List Value) (a : Nat) (q9 : Addr) (ce : Cell), r.1 = .inr a → xmH me = [] → xRel Z D dA s r.2.1 r.2.2.1 H1 locs1 C1 → H1[q9]? = some ce → ce.vm = .none → s.vm.findClass (xexn a) = some ce.cls →
    vx_W p l e R s m args below meth c H1 locs1 C1 S1 Q (F0 m pc1 ls1 rest) q9
def xBody (tab : List xMe) (sx : xSx) (n : Nat) : Prop :=
  ∀ (y : Nat) (me : xMe) (Z : State) (D : va_G) (dA : Nat → ClassId) (p : Program) (l : Launch) (e : Env) (R : Room) (s : State) (m : MethodId) (args : Array Value) (below : List Frame) (meth : Method) (c : Code) (H : Heap) (locs : List Loc) (cells slots : Nat) (Q : State → Prop) (ls : Array Slot) (pc : Nat) (L : xL) (st : List Value) (M : xM) (r : xR) (C1 S1 : Nat),
    tab[y]? = some me → xrun tab sx n y R.frames R.locals pc L st M = some r → xFix Z D dA sx p l s m meth c me → xRel Z D dA s M.1 M.2.1 H locs cells → xLoc ls (xmL me) L → cells + (r.2.2.2.1 - M.2.2.1) = C1 → slots + (r.2.2.2.2 - M.2.2.2) = S1 → C1 ≤ R.cells → S1 ≤ R.slots →
    xHRet Z D dA p l e R s m args below meth c Q me r C1 S1 → xHThr Z D dA p l e R s m args below meth c Q me r C1 S1 → xHOut Z D dA p l e R s m args below meth c Q me r C1 S1 → W p l e R s m args below meth c H locs cells slots Q (F0 m pc ls st)
def xword (me : xMe) : Cond := if xmH me = [] then .code (xmY me) (xmB me) (xmL me) (xmR me) else .codeWith (xmY me) (xmB me) (xmL me) (xmR me) (xmH me)
def xroom (fl lf : Nat) (M M' : xM) : Room := { frames := fl, cells := M'.2.2.1 - M.2.2.1, slots := M'.2.2.2 - M.2.2.2, locals := lf }
/-- what a callee promises of a run -/
def xCal (tab : List xMe) (sx : xSx) (lw n : Nat) : Prop :=
  ∀ (y : Nat) (me : xMe) (Z : State) (D : va_G) (dA : Nat → ClassId) (l : Launch) (fl lf : Nat) (As : List Value) (M : xM) (r : xR), tab[y]? = some me → y < lw → l.stackTraces = false → xEnv Z Z D dA sx → (xent As).length ≤ xmL me → xrun tab sx n y fl lf 0 (xentry (xmL me) As) [] M = some r →
    (∀ v, r.1 = .inl v → xmH me = [] → Met l (xmY me) [xword me] (xroom fl lf M r.2) (xPc Z D dA M As) (xQc Z D dA r.2 v (r.2.2.2.1 - M.2.2.1)) (r.2.2.2.1 - M.2.2.1) (r.2.2.2.2 - M.2.2.2) (xA Z)) ∧
    vx_Met l (xmY me) [xword me] (xroom fl lf M r.2) (xPc Z D dA M As) (fun a st o t => ∃ v, r.1 = .inl v ∧ xQc Z D dA r.2 v (r.2.2.2.1 - M.2.2.1) a st o t) (fun E st t => ∃ a, r.1 = .inr a ∧ E = xexn a ∧ xPost Z D dA r.2 (r.2.2.2.1 - M.2.2.1) st t) (r.2.2.2.1 - M.2.2.1) (r.2.2.2.2 - M.2.2.2) (xA Z)
theorem xchk_at {tab : List xMe} {lw : Nat} {me : xMe} (h : xcok tab lw me = true) {pc : Nat} {q : xI} (hq : (xmI me)[pc]? = some q) : xchk tab lw me pc q = true := by
  unfold xcok at h
  have h1 := List.all_eq_true.mp h pc (List.mem_range.mpr (List.getElem?_eq_some_iff.mp hq).1)
  rw [hq] at h1
  exact h1
set_option maxHeartbeats 4000000 in
/-- the ops that stay in the method -/
theorem xbody_ops {tab : List xMe} {sx : xSx} {lw n : Nat} (ih : xBody tab sx n) (hC : ∀ (y : Nat) (me : xMe), tab[y]? = some me → xcok tab lw me = true)
    (hcall : ∀ (y : Nat) (me : xMe) (Z : State) (D : va_G) (dA : Nat → ClassId) (p : Program) (l : Launch) (e : Env) (R : Room) (s : State) (m : MethodId) (args : Array Value) (below : List Frame) (meth : Method) (c : Code) (H : Heap) (locs : List Loc) (cells slots : Nat) (Q : State → Prop) (ls : Array Slot) (pc : Nat) (L : xL) (st : List Value) (M : xM) (r : xR) (C1 S1 op a b i : Nat) (z : Int),
      tab[y]? = some me → xchk tab lw me pc (op, a, b, i, z) = true → ¬ op < 300 → op ≠ 300 → op ≠ 310 → op ≠ 320 → op < 340 →
      xsC tab (fun y' fl' lf' As M' => match tab[y']? with
      | none => none
      | some me' => xrun tab sx n y' fl' lf' 0 (xentry (xmL me') As) [] M') (fun pc' L' st' M' => xrun tab sx n y R.frames R.locals pc' L' st' M') me R.frames R.locals op a pc L st M = some r →
      xFix Z D dA sx p l s m meth c me → xRel Z D dA s M.1 M.2.1 H locs cells → xLoc ls (xmL me) L → cells + (r.2.2.2.1 - M.2.2.1) = C1 → slots + (r.2.2.2.2 - M.2.2.2) = S1 → C1 ≤ R.cells → S1 ≤ R.slots →
      xHRet Z D dA p l e R s m args below meth c Q me r C1 S1 → xHThr Z D dA p l e R s m args below meth c Q me r C1 S1 → xHOut Z D dA p l e R s m args below meth c Q me r C1 S1 → W p l e R s m args below meth c H locs cells slots Q (F0 m pc ls st)) : xBody tab sx (n + 1) := by
  intro y me Z D dA p l e R s m args below meth c H locs cells slots Q ls pc L st M r C1 S1 hy hr F hR hL hc1 hs1 hcR hsR HRet HThr HOut
  have hctx : xCtx Z D dA p s m args meth c (xmB me) (xmL me) (xmO me) (xmY me).name := xFix_ctx F
  obtain ⟨hx, hb, hml, hown, hyn, hlk, htb, hst, hEZ, hE⟩ := id F
  have hle := xrun_le tab sx _ _ _ _ _ _ _ _ _ hr
  unfold xrun at hr
  rw [hy] at hr
  dsimp only at hr
  unfold xstep at hr
  split at hr
  · cases hr
  rename_i op a b i z hi
  have hck := xchk_at (hC y me hy) hi
  have hck0 := hck
  unfold xchk at hck
  dsimp only at hck
  by_cases h1 : op < 100
  · rw [if_pos h1] at hr hck
    unfold xs1 at hr
    split at hr
    · cases hr
    rename_i q hq
    rw [hq] at hck
    dsimp only at hck
    obtain ⟨hsd, hdg⟩ := xdec_ok hck
    split at hr
    · cases hr
    rename_i r2 hk
    exact x1ops_ok q (List.mem_of_getElem? hq) p l e R s m args below meth c H locs cells slots Q (xmB me) pc ls (xmL me) a b i z L st r2.1 r2.2.1 r2.2.2 hx hb hL hdg hsd hk (fun ls' hL' => ih y me Z D dA p l e R s m args below meth c H locs cells slots Q ls' r2.1 r2.2.1 r2.2.2 M r C1 S1 hy hr F hR hL' hc1 hs1 hcR hsR HRet HThr HOut)
  rw [if_neg h1] at hr hck
  by_cases h2 : op < 200
  · rw [if_pos h2] at hr hck
    unfold xs2 at hr
    split at hr
    · cases hr
    rename_i q hq
    rw [hq] at hck
    dsimp only at hck
    obtain ⟨hsd, hdg⟩ := xdec_ok hck
    split at hr
    · cases hr
    rename_i r2 hk
    exact x2ops_ok q (List.mem_of_getElem? hq) Z D dA p l e R s m args below meth c H locs cells slots Q (xmB me) pc ls (xmL me) (xmO me) (xmY me).name a b i z M.1 M.2.1 st r2.1 r2.2 hctx hR hdg hsd hk (fun H1 locs1 hR1 => ih y me Z D dA p l e R s m args below meth c H1 locs1 cells slots Q ls _ L r2.2 (r2.1, M.2) r C1 S1 hy hr F hR1 hL hc1 hs1 hcR hsR HRet HThr HOut)
  rw [if_neg h2] at hr hck
  by_cases h3 : op < 250
  · rw [if_pos h3] at hr hck
    unfold xs3 at hr
    split at hr
    · cases hr
    rename_i q hq
    rw [hq] at hck
    dsimp only at hck
    obtain ⟨hsd, hdg⟩ := xdec_ok hck
    split at hr
    · cases hr
    rename_i r2 hk
    have l1 := x3ops_nx q (List.mem_of_getElem? hq) _ _ _ _ _ _ _ _ hk
    have l2 := xrun_le tab sx _ _ _ _ _ _ _ _ _ hr
    obtain ⟨h, nx, ce, sl⟩ := M
    obtain ⟨⟨h', nx', ce', sl'⟩, st'⟩ := r2
    obtain ⟨l11, l12, -⟩ := l1
    obtain ⟨l21, l22, -⟩ := l2
    dsimp only at l11 l12 l21 l22 hc1 hs1 hR hr
    exact x3ops_ok q (List.mem_of_getElem? hq) Z D dA sx p l e R s m args below meth c H locs cells slots Q (xmB me) pc ls (xmL me) (xmO me) (xmY me).name a b i z h nx ce sl st h' nx' ce' sl' st' hctx hE.2.2.2.1 hR hdg hsd hk (by omega) (by omega) (fun H1 locs1 hR1 => ih y me Z D dA p l e R s m args below meth c H1 locs1 _ _ Q ls _ L st' (h', nx', ce', sl') r C1 S1 hy hr F hR1 hL (by dsimp only; omega) (by dsimp only; omega) hcR hsR HRet HThr HOut)
  rw [if_neg h3] at hr hck
  by_cases h4 : op < 300
  · rw [if_pos h4] at hr hck
    unfold xs4 at hr
    split at hr
    · cases hr
    rename_i q hq
    rw [hq] at hck
    dsimp only at hck
    obtain ⟨hsd, hdg⟩ := xdec_ok hck
    split at hr
    · rename_i hcond
      split at hr
      · cases hr
      rename_i r2 hk
      exact x4ops_ok q (List.mem_of_getElem? hq) Z D dA sx p l e R s m args below meth c H locs cells slots Q (xmB me) pc ls (xmL me) (xmO me) (xmY me).name a b i z M.1 M.2.1 st r2.1 r2.2 hctx hE hR hL.2.1 hcond.1 hcond.2.1 hcond.2.2 (by omega) (by omega) hdg hsd hk (fun H1 locs1 hR1 => ih y me Z D dA p l e R s m args below meth c H1 locs1 cells slots Q ls _ L r2.2 (r2.1, M.2) r C1 S1 hy hr F hR1 hL hc1 hs1 hcR hsR HRet HThr HOut)
    · cases hr
  rw [if_neg h4] at hr hck
  by_cases h5 : op = 300
  · rw [if_pos h5] at hr hck
    unfold xsR at hr
    split at hr
    · cases hr
    rename_i v hv
    cases hr
    dsimp only at hc1 hs1
    rw [Nat.sub_self, Nat.add_zero] at hc1 hs1
    subst hc1
    subst hs1
    exact HRet H locs pc ls a st v rfl hR hck hv
  rw [if_neg h5] at hr hck
  by_cases h6 : op = 310
  · rw [if_pos h6] at hr hck
    unfold xsW at hr
    split at hr
    · cases hr
    rename_i r2 hk
    split at hck
    · cases hck
    rename_i q hq
    unfold xsw at hk
    rw [hq] at hk
    obtain ⟨d, lo, ts⟩ := q
    unfold xswok at hck
    split at hck
    · rename_i d' lo' hi' offs len hdg
      simp only [Bool.and_eq_true, decide_eq_true_eq] at hck
      obtain ⟨⟨⟨e1, e2⟩, e3⟩, e4⟩ := hck
      subst e2
      split at hk
      · rename_i dd ll tt x rest heq
        cases heq
        split at hk
        · rename_i hout
          cases hk
          exact lv_tableOut hx hb hdg (by rw [e3]; exact hout) e1 (ih y me Z D dA p l e R s m args below meth c H locs cells slots Q ls d L rest M r C1 S1 hy hr F hR hL hc1 hs1 hcR hsR HRet HThr HOut)
        · rename_i hin
          split at hk
          · rename_i t ht
            cases hk
            have hlen : offs.toList.length = ts.length := by
              have := congrArg List.length e4
              simpa using this
            have hlt : (x.toInt - lo').toNat < offs.toList.length := by rw [hlen]; exact (List.getElem?_eq_some_iff.mp ht).1
            have h9 := congrArg (fun u : List Int => u[(x.toInt - lo').toNat]?) e4
            simp only [List.getElem?_map] at h9
            rw [ht, List.getElem?_eq_getElem hlt] at h9
            simp only [Option.map_some, Option.some.injEq] at h9
            exact lv_tableIn hx hb hdg (fun q => hin (Or.inl q)) (fun q => hin (Or.inr (by rw [e3] at q; exact q))) (off := offs.toList[(x.toInt - lo').toNat]) (by rw [← Array.getElem?_toList]; exact List.getElem?_eq_getElem hlt) h9 (ih y me Z D dA p l e R s m args below meth c H locs cells slots Q ls t L rest M r C1 S1 hy hr F hR hL hc1 hs1 hcR hsR HRet HThr HOut)
          · cases hk
      · cases hk
    · cases hck
  rw [if_neg h6] at hr hck
  by_cases h7 : op = 320
  · rw [if_pos h7] at hr hck
    unfold xsT at hr
    split at hr
    · rename_i hcond
      cases hr
      dsimp only at hc1 hs1
      exact HThr H locs cells slots pc ls a b i z st M.2.1 rfl rfl hR (by omega) (by omega) hL.2.1 hcond.1 hcond.2.1 hcond.2.2 hck
    · cases hr
  rw [if_neg h7] at hr hck
  by_cases h8 : op < 340
  · rw [if_pos h8] at hr
    exact hcall y me Z D dA p l e R s m args below meth c H locs cells slots Q ls pc L st M r C1 S1 op a b i z hy hck0 h4 h5 h6 h7 h8 hr F hR hL hc1 hs1 hcR hsR HRet HThr HOut
  · rw [if_neg h8] at hr
    cases hr
