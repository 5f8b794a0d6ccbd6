/-! THE ABSTRACT INTERPRETER, 8: calls. -/
theorem xhandler {own : String} {bytes : ByteArray} {nL pc : Nat} : ∀ (hh : List (Nat × Nat × Nat × Nat)) (hc : List (Nat × Nat × Nat × Nat)), xhok own bytes nL pc hh hc = true → ∀ (e : Nat) (q : Nat × Nat × Nat × Nat), hc.find? (fun q => q.1 == e) = some q →
    ∃ (pre : List ExceptionTableEntry) (x : ExceptionTableEntry) (suf : List ExceptionTableEntry), tableOf hh = pre ++ x :: suf ∧ (∀ z ∈ pre, z.catchType ≠ 0 ∧ ∃ i : Nat, i < 4 ∧ i ≠ e ∧ Cond.classLink own z.catchType (xexn i) ∈ xLT) ∧ covers x pc = true ∧ x.catchType ≠ 0 ∧ e < 4 ∧ q.2.2.1 < nL ∧
      Cond.classLink own x.catchType (xexn e) ∈ xLT ∧ ((decode bytes x.handlerPc = .ok (.astore_n (Fin.ofNat 4 q.2.2.1), 1) ∧ q.2.2.1 < 4 ∧ q.2.1 = x.handlerPc + 1) ∨ (decode bytes x.handlerPc = .ok (.astore q.2.2.1, 2) ∧ q.2.1 = x.handlerPc + 2)) := by
  intro hh
  induction hh with
  | nil =>
    intro hc h e q hq
    cases hc with
    | nil => cases hq
    | cons a r => simp [xhok] at h
  | cons a r ih =>
    intro hc h e q hq
    obtain ⟨s, en, hp, t⟩ := a
    cases hc with
    | nil => simp [xhok] at h
    | cons b r' =>
      obtain ⟨x, pc', loc, wi⟩ := b
      unfold xhok at h
      simp only [Bool.and_eq_true, decide_eq_true_eq, Bool.or_eq_true] at h
      obtain ⟨⟨⟨⟨⟨⟨⟨c1, c2⟩, c3⟩, c4⟩, c5⟩, c6⟩, c8⟩, c9⟩ := h
      have c6 := xw_ok c6
      by_cases hx : x = e
      · subst hx
        simp only [List.find?_cons, beq_self_eq_true] at hq
        cases hq
        refine ⟨[], ⟨s, en, hp, t⟩, tableOf r, rfl, fun z hz => (nomatch hz), by simp [covers, c1, c2], c4, c5, c3, c6, c8⟩
      · have hxb : (x == e) = false := by simpa using hx
        simp only [List.find?_cons, hxb] at hq
        obtain ⟨pre, y, suf, g1, g2, g3⟩ := ih r' c9 e q hq
        refine ⟨⟨s, en, hp, t⟩ :: pre, y, suf, ?_, fun z hz => ?_, g3⟩
        · show _ :: tableOf r = _
          rw [g1]
          rfl
        · rcases List.mem_cons.mp hz with rfl | hz
          · exact ⟨c4, x, c5, hx, c6⟩
          · exact g2 z hz
theorem xcast_ok : ∀ x, x < 4 → Cond.castable (xexn x) (xexn x) ∈ xthw := by
  intro x hx
  match x, hx with
  | 0, _ => decide +kernel
  | 1, _ => decide +kernel
  | 2, _ => decide +kernel
  | 3, _ => decide +kernel
theorem xLoc_none {ls : Array Slot} {nL i : Nat} {L : xL} {v : Value} (h : xLoc ls nL (L.set i (some v))) : xLoc ls nL (L.set i none) := by
  obtain ⟨h1, h2, h3, h4⟩ := h
  refine ⟨by rw [List.length_set] at h1 ⊢; exact h1, h2, h3, fun j w hj => h4 j w ?_⟩
  by_cases e : i = j
  · subst e
    rw [List.getElem?_set_self'] at hj
    cases hL : L[i]? <;> rw [hL] at hj <;> simp at hj
  · rw [List.getElem?_set_ne e] at hj ⊢
    exact hj
theorem xmok_ok {me : xMe} (h : ∃ a b c d, xmok me a b c d = true) : (xmY me).cls = xmO me ∧ (plainFor (xmY me) = true ∧ (xmH me = [] ∨ plainName (xmO me) = true)) ∧ (xmO me ≠ "java/lang/invoke/MethodHandle" ∧ xmO me ≠ "java/lang/invoke/VarHandle") ∧ Cond.initialized (xmO me) ∈ xLT ∧ xword me ∈ xLT ∧ (∀ sig, parseMethodDescriptor (xmY me).desc = some sig → xmN me = sig.parameters.length) ∧
    (xmK me = 0 → Cond.static (xmY me) ∈ xLT) ∧ (xmK me = 1 → Cond.instanceMethod (xmY me) ∈ xLT ∧ Cond.selects (xmO me) (xmY me) (xmY me) ∈ xLT ∧ xmX me < 7 ∧ xcR (xmX me) = xmO me) ∧ (xmK me = 2 → Cond.instanceMethod (xmY me) ∈ xLT ∧ (xmY me).name = "<init>" ∧ xmR me = none) := by
  obtain ⟨wa, wb, wc, wd, h⟩ := h
  unfold xmok at h
  simp only [Bool.and_eq_true, Bool.or_eq_true, decide_eq_true_eq] at h
  obtain ⟨⟨⟨⟨⟨⟨⟨h1, h2⟩, h3⟩, h4⟩, h5⟩, h6⟩, h7⟩, h8⟩ := h
  refine ⟨h1, h2, ⟨h3, h4⟩, xw_ok h5, ?_, fun sig hs => ?_, fun hk => ?_, fun hk => ?_, fun hk => ?_⟩
  · unfold xword
    by_cases hh : xmH me = []
    · rw [if_pos hh] at h6 ⊢
      exact xw_ok h6
    · rw [if_neg hh] at h6 ⊢
      exact xw_ok h6
  · rw [hs] at h7
    exact (Option.some.inj h7).symm
  · rw [if_pos hk] at h8
    exact xw_ok h8
  · rw [if_neg (by rw [hk]; decide), if_pos hk] at h8
    simp only [Bool.and_eq_true, decide_eq_true_eq] at h8
    exact ⟨xw_ok h8.1.1.1, xw_ok h8.1.1.2, h8.1.2, h8.2⟩
  · rw [if_neg (by rw [hk]; decide), if_neg (by rw [hk]; decide), if_pos hk] at h8
    simp only [Bool.and_eq_true, decide_eq_true_eq] at h8
    exact ⟨xw_ok h8.1.1, h8.1.2, h8.2⟩
set_option maxHeartbeats 8000000 in
theorem xbody_call {tab : List xMe} {sx : xSx} {lw n : Nat} (ih : xBody tab sx n) (hcal : xCal tab sx lw n) (hmok : ∀ (y : Nat) (me : xMe), tab[y]? = some me → y < lw → ∃ a b c d, xmok me a b c d = true)
    (y : Nat) (me : xMe) (Z : State) (D : va_G) (dA : Nat → ClassId) (p : Program) (l : Launch) (e : Env) (R : Room) (s : State) (m : MethodId) (args : Array Value) (below : List Frame) (meth : Method) (c : Code) (H : Heap) (locs : List Loc) (cells slots : Nat) (Q : State → Prop) (ls : Array Slot) (pc : Nat) (L : xL) (st : List Value) (M : xM) (r : xR) (C1 S1 op a b i : Nat) (z : Int)
    (hy : tab[y]? = some me) (hck : xchk tab lw me pc (op, a, b, i, z) = true) (h4 : ¬ op < 300) (h5 : op ≠ 300) (h6 : op ≠ 310) (h7 : op ≠ 320) (h8 : op < 340)
    (hr : xsC tab (fun y' fl' lf' As M' => match tab[y']? with
      | none => none
      | some me' => xrun tab sx n y' fl' lf' 0 (xentry (xmL me') As) [] M') (fun pc' L' st' M' => xrun tab sx n y R.frames R.locals pc' L' st' M') me R.frames R.locals op a pc L st M = some r)
    (F : xFix Z D dA sx p l s m meth c me) (hR : xRel Z D dA s M.1 M.2.1 H locs cells) (hL : xLoc ls (xmL me) L) (hc1 : cells + (r.2.2.2.1 - M.2.2.1) = C1) (hs1 : slots + (r.2.2.2.2 - M.2.2.2) = S1) (hcR : C1 ≤ R.cells) (hsR : S1 ≤ R.slots)
    (HRet : xHRet Z D dA p l e R s m args below meth c Q me r C1 S1) (HThr : xHThr Z D dA p l e R s m args below meth c Q me r C1 S1) (HOut : xHOut Z D dA p l e R s m args below meth c Q me r C1 S1) : W p l e R s m args below meth c H locs cells slots Q (F0 m pc ls st) := by
  obtain ⟨hx, hb, hml, hown, hyn, hlk, htb, hst, hEZ, hE⟩ := id F
  have hZs : Z.heap.size ≤ s.heap.size := hE.1.2.1
  have hts : ∀ w ∈ xLT, w.before args s = true := fun w hw => hE.2.1 args w hw
  unfold xchk at hck
  dsimp only at hck
  rw [if_neg (by omega), if_neg (by omega), if_neg (by omega), if_neg h4, if_neg h5, if_neg h6, if_neg h7, if_pos h8] at hck
  unfold xsC at hr
  cases ha : tab[a]? with
  | none => rw [ha] at hr; cases hr
  | some me' =>
  rw [ha] at hr hck
  dsimp only at hr hck
  simp only [Bool.and_eq_true, decide_eq_true_eq] at hck
  obtain ⟨⟨halw, hck⟩, hhok⟩ := hck
  obtain ⟨o1, o2, o3, o4, o5, o6, o7, o8, o9⟩ := xmok_ok (hmok a me' ha halw)
  cases hcg : xcarg op (xmN me') (xmX me') M st with
  | none => rw [hcg] at hr; cases hr
  | some qa =>
  obtain ⟨As, rest⟩ := qa
  rw [hcg] at hr
  dsimp only at hr
  by_cases hcond : 1 ≤ R.frames ∧ 19 + xmL me' ≤ R.locals ∧ xsum rest ≤ 8 ∧ (xent As).length ≤ xmL me'
  case neg => rw [if_neg hcond] at hr; cases hr
  rw [if_pos hcond] at hr
  obtain ⟨d1, d2, d3, d4⟩ := hcond
  rw [ha] at hr
  dsimp only at hr
  cases hr1 : xrun tab sx n a (R.frames - 1) (R.locals - (19 + xmL me')) 0 (xentry (xmL me') As) [] M with
  | none => rw [hr1] at hr; cases hr
  | some r1 =>
  rw [hr1] at hr
  obtain ⟨hMet, hvMet⟩ := hcal a me' Z D dA l _ _ As M r1 ha halw hst hEZ d4 hr1
  have hle1 := xrun_le tab sx _ _ _ _ _ _ _ _ _ hr1
  have hle2 : r1.2.2.2.1 ≤ r.2.2.2.1 ∧ r1.2.2.2.2 ≤ r.2.2.2.2 := by
    have h9 := xsB_le (M := r1.2) (fun r9 h9 => by cases h9; exact xLe_rf _) (fun pc L st M r h => xrun_le tab sx _ _ _ _ _ _ _ _ _ h) hr
    exact ⟨h9.1, h9.2.1⟩
  have hroom : (xroom (R.frames - 1) (R.locals - (19 + xmL me')) M r1.2).frames + 1 ≤ R.frames ∧ 8 + (xmL me' + 11) + (xroom (R.frames - 1) (R.locals - (19 + xmL me')) M r1.2).locals ≤ R.locals := ⟨by show R.frames - 1 + 1 ≤ _; omega, by show 8 + (xmL me' + 11) + (R.locals - (19 + xmL me')) ≤ _; omega⟩
  have hpay : ∀ w ∈ [xword me'], ∀ (a' : Array Value) (U : State), s.WarmedH U.vm → w.before a' U = true := by
    intro w hw a' U hW
    rw [List.mem_singleton.mp hw]
    exact word_at hW (good_of_word (List.mem_filter.mp o5).2) (hts _ o5)
  have hf : cells + (r1.2.2.2.1 - M.2.2.1) ≤ R.cells ∧ slots + (r1.2.2.2.2 - M.2.2.2) ≤ R.slots := by
    have g1 := hle1.1
    have g2 := hle1.2.1
    omega
  have hini : (Cond.initialized (xmY me').cls).before args s = true := by rw [o1]; exact hts _ o4
  have hnm : (xmY me').cls ≠ "java/lang/invoke/MethodHandle" ∧ (xmY me').cls ≠ "java/lang/invoke/VarHandle" := by rw [o1]; exact o3
  have hfix : CallFix p m c (xmB me) (xmL me) s args xLT (xmO me) := ⟨hx, hb, hml, hown, hts⟩
  -- the arguments
  have hlen : ¬ st.length < xmN me' := by
    intro q
    unfold xcarg at hcg
    rw [if_pos q] at hcg
    cases hcg
  have htd : st = (st.take (xmN me')) ++ st.drop (xmN me') := (List.take_append_drop _ _).symm
  have hnl : ((st.take (xmN me')).reverse).length = xmN me' := by simp; omega
  -- behind the call: it returned
  have fin : ∀ (T : State), T.heap = H → Stand p l e R s m args below meth c T locs cells slots → ∀ (v v0 : Option Value) (st₀ t T' : State) (L9 : List Loc), st₀.heap = H → Stand p l e R s m args below meth c T' (locs ++ L9) (cells + (r1.2.2.2.1 - M.2.2.1)) (slots + (r1.2.2.2.2 - M.2.2.2)) → (∀ q ∈ L9, xA Z q.base) → T'.heap = t.heap → r1.1 = .inl v0 → xQc Z D dA r1.2 v0 (r1.2.2.2.1 - M.2.2.1) As.toArray st₀ (.returned v) t →
      Goes p e below T (F0 m pc ls st) T' { F0 m pc ls st with pc := (F0 m pc ls st).pc + 3, stack := v.toList ++ rest } → ∃ t2, Steps p.tables e below (T.setTop (F0 m pc ls st)) t2 ∧ Q t2 := by
    intro T hT X v v0 st₀ t T' L9 h0 X' hL9 e1 hv0 hq stp
    obtain ⟨hq1, hq2⟩ := hq
    cases hq1
    have hz : M.2.1 ≠ 0 → H.size = M.2.1 := fun h0 => xSize hZs hR h0 hT X
    have hR1 := xRel_back hE.1 hR hz hle1.2.2 h0 hq2 e1 hL9
    obtain ⟨r11, M'⟩ := r1
    dsimp only at hv0
    subst hv0
    unfold xsB at hr
    dsimp only at hr hR1 hle1 hle2 X'
    obtain ⟨t2, a1, b1⟩ := ih y me Z D dA p l e R s m args below meth c T'.heap (locs ++ L9) _ _ Q ls (pc + 3) L (v.toList ++ rest) M' r C1 S1 hy hr F hR1 hL (by have := hle1.1; omega) (by have := hle1.2.1; omega) hcR hsR HRet HThr HOut T' rfl X'
    exact ⟨t2, stp t2 a1, b1⟩
  -- it threw
  have finx : (op = 330 ∨ op = 331) → ∀ (T : State), T.heap = H → Stand p l e R s m args below meth c T locs cells slots → ∀ (q9 : Addr) (st₀ t T' : State) (L9 : List Loc) (a9 : Nat) (ce : Cell), st₀.heap = H → Stand p l e R s m args below meth c T' (locs ++ L9) (cells + (r1.2.2.2.1 - M.2.2.1)) (slots + (r1.2.2.2.2 - M.2.2.2)) → (∀ q ∈ L9, xA Z q.base) → T'.heap = t.heap → r1.1 = .inr a9 → xPost Z D dA r1.2 (r1.2.2.2.1 - M.2.2.1) st₀ t →
      t.heap[q9]? = some ce → ce.vm = .none → s.vm.findClass (xexn a9) = some ce.cls → Steps p.tables e below (T.setTop (F0 m pc ls st)) ((T'.setTop { F0 m pc ls st with stack := rest }).pushFrame (.throwing q9)) → ∃ t2, Steps p.tables e below (T.setTop (F0 m pc ls st)) t2 ∧ Q t2 := by
    intro hop T hT X q9 st₀ t T' L9 a9 ce h0 X' hL9 e1 ha9 hq2 hce hcv hcl stp
    have hz : M.2.1 ≠ 0 → H.size = M.2.1 := fun h0 => xSize hZs hR h0 hT X
    have hR1 := xRel_back hE.1 hR hz hle1.2.2 h0 hq2 e1 hL9
    obtain ⟨r11, M'⟩ := r1
    dsimp only at ha9
    subst ha9
    unfold xsB at hr
    dsimp only at hr hR1 hle1 hle2 X'
    rw [if_pos hop] at hr
    have hce1 : T'.heap[q9]? = some ce := by rw [e1]; exact hce
    suffices K : vx_W p l e R s m args below meth c T'.heap (locs ++ L9) (cells + (M'.2.2.1 - M.2.2.1)) (slots + (M'.2.2.2 - M.2.2.2)) Q (F0 m pc ls rest) q9 by
      obtain ⟨t2, a1, b1⟩ := K T' rfl X'
      exact ⟨t2, stp.trans a1, b1⟩
    cases hh : xmH me with
    | nil =>
      rw [hh] at hr
      dsimp only at hr
      cases hr
      dsimp only at hc1 hs1
      subst hc1
      subst hs1
      exact HOut T'.heap (locs ++ L9) pc ls rest a9 q9 ce rfl hh hR1 hce1 hcv hcl
    | cons hd tl =>
      rw [hh] at hr
      dsimp only at hr
      cases hfd : (xmC me).find? (fun q => q.1 == a9) with
      | none => rw [hfd] at hr; cases hr
      | some q =>
        rw [hfd] at hr
        dsimp only at hr
        rw [if_neg (by rw [hh]; simp)] at hhok
        obtain ⟨pre, x, suf, g1, g2, g3, g4, g5, g6, g7, g9⟩ := xhandler _ _ hhok a9 q hfd
        have g8 := xcast_ok a9 g5
        refine vx_catch (name := xexn a9) hown pre x suf (by rw [htb, g1]) (fun zz hzz => ?_) g3 g4 (hts _ g7) (hE.2.2.2.2.1 args _ g8) hce1 hcv hcl ?_
        · obtain ⟨u1, i9, u2, u3, u4⟩ := g2 zz hzz
          exact Or.inr ⟨u1, xexn i9, hts _ u4, hE.2.2.2.2.2.2.2.2.2.2.2.2.1 a9 i9 g5 u2 (Ne.symm u3)⟩
        · have hlt : q.2.2.1 < L.length := by rw [hL.1]; exact g6
          have go : ∀ ls' : Array Slot, lv_has ls' (xmL me) ((q.2.2.1, Value.ref q9) :: (xlv L).filter (fun w => !(w.1 == q.2.2.1) && !(w.1 + 1 == q.2.2.1 && w.2.category == 2))) → W p l e R s m args below meth c T'.heap (locs ++ L9) (cells + (M'.2.2.1 - M.2.2.1)) (slots + (M'.2.2.2 - M.2.2.2)) Q (F0 m q.2.1 ls' []) := fun ls' h' =>
            ih y me Z D dA p l e R s m args below meth c T'.heap (locs ++ L9) _ _ Q ls' q.2.1 _ [] M' r C1 S1 hy hr F hR1 (xLoc_none (xLoc_st1 hL hlt rfl h')) (by have := hle1.1; omega) (by have := hle1.2.1; omega) hcR hsR HRet HThr HOut
          rcases g9 with ⟨v1, v2, v3⟩ | ⟨v1, v3⟩
          · rw [v3] at go
            exact lv_astore_n hx hb v1 (Nat.mod_eq_of_lt v2) (xLoc_has hL) g6 rfl go
          · rw [v3] at go
            exact lv_astore hx hb v1 (xLoc_has hL) g6 rfl go
  have onlyret : ¬ (op = 330 ∨ op = 331) → ∃ v, r1.1 = .inl v := by
    intro hop
    obtain ⟨r11, M'⟩ := r1
    cases r11 with
    | inl v => exact ⟨v, rfl⟩
    | inr e9 =>
      unfold xsB at hr
      dsimp only at hr
      rw [if_neg hop] at hr
      cases hr
  unfold xcarg at hcg
  rw [if_neg hlen] at hcg
  unfold xcall1 at hck
  by_cases q0 : op = 330
  · subst q0
    rw [if_pos rfl] at hck
    simp only [Bool.and_eq_true, decide_eq_true_eq] at hck
    obtain ⟨⟨⟨hdg, hlw⟩, hk1⟩, hh0⟩ := hck
    obtain ⟨k1, k2, k3, k4⟩ := o8 hk1
    rw [if_neg (by decide)] at hcg
    split at hcg
    · rename_i rr rest' hdrop
      rw [if_pos rfl] at hcg
      split at hcg
      · rename_i ci fs hMr
        split at hcg
        · rename_i hci
          cases hcg
          subst hci
          have hwd : xword me' = .code (xmY me') (xmB me') (xmL me') (xmR me') := by unfold xword; rw [if_pos hh0]
          rw [hwd] at hpay hvMet o5
          intro T hT X
          have hz : M.2.1 ≠ 0 → H.size = M.2.1 := fun h0 => xSize hZs hR h0 hT X
          have hrec : ∃ cellB : Cell, H[rr]? = some cellB ∧ cellB.vm.isStatics = false ∧ s.vm.findClass (xmO me') = some cellB.cls := by
            obtain ⟨ws, hP, hD, hCv⟩ := hR.1
            obtain ⟨k0, hk0⟩ := hCv rr _ hMr
            have := va_recv hE.2.2.1 hP (xcl_ok _ k3).1 hk0
            rw [k4] at this
            exact this
          rcases (vx_runV (As := (st.take (xmN me')).reverse) (rest := rest) (C := xmO me') (b := rr) (n := xmN me') (mc := r1.2.2.2.1 - M.2.2.1) (ms := r1.2.2.2.2 - M.2.2.2) hfix hvMet ⟨⟨rfl, rfl, hroom.1, hroom.2, hpay, List.mem_singleton.mpr rfl, hts _ o5, hini, hnm, o6, hts _ (xw_ok hlw)⟩, hts _ k1, hts _ k2⟩
            ⟨xPc_blind _ _ _ _ _, hrec, fun U hU hW => xPc_of _ hE.1 hR hz hU hW⟩ (g := F0 m pc ls st) rfl hnl hL.2.1 (by show st = _; rw [List.reverse_reverse, ← hdrop]; exact htd) (lv_room d3) hdg hf) T hT X with ⟨v, st₀, t, T', L9, h0, X', hL9, e1, e2, hq, stp⟩ | ⟨q9, st₀, t, T', L9, E, ce, h0, X', hL9, e1, e2, hq, hce, hcv, hcl, stp⟩
          · obtain ⟨v0, hv0, hq⟩ := hq
            exact fin T hT X v v0 st₀ t T' L9 h0 X' hL9 e1 hv0 hq stp
          · obtain ⟨a9, ha9, rfl, hq⟩ := hq
            exact finx (Or.inl rfl) T hT X q9 st₀ t T' L9 a9 ce h0 X' hL9 e1 ha9 hq hce hcv hcl stp
        · cases hcg
      · cases hcg
    · cases hcg
  rw [if_neg q0] at hck
  by_cases q1 : op = 331
  · subst q1
    rw [if_pos rfl] at hck
    simp only [Bool.and_eq_true, decide_eq_true_eq] at hck
    obtain ⟨⟨⟨hdg, hlw⟩, hk0⟩, hh0⟩ := hck
    rw [if_pos (by decide)] at hcg
    cases hcg
    have hwd : xword me' = .code (xmY me') (xmB me') (xmL me') (xmR me') := by unfold xword; rw [if_pos hh0]
    rw [hwd] at hpay hvMet o5
    intro T hT X
    have hz : M.2.1 ≠ 0 → H.size = M.2.1 := fun h0 => xSize hZs hR h0 hT X
    rcases (vx_runS (As := (st.take (xmN me')).reverse) (rest := st.drop (xmN me')) (n := xmN me') (mc := r1.2.2.2.1 - M.2.2.1) (ms := r1.2.2.2.2 - M.2.2.2) hfix hvMet ⟨⟨rfl, rfl, hroom.1, hroom.2, hpay, List.mem_singleton.mpr rfl, hts _ o5, hini, hnm, o6, hts _ (xw_ok hlw)⟩, hts _ (o7 hk0)⟩
      ⟨xPc_blind _ _ _ _ _, fun U hU hW => xPc_of _ hE.1 hR hz hU hW⟩ (g := F0 m pc ls st) rfl hnl hL.2.1 (by show st = _; rw [List.reverse_reverse]; exact htd) (lv_room d3) hdg hf) T hT X with ⟨v, st₀, t, T', L9, h0, X', hL9, e1, e2, hq, stp⟩ | ⟨q9, st₀, t, T', L9, E, ce, h0, X', hL9, e1, e2, hq, hce, hcv, hcl, stp⟩
    · obtain ⟨v0, hv0, hq⟩ := hq
      exact fin T hT X v v0 st₀ t T' L9 h0 X' hL9 e1 hv0 hq stp
    · obtain ⟨a9, ha9, rfl, hq⟩ := hq
      exact finx (Or.inr rfl) T hT X q9 st₀ t T' L9 a9 ce h0 X' hL9 e1 ha9 hq hce hcv hcl stp
  rw [if_neg q1] at hck
  obtain ⟨v0, hv0⟩ := onlyret (fun q => q.elim q0 q1)
  by_cases q2 : op = 332
  · subst q2
    rw [if_pos rfl] at hck
    simp only [Bool.and_eq_true, decide_eq_true_eq] at hck
    obtain ⟨⟨⟨hdg, hlw⟩, hk2⟩, hh0⟩ := hck
    obtain ⟨k1, k2, k3⟩ := o9 hk2
    rw [if_neg (by decide)] at hcg
    split at hcg
    · rename_i rr rest' hdrop
      rw [if_neg (by decide)] at hcg
      cases hcg
      have hwd : xword me' = .code (xmY me') (xmB me') (xmL me') none := by unfold xword; rw [if_pos hh0, k3]
      have hMet := hMet v0 hv0 hh0
      rw [hwd] at hpay hMet o5
      intro T hT X
      have hz : M.2.1 ≠ 0 → H.size = M.2.1 := fun h0 => xSize hZs hR h0 hT X
      obtain ⟨v, st₀, t, T', L9, h0, X', hL9, e1, e2, hq, stp⟩ := (va_runI (As := (st.take (xmN me')).reverse) (rest := rest) (b := rr) (n := xmN me') (mc := r1.2.2.2.1 - M.2.2.1) (ms := r1.2.2.2.2 - M.2.2.2) hfix hMet ⟨⟨rfl, rfl, hroom.1, hroom.2, hpay, List.mem_singleton.mpr rfl, hts _ o5, hini, hnm, o6, hts _ (xw_ok hlw)⟩, k2, hts _ k1⟩
        ⟨xPc_blind _ _ _ _ _, fun U hU hW => xPc_of _ hE.1 hR hz hU hW⟩ (g := F0 m pc ls st) rfl hnl hL.2.1 (by show st = _; rw [List.reverse_reverse, ← hdrop]; exact htd) (lv_room d3) hdg hf) T hT X
      exact fin T hT X v v0 st₀ t T' L9 h0 X' hL9 e1 hv0 hq stp
    · cases hcg
  rw [if_neg q2] at hck
  by_cases q3 : op = 333
  · subst q3
    rw [if_pos rfl] at hck
    simp only [Bool.and_eq_true, decide_eq_true_eq] at hck
    obtain ⟨⟨⟨hdg, hlw⟩, hk0⟩, hh0⟩ := hck
    rw [if_pos (by decide)] at hcg
    cases hcg
    have hwd : xword me' = .code (xmY me') (xmB me') (xmL me') (xmR me') := by unfold xword; rw [if_pos hh0]
    have hMet := hMet v0 hv0 hh0
    rw [hwd] at hpay hMet o5
    have hnl9 := hE.2.2.2.2.2.1 _ (List.mem_of_getElem? hlw)
    intro T hT X
    have hz : M.2.1 ≠ 0 → H.size = M.2.1 := fun h0 => xSize hZs hR h0 hT X
    obtain ⟨v, st₀, t, T', L9, h0, X', hL9, e1, e2, hq, stp⟩ := (va_runSN (As := (st.take (xmN me')).reverse) (rest := st.drop (xmN me')) (n := xmN me') (host := RX5) (mc := r1.2.2.2.1 - M.2.2.1) (ms := r1.2.2.2.2 - M.2.2.2) hfix hMet ⟨⟨⟨rfl, rfl, hroom.1, hroom.2, hpay, List.mem_singleton.mpr rfl⟩, hts _ o5, hini, hnm, o6, va_Nw.use rfl hnl9⟩, hts _ (o7 hk0), trivial⟩
      ⟨xPc_blind _ _ _ _ _, fun U hU hW => xPc_of _ hE.1 hR hz hU hW⟩ (g := F0 m pc ls st) rfl hnl hL.2.1 (by show st = _; rw [List.reverse_reverse]; exact htd) (lv_room d3) hdg hf) T hT X
    exact fin T hT X v v0 st₀ t T' L9 h0 X' hL9 e1 hv0 hq stp
  rw [if_neg q3] at hck
  by_cases q4 : op = 334
  · subst q4
    rw [if_pos rfl] at hck
    simp only [Bool.and_eq_true, decide_eq_true_eq] at hck
    obtain ⟨⟨⟨hdg, hlw⟩, hk2⟩, hh0⟩ := hck
    obtain ⟨k1, k2, k3⟩ := o9 hk2
    rw [if_neg (by decide)] at hcg
    split at hcg
    · rename_i rr rest' hdrop
      rw [if_neg (by decide)] at hcg
      cases hcg
      have hwd : xword me' = .code (xmY me') (xmB me') (xmL me') none := by unfold xword; rw [if_pos hh0, k3]
      have hMet := hMet v0 hv0 hh0
      rw [hwd] at hpay hMet o5
      have hnl9 := hE.2.2.2.2.2.1 _ (List.mem_of_getElem? hlw)
      intro T hT X
      have hz : M.2.1 ≠ 0 → H.size = M.2.1 := fun h0 => xSize hZs hR h0 hT X
      obtain ⟨v, st₀, t, T', L9, h0, X', hL9, e1, e2, hq, stp⟩ := (va_runIN (As := (st.take (xmN me')).reverse) (rest := rest) (b := rr) (n := xmN me') (host := RX5) (mc := r1.2.2.2.1 - M.2.2.1) (ms := r1.2.2.2.2 - M.2.2.2) hfix hMet ⟨⟨⟨rfl, rfl, hroom.1, hroom.2, hpay, List.mem_singleton.mpr rfl⟩, hts _ o5, hini, hnm, o6, va_Nw.use rfl hnl9⟩, k2, hts _ k1⟩
        ⟨xPc_blind _ _ _ _ _, fun U hU hW => xPc_of _ hE.1 hR hz hU hW⟩ (g := F0 m pc ls st) rfl hnl hL.2.1 (by show st = _; rw [List.reverse_reverse, ← hdrop]; exact htd) (lv_room d3) hdg hf) T hT X
      exact fin T hT X v v0 st₀ t T' L9 h0 X' hL9 e1 hv0 hq stp
    · cases hcg
  rw [if_neg q4] at hck
  by_cases q5 : op = 335
  · subst q5
    rw [if_pos rfl] at hck
    simp only [Bool.and_eq_true, decide_eq_true_eq] at hck
    obtain ⟨⟨⟨hdg, hlw⟩, hk0⟩, hh0⟩ := hck
    rw [if_pos (by decide)] at hcg
    cases hcg
    have hwd : xword me' = .codeWith (xmY me') (xmB me') (xmL me') (xmR me') (xmH me') := by unfold xword; rw [if_neg hh0]
    rw [hwd] at hpay hvMet o5
    intro T hT X
    have hz : M.2.1 ≠ 0 → H.size = M.2.1 := fun h0 => xSize hZs hR h0 hT X
    rcases (vx_runSX (As := (st.take (xmN me')).reverse) (rest := st.drop (xmN me')) (n := xmN me') (mc := r1.2.2.2.1 - M.2.2.1) (ms := r1.2.2.2.2 - M.2.2.2) hfix hvMet ⟨⟨rfl, rfl, hroom.1, hroom.2, hpay, List.mem_singleton.mpr rfl⟩, hts _ o5, hini, hnm, o6, hts _ (xw_ok hlw), hts _ (o7 hk0)⟩
      ⟨xPc_blind _ _ _ _ _, fun U hU hW => xPc_of _ hE.1 hR hz hU hW⟩ (g := F0 m pc ls st) rfl hnl hL.2.1 (by show st = _; rw [List.reverse_reverse]; exact htd) (lv_room d3) hdg hf) T hT X with ⟨v, st₀, t, T', L9, h0, X', hL9, e1, e2, hq, stp⟩ | ⟨q9, st₀, t, T', L9, E, ce, h0, X', hL9, e1, e2, hq, hce, hcv, hcl, stp⟩
    · obtain ⟨v0, hv0, hq⟩ := hq
      exact fin T hT X v v0 st₀ t T' L9 h0 X' hL9 e1 hv0 hq stp
    · obtain ⟨a9, ha9, rfl, hq⟩ := hq
      rw [hv0] at ha9
      cases ha9
  rw [if_neg q5] at hck
  cases hck
