/-! THE ABSTRACT INTERPRETER, 9: throws, returns, and the induction. -/
theorem xpost_of {Z : State} {D : va_G} {dA : Nat → ClassId} {s t : State} {M : xM} {H : Heap} {locs : List Loc} {mc : Nat} (hZs : Z.heap.size ≤ s.heap.size) (hR : xRel Z D dA s M.1 M.2.1 H locs mc) (ht : t.heap = H) : xPost Z D dA M mc s t := by
  obtain ⟨⟨ws, hP, hD, hC⟩, hS, hN⟩ := hR
  exact ⟨⟨ws, by rw [ht]; exact hP, hD, hC⟩, by rw [ht]; exact hS.1, fun q hq => by rw [ht]; exact hS.2.1 q (Nat.lt_of_lt_of_le hq hZs) (Nat.not_le.mpr hq), hN⟩
theorem xpost_up {Z : State} {D : va_G} {dA : Nat → ClassId} {s t : State} {M : xM} {nx : Nat} {H : Heap} {locs : List Loc} {cells mc : Nat} (hZs : Z.heap.size ≤ s.heap.size) (hR : xRel Z D dA s M.1 nx H locs cells) (h0 : M.2.1 = 0) (hz : H.size ≤ t.heap.size) (hq : ∀ q : Nat, q < H.size → t.heap[q]? = H[q]?) : xPost Z D dA M mc s t := by
  obtain ⟨⟨ws, hP, hD, hC⟩, hS, hN⟩ := hR
  have hS1 := hS.1
  exact ⟨⟨ws, hP.kept (fun k q hk => hq q.1 ((hP k q hk).lt)), hD, hC⟩, Nat.le_trans hS.1 hz, fun q hq2 => by rw [hq q (by omega)]; exact hS.2.1 q (Nat.lt_of_lt_of_le hq2 hZs) (Nat.not_le.mpr hq2), fun hn => absurd h0 hn⟩
theorem xret_MQ {Z : State} {D : va_G} {dA : Nat → ClassId} {sx : xSx} {p : Program} {l : Launch} {e : Env} {R : Room} {s : State} {m : MethodId} {args : Array Value} {below : List Frame} {meth : Method} {c : Code} {me : xMe} {M' : xM} {mc S1 : Nat}
    (F : xFix Z D dA sx p l s m meth c me) (hret : meth.sig.returnType = xmR me) {v : Option Value} {H1 : Heap} {locs1 : List Loc} {pc1 : Nat} {ls1 : Array Slot} {a : Nat} {st1 : List Value} (hR1 : xRel Z D dA s M'.1 M'.2.1 H1 locs1 mc) (h1 : xret1 me pc1 a = true) (h2 : xretv a st1 = some v) :
    W p l e R s m args below meth c H1 locs1 mc S1 (MQ below (xQc Z D dA M' v mc) args s mc S1 (xA Z)) (F0 m pc1 ls1 st1) := by
  obtain ⟨hx, hb, hml, hown, hyn, hlk, htb, hst, hEZ, hE⟩ := id F
  have hZs : Z.heap.size ≤ s.heap.size := hE.1.2.1
  have hq : ∀ t : State, t.heap = H1 → s.WarmedH t.vm → xQc Z D dA M' v mc args s (.returned v) t := fun t ht _ => ⟨rfl, xpost_of hZs hR1 ht⟩
  have hf : ∀ q ∈ locs1, xA Z q.base := hR1.2.1.2.2
  unfold xret1 at h1
  unfold xretv at h2
  split at h2
  · cases h2
    simp only [Bool.and_eq_true, decide_eq_true_eq] at h1
    exact W.vret hx hb (hret.trans h1.2) hq hf h1.1 hlk
  · cases h2
    simp only [Bool.and_eq_true, decide_eq_true_eq] at h1
    exact W.iret hx hb (hret.trans h1.2) hq hf h1.1 hlk
  · split at h2
    · rename_i v2 hv2
      cases h2
      simp only [Bool.and_eq_true, decide_eq_true_eq] at h1
      exact W.zret (ty := .boolean) hx hb (hret.trans h1.2) (by rcases hv2 with rfl | rfl <;> decide) hq hf h1.1 hlk
    · cases h2
  · cases h2
    simp only [Bool.and_eq_true, decide_eq_true_eq] at h1
    exact W.lret hx hb (hret.trans h1.2) hq hf h1.1 hlk
  · cases h2
    simp only [Bool.and_eq_true, decide_eq_true_eq] at h1
    exact W.fret hx hb (hret.trans h1.2) hq hf h1.1 hlk
  · cases h2
    simp only [Bool.and_eq_true, decide_eq_true_eq] at h1
    exact W.dret hx hb (hret.trans h1.2) hq hf h1.1 hlk
  · cases h2
theorem xgood0 : ∀ w ∈ Cond.initialized (xexn 0) :: vx_atS RX5 (xexi 0) (xexn 0) xsup, vx_ot w = true := by decide +kernel
theorem xgood1 : ∀ w ∈ Cond.initialized (xexn 1) :: vx_atS RX5 (xexi 1) (xexn 1) xsup, vx_ot w = true := by decide +kernel
theorem xgood2 : ∀ w ∈ Cond.initialized (xexn 2) :: vx_atS RX5 (xexi 2) (xexn 2) xsup, vx_ot w = true := by decide +kernel
theorem xini0 : Cond.initialized (xexn 0) ∈ xLT := by decide +kernel
theorem xini1 : Cond.initialized (xexn 1) ∈ xLT := by decide +kernel
theorem xini2 : Cond.initialized (xexn 2) ∈ xLT := by decide +kernel
theorem xini3 : Cond.initialized (xexn 3) ∈ xLT := by decide +kernel
theorem xfit3 : Bundle.fit (xexn 0) = true ∧ Bundle.fit (xexn 1) = true ∧ Bundle.fit (xexn 2) = true ∧ ∀ n ∈ xsup, Bundle.fit n = true := ⟨by decide +kernel, by decide +kernel, by decide +kernel, by decide +kernel⟩
theorem xthw_mem {k : Nat} (hk : k < 3) : Bundle.fit (xexn k) = true ∧ Cond.initialized (xexn k) ∈ xLT ∧ (∀ w ∈ vx_atS RX5 (xexi k) (xexn k) xsup, w ∈ xthw) ∧ ∀ w ∈ Cond.initialized (xexn k) :: vx_atS RX5 (xexi k) (xexn k) xsup, vx_ot w = true := by
  match k, hk with
  | 0, _ => exact ⟨xfit3.1, xini0, fun w h => List.mem_append_left _ h, xgood0⟩
  | 1, _ => exact ⟨xfit3.2.1, xini1, fun w h => List.mem_append_right _ (List.mem_append_left _ h), xgood1⟩
  | 2, _ => exact ⟨xfit3.2.2.1, xini2, fun w h => List.mem_append_right _ (List.mem_append_right _ (List.mem_append_left _ h)), xgood2⟩
theorem xgood3 : ∀ w ∈ xnsA.filter vx_no, vx_ot w = true := by decide +kernel
set_option maxHeartbeats 4000000 in
/-- NoSuchElementException's constructor calls RuntimeException's by another entry than the kit's law takes -/
theorem xthrow3 {Z : State} {D : va_G} {dA : Nat → ClassId} {sx : xSx} {p : Program} {l : Launch} {e : Env} {R : Room} {s : State} {m : MethodId} {args : Array Value} {below : List Frame} {meth : Method} {c : Code} {me : xMe} {Qc : Array Value → State → Outcome → State → Prop} {XC : String → State → State → Prop} {mc ms : Nat} {H : Heap} {locs : List Loc} {cells slots pc b i : Nat} {z : Int} {ls : Array Slot} {st : List Value} {nx : Nat} {h : xH}
    (F : xFix Z D dA sx p l s m meth c me) (hR : xRel Z D dA s h nx H locs cells) (hc : cells + 1 = mc) (hs : slots + 6 = ms) (hcR : mc ≤ R.cells) (hsR : ms ≤ R.slots) (hsz : ls.size = xmL me) (hfr : 6 ≤ R.frames) (hlo : 128 ≤ R.locals) (hsum : xsum st ≤ 16) (hck : xthr1 me pc 3 b i z = true)
    (hx : ∀ t : State, s.vm.Alike t.vm → H.size ≤ t.heap.size → (∀ q : Nat, q < H.size → t.heap[q]? = H[q]?) → XC (xexn 3) s t) : W p l e R s m args below meth c H locs cells slots (vx_MQ below Qc XC args s mc ms (xA Z)) (F0 m pc ls st) := by
  obtain ⟨hex, hb, hml, hown, hyn, hlk, htb, hst, hEZ, hE⟩ := id F
  have hts : ∀ w ∈ xLT, w.before args s = true := fun w hw => hE.2.1 args w hw
  unfold xthr1 at hck
  split at hck
  · cases hck
  rename_i q hq
  simp only [Bool.and_eq_true, Bool.or_eq_true, decide_eq_true_eq] at hck
  obtain ⟨⟨⟨⟨⟨⟨⟨-, ho⟩, hq1⟩, hh0⟩, hlw⟩, e0⟩, e3⟩, hrest⟩ := hck
  have hown5 : s.vm.findClass RX5 = some m.cls := by rw [← ho]; exact hown
  have hstr : vk_R RX5 q.2.1 q.2.2 (sx.1 b) s := by
    have h9 := hE.2.2.2.2.2.2.1 b q hq
    rw [hq1] at h9
    exact h9
  have hat : ∀ w ∈ xnsA.filter vx_no, w.before args s = true := fun w hw => hE.2.2.2.2.1 args w (List.mem_append_right _ (List.mem_append_right _ (List.mem_append_right _ hw)))
  have hk : (Cond.classLink RX5 i xnse).before args s = true := hts _ (xw_ok hlw)
  have hini : (Cond.initialized xnse).before args s = true := hts _ xini3
  have hS := hR.2.1
  have hout : ∀ (pc9 : Nat), ∀ x ∈ c.exceptionTable.toList, covers x pc9 = false := fun pc9 x hx => by
    rw [htb, hh0] at hx
    exact nomatch hx
  have hsum2 : (st.map fun v => v.category).sum ≤ 16 := hsum
  have hs2 : ls.size = c.maxLocals := by rw [hml]; exact hsz
  intro T hT X
  have htr : e.platform.stackTraces = false := (show e.platform.stackTraces = l.stackTraces by rw [X.admits.platform]).trans hst
  have Y := vx_rebase X (R' := { frames := R.frames, locals := R.locals, cells := 1, slots := 6 }) (Nat.le_refl _) (Nat.le_refl _) (by show cells + 1 ≤ _; omega) (by show slots + 6 ≤ _; omega)
  obtain ⟨s', hA⟩ : ∃ z, z = (T.setVm s.vm).setFrames (.invoking m args :: below) := ⟨_, rfl⟩
  rw [← hA] at Y
  have hvm : s'.vm = s.vm := by rw [hA]; rfl
  have hhp : s'.heap = H := by rw [hA]; exact hT
  have hW0 : s.WarmedH s'.vm := by rw [hvm]; exact State.WarmedH.refl s
  have hat' : ∀ w ∈ xnsA.filter vx_no, w.before args s' = true := fun w hw => vx_ot_at hW0 hvm.symm (xgood3 w hw) (hat w hw)
  have hk' : (Cond.classLink RX5 i xnse).before args s' = true := vx_ot_at hW0 hvm.symm rfl hk
  have hini' : (Cond.initialized xnse).before args s' = true := vx_ot_at hW0 hvm.symm rfl hini
  have hU' : vx_Zq Bundle.tN "UNASSIGNED_STACK" Bundle.steD (xA Z) s' s'.heap := by rw [hhp]; exact vx_Zq.moved hW0.alike (hE.2.2.2.2.2.2.2.2.2.2.1.kept hS.2.1)
  have hN' : vx_Zq Bundle.tN "SUPPRESSED_SENTINEL" Bundle.listD (xA Z) s' s'.heap := by rw [hhp]; exact vx_Zq.moved hW0.alike (hE.2.2.2.2.2.2.2.2.2.2.2.1.kept hS.2.1)
  have h : ∀ w ∈ xnsA, w.before args s' = true := vx_own hat' (vx_isRefq hU'.1) (vx_isRefq hN'.1) hU'.2.word hN'.2.word
  have hown' : s'.vm.findClass RX5 = some m.cls := by rw [hvm]; exact hown5
  have hins : (Cond.instantiable xnse 6).before args s' = true := h _ (xnsL_mem _ (by simp [xnsL]))
  obtain ⟨vm₁, cX, kX, hfX, hkX, -, -, X₁, st1⟩ := Y.newCold hex (own := RX5) (C := xnse) (index := i) (n := 6) hown' hk' hins hini'
    (g := F0 m pc ls st) rfl (by rw [hb]; exact e0) (Nat.le_refl _) (Nat.le_refl _)
  generalize hT1 : (T.setVm vm₁).pushCell { cls := cX, slots := kX.instanceTypes.map defaultValue, vm := .none } = T1 at X₁ st1
  have hcat : (Value.ref T.heap.size).category = 1 := rfl
  have hcellA : T1.heap[T.heap.size]? = some (freshCell cX kX) := by rw [← hT1]; exact State.heap_pushCell_size _ _
  have d3' : decode c.code (pc + 3) = .ok (.dup, 1) := by rw [hb]; exact e3
  have hstr' : vk_R RX5 q.2.1 q.2.2 (sx.1 b) s' := vk_R.warm hW0 hstr
  have key : ∀ (pc2 : Nat), decode (xmB me) pc2 = .ok (.invokespecial 311, 3) → decode (xmB me) (pc2 + 3) = .ok (.athrow, 1) →
      (∀ U : State, Steps p.tables e below (T1.setTop { method := m, pc := pc2, locals := ls, stack := .ref (sx.1 b) :: .ref T.heap.size :: .ref T.heap.size :: st, locked := none }) U → Steps p.tables e below (T1.setTop { method := m, pc := pc + 4, locals := ls, stack := .ref T.heap.size :: .ref T.heap.size :: st, locked := none }) U) →
      ∃ t, Steps p.tables e below (T.setTop (F0 m pc ls st)) t ∧ vx_MQ below Qc XC args s mc ms (xA Z) t := by
    intro pc2 d6 d9 hld
    obtain ⟨U, hsteps, hrun, hend, hW, hsame, ce, hce, hcl9, hcv⟩ := xnse_ctor X₁ hex htr hown' h (fun x hx => nomatch hx) hfX hkX hcellA (by rw [hhp, hT]; exact Nat.le_refl _) (msg := .ref (sx.1 b)) rfl
      (g := { method := m, pc := pc2, locals := ls, stack := .ref (sx.1 b) :: .ref T.heap.size :: .ref T.heap.size :: st, locked := none }) rfl hs2 rfl rfl (rest := st) rfl
      (by rw [hb]; exact d6) (by rw [hb]; exact d9) (hout _) (by show 5 < R.frames; omega) (by simp only [List.map_cons, List.sum_cons, hcat]; show 2 * 0 + _ + 81 ≤ R.locals; omega) hlk
    obtain ⟨f1, f2⟩ := vx_frame hsame
    rw [hhp] at f1 f2
    have hWs : s.WarmedH U.vm := State.WarmedH.trans hW0 hW
    have hcl : s.vm.findClass xnse = some ce.cls := by
      rw [hvm] at hcl9
      exact hcl9
    have hall : s.sameButNew ({ U with vm := s.vm } : State) locs mc ms := by
      subst hA
      obtain ⟨q1, q2⟩ := hsame
      rw [State.setFrames_setFrames] at q1
      have h2 : (T.setVm s.vm).sameButNew ({ U with vm := s.vm } : State) [] (0 + 1) (0 + 6) := ⟨q1, q2⟩
      have h3 := X.same.trans h2
      rw [List.append_nil] at h3
      exact h3.mono (by omega) (by omega)
    refine ⟨U, ?_, .threw T.heap.size, hrun, hend, Or.inr ⟨T.heap.size, rfl, xnse, ce, locs, hx U hWs.alike f1 (fun q hq => f2 q hq (fun z hz => nomatch hz)), hce, hcv, hcl, hWs, hall, hS.2.2⟩⟩
    refine st1 _ ?_
    show Steps p.tables e below (T1.setTop { method := m, pc := pc + 3, locals := ls, stack := .ref T.heap.size :: st, locked := none }) _
    jvm_step X₁.here [X₁.here.top, hex, d3', Value.category]
    exact hld U hsteps
  rcases hrest with ⟨⟨e4, e6⟩, e9⟩ | ⟨⟨e4, e7⟩, e10⟩
  · exact key (pc + 6) e6 e9 (fun U hU => X₁.ldcString hex (own := RX5) (text := q.2.2) (index := q.2.1) (a := sx.1 b) hown' hstr'.1 hstr'.2
      (g := { method := m, pc := pc + 4, locals := ls, stack := .ref T.heap.size :: .ref T.heap.size :: st, locked := none }) rfl (by rw [hb]; exact e4) _ hU)
  · exact key (pc + 7) e7 e10 (fun U hU => X₁.ldcStringW hex (own := RX5) (text := q.2.2) (index := q.2.1) (a := sx.1 b) hown' hstr'.1 hstr'.2
      (g := { method := m, pc := pc + 4, locals := ls, stack := .ref T.heap.size :: .ref T.heap.size :: st, locked := none }) rfl (by rw [hb]; exact e4) _ hU)
set_option maxHeartbeats 4000000 in
theorem xthrow {Z : State} {D : va_G} {dA : Nat → ClassId} {sx : xSx} {p : Program} {l : Launch} {e : Env} {R : Room} {s : State} {m : MethodId} {args : Array Value} {below : List Frame} {meth : Method} {c : Code} {me : xMe} {Qc : Array Value → State → Outcome → State → Prop} {XC : String → State → State → Prop} {mc ms : Nat} {H : Heap} {locs : List Loc} {cells slots pc k b i : Nat} {z : Int} {ls : Array Slot} {st : List Value} {nx : Nat} {h : xH}
    (F : xFix Z D dA sx p l s m meth c me) (hR : xRel Z D dA s h nx H locs cells) (hc : cells + 1 = mc) (hs : slots + 6 = ms) (hcR : mc ≤ R.cells) (hsR : ms ≤ R.slots) (hsz : ls.size = xmL me) (hfr : 6 ≤ R.frames) (hlo : 128 ≤ R.locals) (hsum : xsum st ≤ 16) (hck : xthr1 me pc k b i z = true)
    (hx : ∀ t : State, s.vm.Alike t.vm → H.size ≤ t.heap.size → (∀ q : Nat, q < H.size → t.heap[q]? = H[q]?) → XC (xexn k) s t) : W p l e R s m args below meth c H locs cells slots (vx_MQ below Qc XC args s mc ms (xA Z)) (F0 m pc ls st) := by
  have hck0 := hck
  obtain ⟨hex, hb, hml, hown, hyn, hlk, htb, hst, hEZ, hE⟩ := id F
  have hts : ∀ w ∈ xLT, w.before args s = true := fun w hw => hE.2.1 args w hw
  unfold xthr1 at hck
  split at hck
  · cases hck
  rename_i q hq
  simp only [Bool.and_eq_true, Bool.or_eq_true, decide_eq_true_eq] at hck
  obtain ⟨⟨⟨⟨⟨⟨⟨k4, ho⟩, hq1⟩, hh0⟩, hlw⟩, e0⟩, e3⟩, hrest⟩ := hck
  by_cases hk3 : k < 3
  · obtain ⟨f1, f2, f3, f4⟩ := xthw_mem hk3
    have hown5 : s.vm.findClass RX5 = some m.cls := by rw [← ho]; exact hown
    have hstr : vk_R RX5 q.2.1 q.2.2 (sx.1 b) s := by
      have h9 := hE.2.2.2.2.2.2.1 b q hq
      rw [hq1] at h9
      exact h9
    have hat : ∀ w ∈ vx_atS RX5 (xexi k) (xexn k) xsup, w.before args s = true := fun w hw => hE.2.2.2.2.1 args w (f3 w hw)
    have hgood : ∀ w ∈ Cond.classLink RX5 i (xexn k) :: Cond.initialized (xexn k) :: vx_atS RX5 (xexi k) (xexn k) xsup, vx_ot w = true := fun w hw => (List.mem_cons.mp hw).elim (fun e => by rw [e]; rfl) (f4 w)
    have hout : ∀ (pc9 : Nat), ∀ x ∈ c.exceptionTable.toList, covers x pc9 = false := fun pc9 x hx => by
      rw [htb, hh0] at hx
      exact nomatch hx
    have hsum2 : (st.map fun v => v.category).sum ≤ 16 := hsum
    rcases hrest with ⟨⟨e4, e6⟩, e9⟩ | ⟨⟨e4, e7⟩, e10⟩
    · exact vx_throwS hex hb hst hown5 f1 xfit3.2.2.2 (hts _ (xw_ok hlw)) (hts _ f2) hstr hat hgood hE.2.2.2.2.2.2.2.2.2.2.1 hE.2.2.2.2.2.2.2.2.2.2.2.1 hR.2.1 (by rw [hml]; exact hsz) e0 e3 e4 e6 e9 (hout _) (show 2 + 3 < _ by omega) (by show _ + (13 * 3 + 43) ≤ _; omega) (by omega) (by omega) hlk hx hR.2.1.2.2 (by omega) (by omega)
    · exact vx_throwSW hex hb hst hown5 f1 xfit3.2.2.2 (hts _ (xw_ok hlw)) (hts _ f2) hstr hat hgood hE.2.2.2.2.2.2.2.2.2.2.1 hE.2.2.2.2.2.2.2.2.2.2.2.1 hR.2.1 (by rw [hml]; exact hsz) e0 e3 e4 e7 e10 (hout _) (show 2 + 3 < _ by omega) (by show _ + (13 * 3 + 43) ≤ _; omega) (by omega) (by omega) hlk hx hR.2.1.2.2 (by omega) (by omega)
  · have hk : k = 3 := by omega
    subst hk
    exact xthrow3 F hR hc hs hcR hsR hsz hfr hlo hsum hck0 hx
theorem xvx_ofWF {l : Launch} {y : MethodName} {ws ws' : List Cond} {rm : Room} {Pc : Array Value → State → Prop} {Qc : Array Value → State → Outcome → State → Prop} {XC : String → State → State → Prop} {mc ms : Nat} {free : Addr → Prop} {cc : ByteArray} {maxL : Nat} {ret : Option FieldType}
    (hy : plainFor y = true) (hw : ws = Cond.code y cc maxL ret :: ws')
    (body : ∀ p e s m args below meth c s₁, BodyLoose p l y (headSpec ws rm) cc maxL ret e s m args below meth c s₁ → c.maxLocals = maxL → (∀ x ∈ c.exceptionTable.toList, False) → Pc args s →
      W p l e (headSpec ws rm).room s m args below meth c s.heap [] 0 0 (vx_MQ below Qc XC args s mc ms free) (entryFrame m args maxL)) : vx_Met l y ws rm Pc Qc XC mc ms free := by
  refine MetFree.of_bodySF (code := cc) (maxLocals := maxL) (ret := ret) hy ?_ ?_
  · intro args s m h hn
    obtain ⟨meth, c, h1, h2, h3, h4, h5, h6, -, -⟩ := Cond.code_spec hn (atoms_spec (ws := ws) h _ (by rw [hw]; exact List.mem_cons_self))
    exact ⟨meth, c, h1, h2, h3, h4, h5, h6⟩
  · intro p e s m args below meth c s₁ B hml hP _
    have hh0 : s₁.heap = s.heap := by rw [B.state]; rfl
    have ht : ∀ x ∈ c.exceptionTable.toList, False := by
      obtain ⟨meth9, c9, h1, h2, -, -, -, -, h7, -⟩ := Cond.code_spec B.named (atoms_spec (ws := ws) B.pre _ (by rw [hw]; exact List.mem_cons_self))
      cases Option.some.inj (h1.symm.trans B.method)
      cases Option.some.inj (h2.symm.trans (Stand.of_body B).code)
      intro x hx
      rw [Array.isEmpty_iff.mp h7] at hx
      cases hx
    obtain ⟨t, a1, o, b1, b2, b3⟩ := body p e s m args below meth c s₁ B hml ht hP s₁ hh0 (Stand.of_body B)
    exact ⟨t, o, a1, b1, b2, b3⟩
set_option maxHeartbeats 4000000 in
theorem xcal_of {tab : List xMe} {sx : xSx} {lw n : Nat} (hbody : xBody tab sx n) (hmok : ∀ (y : Nat) (me : xMe), tab[y]? = some me → y < lw → ∃ a b c d, xmok me a b c d = true) : xCal tab sx lw n := by
  intro y me Z D dA l fl lf As M r hy hylw hst hEZ hlen hr
  obtain ⟨o1, o2, o3, o4, o5, o6, o7, o8, o9⟩ := xmok_ok (hmok y me hy hylw)
  have hle := xrun_le tab sx _ _ _ _ _ _ _ _ _ hr
  have hpl : plainFor (xmY me) = true := o2.1
  refine ⟨fun v hv hh => ?_, ?_⟩
  · have hwd : xword me = .code (xmY me) (xmB me) (xmL me) (xmR me) := by unfold xword; rw [if_pos hh]
    rw [hwd]
    refine va_MetF (cc := xmB me) (maxL := xmL me) (ret := xmR me) (ws' := []) hpl rfl ?_
    intro p e s m args below meth c s₁ B hml hv9
    obtain ⟨rfl, hSt, hR⟩ := hv9
    have hown : s.vm.findClass (xmO me) = some m.cls := by rw [← o1]; exact findClass_of_methodNamed B.named
    have htb : c.exceptionTable.toList = tableOf (xmH me) := by
      rw [hh]
      obtain ⟨meth9, c9, h1, h2, -, -, -, -, h7, -⟩ := Cond.code_spec B.named (atoms_spec (ws := [Cond.code (xmY me) (xmB me) (xmL me) (xmR me)]) B.pre _ List.mem_cons_self)
      cases Option.some.inj (h1.symm.trans B.method)
      cases Option.some.inj (h2.symm.trans (Stand.of_body B).code)
      rw [Array.isEmpty_iff.mp h7]
      rfl
    have F : xFix Z D dA sx p l s m meth c me := ⟨B.exec, B.bytes, hml, hown, (name_of_methodNamed B.named B.method).1, B.notSynchronized, htb, hst, hEZ, xEnv_mv hEZ hSt⟩
    rw [lg_entry_eq]
    refine hbody y me Z D dA p l e (xroom fl lf M r.2) s m As.toArray below meth c s.heap [] 0 0 _ _ 0 (xentry (xmL me) As) [] M r _ _ hy hr F hR (xentry_loc As hlen) (Nat.zero_add _) (Nat.zero_add _) (Nat.le_refl _) (Nat.le_refl _) ?_ ?_ ?_
    · intro H1 locs1 pc1 ls1 a st1 v1 hv1 hR1 h1 h2
      rw [hv] at hv1
      cases hv1
      exact xret_MQ F B.returns hR1 h1 h2
    · intro H1 locs1 cells1 slots1 pc1 ls1 a b i z st1 nx ha
      rw [hv] at ha
      cases ha
    · intro H1 locs1 pc1 ls1 rest a q9 ce ha
      rw [hv] at ha
      cases ha
  · have key : ∀ (p : Program) (e : Env) (s : State) (m : MethodId) (args : Array Value) (below : List Frame) (meth : Method) (c : Code) (s₁ : State), BodyLoose p l (xmY me) (headSpec [xword me] (xroom fl lf M r.2)) (xmB me) (xmL me) (xmR me) e s m args below meth c s₁ → c.maxLocals = xmL me → c.exceptionTable.toList = tableOf (xmH me) → xPc Z D dA M As args s →
        W p l e (headSpec [xword me] (xroom fl lf M r.2)).room s m args below meth c s.heap [] 0 0 (vx_MQ below (fun a st o t => ∃ v, r.1 = .inl v ∧ xQc Z D dA r.2 v (r.2.2.2.1 - M.2.2.1) a st o t) (fun E st t => ∃ a, r.1 = .inr a ∧ E = xexn a ∧ xPost Z D dA r.2 (r.2.2.2.1 - M.2.2.1) st t) args s (r.2.2.2.1 - M.2.2.1) (r.2.2.2.2 - M.2.2.2) (xA Z)) (entryFrame m args (xmL me)) := by
      intro p e s m args below meth c s₁ B hml htb hv9
      obtain ⟨rfl, hSt, hR⟩ := hv9
      have hown : s.vm.findClass (xmO me) = some m.cls := by rw [← o1]; exact findClass_of_methodNamed B.named
      have F : xFix Z D dA sx p l s m meth c me := ⟨B.exec, B.bytes, hml, hown, (name_of_methodNamed B.named B.method).1, B.notSynchronized, htb, hst, hEZ, xEnv_mv hEZ hSt⟩
      rw [lg_entry_eq]
      refine hbody y me Z D dA p l e (xroom fl lf M r.2) s m As.toArray below meth c s.heap [] 0 0 _ _ 0 (xentry (xmL me) As) [] M r _ _ hy hr F hR (xentry_loc As hlen) (Nat.zero_add _) (Nat.zero_add _) (Nat.le_refl _) (Nat.le_refl _) ?_ ?_ ?_
      · intro H1 locs1 pc1 ls1 a st1 v1 hv1 hR1 h1 h2
        refine vx_ret ?_
        intro T hT X
        obtain ⟨t, a1, o, b1, b2, b3, b4⟩ := xret_MQ (below := below) (S1 := r.2.2.2.2 - M.2.2.2) (ls1 := ls1) (e := e) F B.returns hR1 h1 h2 T hT X
        exact ⟨t, a1, o, b1, b2, ⟨v1, hv1, b3⟩, b4⟩
      · intro H1 locs1 cells1 slots1 pc1 ls1 a b i z st1 nx ha h0 hR1 hc1 hs1 hsz hfr hlo hsum hck
        exact xthrow F hR1 hc1 hs1 (Nat.le_refl _) (Nat.le_refl _) hsz hfr hlo hsum hck (fun t hal hz hq => ⟨a, ha, rfl, xpost_up (M := r.2) hSt.2.1 hR1 h0 hz hq⟩)
      · intro H1 locs1 pc1 ls1 rest a q9 ce ha hh hR1 hce hcv hcl
        exact vx_out (fun x hx => by rw [htb, hh] at hx; exact nomatch hx) B.notSynchronized hce hcv hcl (fun t ht hal => ⟨a, ha, rfl, xpost_of hSt.2.1 hR1 ht⟩) hR1.2.1.2.2 (Nat.le_refl _) (Nat.le_refl _)
    by_cases hh : xmH me = []
    · have hwd : xword me = .code (xmY me) (xmB me) (xmL me) (xmR me) := by unfold xword; rw [if_pos hh]
      rw [hwd] at key ⊢
      exact xvx_ofWF (cc := xmB me) (maxL := xmL me) (ret := xmR me) (ws' := []) hpl rfl (fun p e s m args below meth c s₁ B hml ht hP => key p e s m args below meth c s₁ B hml (by
        rw [hh]
        exact List.eq_nil_iff_forall_not_mem.mpr (fun x hx => ht x hx)) hP)
    · have hwd : xword me = .codeWith (xmY me) (xmB me) (xmL me) (xmR me) (xmH me) := by unfold xword; rw [if_neg hh]
      rw [hwd] at key ⊢
      exact vx_ofWH (cc := xmB me) (maxL := xmL me) (ret := xmR me) (hh := xmH me) (ws' := []) (by rw [o1]; exact o2.2.resolve_left hh) rfl (fun p e s m args below meth c s₁ B hml hP => key p e s m args below meth c s₁ B hml (vx_table (x := xmY me) B (atoms_spec (ws := [Cond.codeWith (xmY me) (xmB me) (xmL me) (xmR me) (xmH me)]) B.pre _ List.mem_cons_self)) hP)
theorem xbody_all {tab : List xMe} {sx : xSx} {lw : Nat} (hC : ∀ (y : Nat) (me : xMe), tab[y]? = some me → xcok tab lw me = true) (hmok : ∀ (y : Nat) (me : xMe), tab[y]? = some me → y < lw → ∃ a b c d, xmok me a b c d = true) : ∀ n, xBody tab sx n := by
  intro n
  induction n with
  | zero =>
    intro y me Z D dA p l e R s m args below meth c H locs cells slots Q ls pc L st M r C1 S1 hy hr
    cases hr
  | succ n ih =>
    refine xbody_ops (lw := lw) ih hC ?_
    intro y me Z D dA p l e R s m args below meth c H locs cells slots Q ls pc L st M r C1 S1 op a b i z hy hck h4 h5 h6 h7 h8 hr F hR hL hc1 hs1 hcR hsR HRet HThr HOut
    exact xbody_call ih (xcal_of ih hmok) hmok y me Z D dA p l e R s m args below meth c H locs cells slots Q ls pc L st M r C1 S1 op a b i z hy hck h4 h5 h6 h7 h8 hr F hR hL hc1 hs1 hcR hsR HRet HThr HOut
