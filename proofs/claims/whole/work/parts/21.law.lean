/-! THE CLAIM OUT OF ONE WALK OF THE LAW'S BODY. Your part is whole_start (and what it stands on); all else here is the same for every law, but numbers. -/
def R_law : String := "RefundShaperLaw"
def lw_P (b : Addr) (xs : List Int32) (args : Array Value) (s : State) : Prop := args = #[.ref b] ∧ s.IntsAt b xs ∧ xs.length ≤ 3072 ∧ (Jvm.Cond.and given_1 narrow_1).before args s = true
/-- what a walk over the start with the record d0 says of its end, said of the start itself -/
theorem lw_closed {s t : State} {o : Outcome} {d0 : Drawn} {L : List Loc} {k n : Nat} (hd0 : s.drawn.sameBut d0 lw_cs) (hv : ∃ v, o = .returned v) (hW : (s.setDrawn d0).WarmedH t.vm) (hs : (s.setDrawn d0).sameButNew ({ t with vm := s.vm } : State) L k n) : State.butDraws s t lw_cs (fun t1 => Framed s o t1 L k n) := by
  have h2 : t.drawn = d0 := congrArg State.drawn hs.1
  refine ⟨⟨hv, hW, State.sameButNew.setDrawn hs s.drawn⟩, ?_, by decide⟩
  rw [h2]
  exact hd0
def lw_Q (_ : Array Value) (s : State) (o : Outcome) (t : State) : Prop := o = .returned (some (.int 1)) ∧ State.butDraws s t lw_cs (fun t1 => Framed s o t1 [] 601024 7293034)
def lw_Z (below : List Frame) (a : Array Value) (s : State) : State → Prop := fun t => ∃ o, t.status = .running ∧ Ended t below o ∧ lw_Q a s o t
/-- the law's own end, with 1 on the stack, nothing written that was there before, its room as the claim has it; d0: the record of draws at this point (at the entry s.drawn: begin with 'refine W.base ?_' and 'have hd0 := Drawn.sameBut.refl s.drawn lw_cs') -/
theorem lw_ret {p : Program} {l : Launch} {e : Env} {s : State} {m : MethodId} {below : List Frame} {meth : Method} {c : Code} {b : Nat} {d0 : Drawn} (hd0 : s.drawn.sameBut d0 lw_cs) (hx : p.tables.exec = Jvm.exec) (hb : c.code = code) (hr : meth.sig.returnType = ret) (hlocks : meth.locks = false) {pc : Nat} {H : Heap} {ls : Array Slot} (hdg : decode code pc = .ok (.ireturn, 1)) : W p l e room_1 (s.setDrawn d0) m #[Value.ref b] below meth c H [] 601024 7293034 (lw_Z below #[Value.ref b] s) (F0 m pc ls [.int 1]) := by
  intro T hT X
  obtain ⟨fs, hret, hrun, hended, hW, hframe⟩ := X.leave (v := some (.int 1)) (hlocks := hlocks) (fun h => by rw [hr] at h; cases h)
  have hmeth' : T.vm.method? m = some meth := X.method'
  refine ⟨T.setFrames fs, ?_, .returned (some (.int 1)), hrun, hended, rfl, lw_closed hd0 ⟨_, rfl⟩ hW hframe⟩
  jvm_step X.here [X.here.top, hx, hb, hdg, hmeth', hr, ret, narrow_b1]
  (try refine ⟨rfl, ?_⟩); (try refine ⟨rfl, ?_⟩)
  first | (intro acts; rw [hret _ acts rfl rfl rfl]) | rw [hret _ _ rfl rfl rfl]
  exact Steps.refl _
/-- what holds at the law's entry: the machine, the code, the tables' words (any of lw_tbl by 'hts w (by decide +kernel)'), the script of L ints xs at the cell b, what the Statement gives of the start (any of its parts by flat_of_before) -/
def lw_At (p : Program) (s : State) (m : MethodId) (meth : Method) (c : Code) (b L : Nat) (xs : Nat → Int32) : Prop :=
  p.tables.exec = Jvm.exec ∧ c.code = code ∧ meth.sig.returnType = ret ∧ c.maxLocals = 10 ∧ s.vm.findClass R_law = some m.cls ∧ (∀ w ∈ lw_tbl, w.before #[Value.ref b] s = true) ∧ va_X b L xs s s.heap ∧ b < s.heap.size ∧ meth.locks = false ∧ (Jvm.Cond.and given_1 narrow_1).before #[Value.ref b] s = true
theorem law_cls {s : State} {A : Array Value} (hts : ∀ w ∈ lw_tbl, w.before A s = true) : ∃ D : va_G, ∀ (c : Nat) (q : vw_C), vwCl[c]? = some q → u_Kn s q.1 q.2.1 q.2.2 (D.1 c) (D.2 c) := by
  obtain ⟨c0, i0, k0⟩ := u_known (C := RX0) (T := TX0) (N := 5) (n := 5) hts (by decide +kernel) (hts (.instantiable RX0 5) (by decide +kernel))
  obtain ⟨c1, i1, k1⟩ := u_known (C := RX1) (T := TX1) (N := 14) (n := 14) hts (by decide +kernel) (hts (.instantiable RX1 14) (by decide +kernel))
  obtain ⟨c2, i2, k2⟩ := u_known (C := RX2) (T := TX2) (N := 14) (n := 14) hts (by decide +kernel) (hts (.instantiable RX2 14) (by decide +kernel))
  obtain ⟨c3, i3, k3⟩ := u_known (C := RX3) (T := TX3) (N := 2) (n := 2) hts (by decide +kernel) (hts (.instantiable RX3 2) (by decide +kernel))
  obtain ⟨c4, i4, k4⟩ := u_known (C := RX4) (T := TX4) (N := 10) (n := 10) hts (by decide +kernel) (hts (.instantiable RX4 10) (by decide +kernel))
  obtain ⟨c5, i5, k5⟩ := u_known (C := RX5) (T := TX5) (N := 9) (n := 9) hts (by decide +kernel) (hts (.instantiable RX5 9) (by decide +kernel))
  obtain ⟨c6, i6, k6⟩ := u_known (C := RX6) (T := TX6) (N := 29) (n := 29) hts (by decide +kernel) (hts (.instantiable RX6 29) (by decide +kernel))
  refine ⟨(fun c => match c with
    | 0 => c0
    | 1 => c1
    | 2 => c2
    | 3 => c3
    | 4 => c4
    | 5 => c5
    | _ => c6, fun c => match c with
    | 0 => i0
    | 1 => i1
    | 2 => i2
    | 3 => i3
    | 4 => i4
    | 5 => i5
    | _ => i6), fun c q h => ?_⟩
  match c, h with
  | 0, h => cases h; exact k0
  | 1, h => cases h; exact k1
  | 2, h => cases h; exact k2
  | 3, h => cases h; exact k3
  | 4, h => cases h; exact k4
  | 5, h => cases h; exact k5
  | 6, h => cases h; exact k6
  | n + 7, h => cases h
theorem law_arr {s : State} {A : Array Value} {ty : FieldType} (hw : (Cond.arrayClass ty).before A s = true) (hno : ∀ C, ty ≠ .object C) : ∃ cA : ClassId, ArrOfT s cA ty ∧ va_RA s cA ty := by
  obtain ⟨c, k, comp, h1, h2, h3⟩ := Cond.arrayClass_spec hw
  refine ⟨c, fun n z => ⟨fun k h => (by cases h), k, h2, comp, h3⟩, ?_⟩
  unfold va_RA
  split
  · exact absurd rfl (hno _)
  · exact h1
theorem law_aro {s : State} {C : String} (hw : va_AO C s) : ∃ cA : ClassId, ArrOfT s cA (.object C) ∧ va_RA s cA (.object C) := by
  obtain ⟨comp, c, k, h1, h2, h3, h4, h5⟩ := Cond.arrayOver_spec hw
  exact ⟨c, fun n z => ⟨fun k h => (by cases h), k, h3, comp, h4⟩, k, comp, h3, h4, h1, h5⟩
theorem law_tys {s : State} {A : Array Value} (hts : ∀ w ∈ lw_tbl, w.before A s = true) : xOver s ∧ ∃ dA : Nat → ClassId, ∀ (k : Nat) (q : ClassId × FieldType), (xtys dA)[k]? = some q → ArrOfT s q.1 q.2 ∧ va_RA s q.1 q.2 := by
  have o0 : va_AO RX0 s := va_AO.of (hts _ (by decide +kernel))
  have o1 : va_AO RX1 s := va_AO.of (hts _ (by decide +kernel))
  have o2 : va_AO RX2 s := va_AO.of (hts _ (by decide +kernel))
  refine ⟨⟨o0, o2, o1⟩, ?_⟩
  obtain ⟨d0, k0⟩ := law_arr (hts (.arrayClass .int) (by decide +kernel)) (fun _ h => by cases h)
  obtain ⟨d1, k1⟩ := law_arr (hts (.arrayClass .long) (by decide +kernel)) (fun _ h => by cases h)
  obtain ⟨d2, k2⟩ := law_arr (hts (.arrayClass .byte) (by decide +kernel)) (fun _ h => by cases h)
  obtain ⟨d3, k3⟩ := law_arr (hts (.arrayClass .boolean) (by decide +kernel)) (fun _ h => by cases h)
  obtain ⟨d4, k4⟩ := law_arr (hts (.arrayClass .double) (by decide +kernel)) (fun _ h => by cases h)
  obtain ⟨d5, k5⟩ := law_aro o0
  obtain ⟨d6, k6⟩ := law_aro o2
  obtain ⟨d7, k7⟩ := law_aro o1
  refine ⟨fun c => match c with
    | 0 => d0
    | 1 => d1
    | 2 => d2
    | 3 => d3
    | 4 => d4
    | 5 => d5
    | 6 => d6
    | _ => d7, fun k q h => ?_⟩
  match k, h with
  | 0, h => cases h; exact k0
  | 1, h => cases h; exact k1
  | 2, h => cases h; exact k2
  | 3, h => cases h; exact k3
  | 4, h => cases h; exact k4
  | 5, h => cases h; exact k5
  | 6, h => cases h; exact k6
  | 7, h => cases h; exact k7
  | n + 8, h => cases h

def xtm (i : Nat) : Term := .string (xstr.getD i ("", 0, "")).1 (xstr.getD i ("", 0, "")).2.1
def lw_fl : List Cond := flatC (Jvm.Cond.and given_1 narrow_1)
theorem lw_f1 : ∀ i, i < 25 → (Cond.exactly (xtm i) "java/lang/String") ∈ lw_fl := by decide +kernel
theorem lw_f2 : ∀ i, i < 8 → (Cond.eq (.field (xtm i) "java/lang/String" "coder" "B") (.int 0)) ∈ lw_fl := by decide +kernel
theorem lw_f3 : ∀ i, i < 8 → (Cond.arrayOf (.field (xtm i) "java/lang/String" "value" "[B") .byte) ∈ lw_fl := by decide +kernel
theorem lw_f4 : ∀ i, i < 8 → (Cond.eq (.length (.field (xtm i) "java/lang/String" "value" "[B")) (.int (Int32.ofNat (xlen.getD i 0)))) ∈ lw_fl := by decide +kernel
theorem lw_f5 : ∀ i, i < 8 → ∀ j, j < xlen.getD i 0 → (Cond.eq (.elem (.field (xtm i) "java/lang/String" "value" "[B") (.int (Int32.ofNat j))) (.int ((xbyt.getD i []).getD j 0))) ∈ lw_fl := by decide +kernel
theorem lw_f6_0 : ∀ j, j < 8 → 0 ≠ j → ((Cond.not (Cond.eq (xtm 0) (xtm j))) ∈ lw_fl ∨ (Cond.not (Cond.eq (xtm j) (xtm 0))) ∈ lw_fl) := by decide +kernel
theorem lw_f6_1 : ∀ j, j < 8 → 1 ≠ j → ((Cond.not (Cond.eq (xtm 1) (xtm j))) ∈ lw_fl ∨ (Cond.not (Cond.eq (xtm j) (xtm 1))) ∈ lw_fl) := by decide +kernel
theorem lw_f6_2 : ∀ j, j < 8 → 2 ≠ j → ((Cond.not (Cond.eq (xtm 2) (xtm j))) ∈ lw_fl ∨ (Cond.not (Cond.eq (xtm j) (xtm 2))) ∈ lw_fl) := by decide +kernel
theorem lw_f6_3 : ∀ j, j < 8 → 3 ≠ j → ((Cond.not (Cond.eq (xtm 3) (xtm j))) ∈ lw_fl ∨ (Cond.not (Cond.eq (xtm j) (xtm 3))) ∈ lw_fl) := by decide +kernel
theorem lw_f6_4 : ∀ j, j < 8 → 4 ≠ j → ((Cond.not (Cond.eq (xtm 4) (xtm j))) ∈ lw_fl ∨ (Cond.not (Cond.eq (xtm j) (xtm 4))) ∈ lw_fl) := by decide +kernel
theorem lw_f6_5 : ∀ j, j < 8 → 5 ≠ j → ((Cond.not (Cond.eq (xtm 5) (xtm j))) ∈ lw_fl ∨ (Cond.not (Cond.eq (xtm j) (xtm 5))) ∈ lw_fl) := by decide +kernel
theorem lw_f6_6 : ∀ j, j < 8 → 6 ≠ j → ((Cond.not (Cond.eq (xtm 6) (xtm j))) ∈ lw_fl ∨ (Cond.not (Cond.eq (xtm j) (xtm 6))) ∈ lw_fl) := by decide +kernel
theorem lw_f6_7 : ∀ j, j < 8 → 7 ≠ j → ((Cond.not (Cond.eq (xtm 7) (xtm j))) ∈ lw_fl ∨ (Cond.not (Cond.eq (xtm j) (xtm 7))) ∈ lw_fl) := by decide +kernel
theorem lw_f6 : ∀ i, i < 8 → ∀ j, j < 8 → i ≠ j → ((Cond.not (Cond.eq (xtm i) (xtm j))) ∈ lw_fl ∨ (Cond.not (Cond.eq (xtm j) (xtm i))) ∈ lw_fl)
  | 0, _ => lw_f6_0
  | 1, _ => lw_f6_1
  | 2, _ => lw_f6_2
  | 3, _ => lw_f6_3
  | 4, _ => lw_f6_4
  | 5, _ => lw_f6_5
  | 6, _ => lw_f6_6
  | 7, _ => lw_f6_7
  | n + 8, h => absurd h (by omega)
theorem lw_f7 : ∀ i, i < 8 → (Cond.eq (xtm i) (xtm (8 + i))) ∈ lw_fl := by decide +kernel
theorem lw_f8 : ∀ i, i < 4 → ∀ j, j < 4 → i ≠ j → (Cond.not (Cond.castable (xexn i) (xexn j))) ∈ lw_fl := by decide +kernel
theorem lw_f9 : Cond.eq (.static "java/lang/String" "COMPACT_STRINGS" "Z") (.int 1) ∈ lw_fl ∧ Cond.isRef (.static "jdk/internal/util/Preconditions" "SIOOBE_FORMATTER" "Ljava/util/function/BiFunction;") ∈ lw_fl ∧ Cond.isRef (.static Bundle.tN "UNASSIGNED_STACK" Bundle.steD) ∈ lw_fl ∧ Cond.isRef (.static Bundle.tN "SUPPRESSED_SENTINEL" Bundle.listD) ∈ lw_fl := ⟨by decide +kernel, by decide +kernel, by decide +kernel, by decide +kernel⟩
theorem lw_g1 : ∀ q ∈ xstr, Cond.stringRef q.1 q.2.1 q.2.2 ∈ lw_tbl := by decide +kernel
theorem lw_g2 : ∀ q ∈ xNest, Cond.methodLinkNest q.1 q.2.1 q.2.2.1 q.2.2.2 ∈ lw_tbl := by decide +kernel
theorem lw_g3 : ∀ i, i < 8 → xlen.getD i 0 < 2 ^ 31 := by decide +kernel
def xadr (s : State) (A : Array Value) (i : Nat) : Nat := match (xtm i).eval A s none [] s with
  | some (.ref a) => a
  | _ => 0
theorem xadr_of {s : State} {A : Array Value} {i a : Nat} (h : (xtm i).eval A s none [] s = some (.ref a)) : xadr s A i = a := by
  unfold xadr
  rw [h]
def xtxt (ad : Nat → Nat) (r : Nat) : Option Nat := (List.range 8).find? (fun k => ad k == r)
theorem law_env {p : Program} {s : State} {m : MethodId} {meth : Method} {c : Code} {b L : Nat} {xs : Nat → Int32} (C0 : lw_At p s m meth c b L xs) :
    ∃ (D : va_G) (dA : Nat → ClassId) (sx : xSx), xEnv s s D dA sx ∧ sx.2.2 = (b, L, xs) ∧ (∀ k, k < 8 → sx.2.1 (sx.1 k) = some k ∧ sx.1 (8 + k) = sx.1 k) := by
  obtain ⟨hx, hb, hr, hml, hown, hts, hX, hbl, hlk, hgv⟩ := C0
  have hfl : ∀ w ∈ lw_fl, w.before #[Value.ref b] s = true := flat_of_before _ hgv
  obtain ⟨D, hD⟩ := law_cls hts
  obtain ⟨hov, dA, hdA⟩ := law_tys hts
  have hA : ∀ a : Nat, a < s.heap.size → ¬ xA s a := fun a h => Nat.not_le.mpr h
  obtain ⟨adK, adV, hV, hVe⟩ := vk_Sof (N := 8) (tm := xtm) (len := xlen) (byt := xbyt) (A := xA s) lw_g3 (fun i hi => hfl _ (lw_f1 i (by omega))) (fun i hi => hfl _ (lw_f2 i hi)) (fun i hi => hfl _ (lw_f3 i hi)) (fun i hi => hfl _ (lw_f4 i hi)) (fun i hi j hj => hfl _ (lw_f5 i hi j hj))
    (fun i j hi hj hij => (lw_f6 i hi j hj hij).imp (hfl _) (hfl _)) hA
  have hev : ∀ i, i < 25 → (xtm i).eval #[Value.ref b] s none [] s = some (.ref (xadr s #[Value.ref b] i)) := fun i hi => by
    obtain ⟨a, c9, cell, k, q1, -⟩ := Cond.exactly_spec (args := #[Value.ref b]) (first := s) (o := none) (s := s) (idx := []) (hfl _ (lw_f1 i hi))
    rw [xadr_of q1]
    exact q1
  have hadK : ∀ i, i < 8 → adK i = xadr s #[Value.ref b] i := fun i hi => (xadr_of (hVe i hi)).symm
  have hV2 : vk_S 8 xlen xbyt (xadr s #[Value.ref b]) adV (xA s) s s.heap := by
    refine ⟨fun i hi => ?_, fun i j hi hj h => ?_⟩
    · have h9 := hV.1 i hi
      rw [hadK i hi] at h9
      exact h9
    · rw [← hadK i hi, ← hadK j hj] at h
      exact hV.2 i j hi hj h
  have hany : ∀ (A : Array Value) (w : Cond), w ∈ xLT → w.before A s = true := fun A w hw => word_at (State.WarmedH.refl s) (good_of_word (List.mem_filter.mp hw).2) (hts _ (List.mem_filter.mp hw).1)
  refine ⟨D, dA, (xadr s #[Value.ref b], xtxt (xadr s #[Value.ref b]), b, L, xs), ⟨⟨State.WarmedH.refl s, Nat.le_refl _, fun _ _ => rfl⟩, hany, ⟨hD, hdA⟩, hov, fun A w hw => ?_, fun q hq => va_Nw.of rfl (hts _ (lw_g2 q hq)), fun k q hk => ?_, ⟨adV, hV2⟩, fun r k hk => ?_, ?_, ?_, ?_, fun i j hi hj hij => va_Nc.of (hfl _ (lw_f8 i hi j hj hij)), ?_, hX, hbl⟩, rfl, fun k hk => ⟨?_, ?_⟩⟩
  · have h15 := xthw_ok w hw
    simp only [Bool.and_eq_true] at h15
    exact va_tabs h15.1 rfl (hts _ (xthw_in w hw))
  · have hk25 : k < 25 := by
      have := (List.getElem?_eq_some_iff.mp hk).1
      exact this
    have h9 := hev k hk25
    have h8 : xstr.getD k ("", 0, "") = q := by rw [List.getD_eq_getElem?_getD, hk]; rfl
    unfold xtm at h9
    rw [h8] at h9
    exact vk_R.of (hts _ (lw_g1 q (List.mem_of_getElem? hk))) h9
  · unfold xtxt at hk
    have h1 := List.find?_some hk
    have h2 := List.mem_of_find?_eq_some hk
    exact ⟨List.mem_range.mp h2, (beq_iff_eq.mp h1).symm⟩
  · exact va_Zof (hts _ (by decide +kernel)) (hts _ (by decide +kernel)) (va_eqt (hfl _ lw_f9.1)) hA
  · exact vx_Zqof (hts _ (by decide +kernel)) (hts _ (by decide +kernel)) (hfl _ lw_f9.2.2.1) hA
  · exact vx_Zqof (hts _ (by decide +kernel)) (hts _ (by decide +kernel)) (hfl _ lw_f9.2.2.2) hA
  · exact va_Zqof (hts _ (by decide +kernel)) (hts _ (by decide +kernel)) (hfl _ lw_f9.2.1) hA
  · show xtxt _ _ = _
    unfold xtxt
    rw [List.find?_eq_some_iff_getElem]
    refine ⟨by simp, k, by simpa using hk, by simp, fun j hj => ?_⟩
    simp only [List.getElem_range, Bool.not_eq_true', beq_eq_false_iff_ne, ne_eq]
    intro h
    exact absurd (hV2.2 j k (by omega) hk h) (by omega)
  · have h1 := Cond.eq_refs (hfl _ (lw_f7 k hk)) (hev (8 + k) (by omega)) rfl
    rw [hev k (by omega)] at h1
    exact (Value.ref.inj (Option.some.inj h1)).symm
/-- what is left, of the interpreter alone: the law's run comes to 1, within the room -/
def lawRun : Prop := ∀ (sx : xSx) (s0 : Nat), s0 ≠ 0 → (∀ k, k < 8 → sx.2.1 (sx.1 k) = some k ∧ sx.1 (8 + k) = sx.1 k) → sx.2.2.1 < s0 → sx.2.2.2.1 ≤ 3072 →
  ∃ M' : xM, X xtab sx 239 0 (xentry 10 [.ref sx.2.2.1]) [] (fun _ => none, s0, 0, 0) = some (.inl (some (.int 1)), M') ∧ M'.2.2.1 ≤ 601024 ∧ M'.2.2.2 ≤ 7293034
theorem whole_of (hB : lawRun) {p : Program} {e : Env} {s : State} {m : MethodId} {below : List Frame} {meth : Method} {c : Code} (l : Launch) (hflags : l.flags = flags0) {b L : Nat} {xs : Nat → Int32} (hL : L ≤ 3072) (C0 : lw_At p s m meth c b L xs) (hname : meth.name = (xmY xm_239).name) (hexc : c.exceptionTable.toList = []) : W p l e room_1 s m #[Value.ref b] below meth c s.heap [] 0 0 (lw_Z below #[Value.ref b] s) (entryFrame m ([Value.ref b] : List Value).toArray 10) := by
  obtain ⟨D, dA, sx, hE, hsx, hstr⟩ := law_env C0
  obtain ⟨hx, hb, hr, hml, hown, hts, hX, hbl, hlk, hgv⟩ := C0
  have hb1 : sx.2.2.1 = b := by rw [hsx]
  have hL1 : sx.2.2.2.1 = L := by rw [hsx]
  have hst : l.stackTraces = false := by unfold Launch.stackTraces; rw [hflags]; decide
  obtain ⟨M', hrun, hcM, hsM⟩ := hB sx s.heap.size (by omega) hstr (by rw [hb1]; exact hbl) (by rw [hL1]; exact hL)
  rw [hb1] at hrun
  obtain ⟨n, hn⟩ := X_iff.mp hrun
  have hrun2 := xrun_of2 (nd := xndl) xnd_ok n 239 room_1.frames room_1.locals 0 (xentry 10 [.ref b]) [] _ _ (11, 272) rfl (by decide) (by decide) hn
  have F : xFix s D dA sx p l s m meth c xm_239 := ⟨hx, hb, hml, hown, hname, hlk, hexc, hst, hE, hE⟩
  have hR : xRel s D dA s (fun _ => none) s.heap.size s.heap [] 0 := ⟨⟨[], fun k q h => by simp at h, ⟨fun i j q q' h => by simp at h, fun i q h => by simp at h⟩, fun r c h => by cases h⟩, va_S.rf, fun _ => ⟨rfl, Or.inl rfl⟩⟩
  rw [lg_entry_eq]
  refine xbody_all xc_all xo_all n 239 xm_239 s D dA p l e room_1 s m #[Value.ref b] below meth c s.heap [] 0 0 _ _ 0 (xentry 10 [.ref b]) [] (fun _ => none, s.heap.size, 0, 0) (.inl (some (.int 1)), M') _ _ rfl hrun2 F hR (xentry_loc [Value.ref b] (n := 10) (Nat.le_of_ble_eq_true rfl)) rfl rfl (by show 0 + (M'.2.2.1 - 0) ≤ 601024; omega) (by show 0 + (M'.2.2.2 - 0) ≤ 7293034; omega) ?_ ?_ ?_
  · intro H1 locs1 pc1 ls1 a st1 v hv hR1 h1 h2
    cases hv
    have hdec : decode code pc1 = .ok (.ireturn, 1) ∧ st1 = [Value.int 1] := by
      unfold xret1 at h1
      unfold xretv at h2
      split at h2
      · cases h2
      · rename_i w
        simp only [Bool.and_eq_true, decide_eq_true_eq] at h1
        exact absurd h1.2 (by decide)
      · rename_i w
        simp only [Bool.and_eq_true, decide_eq_true_eq] at h1
        split at h2
        · cases h2
          exact ⟨h1.1, rfl⟩
        · cases h2
      · cases h2
      · cases h2
      · cases h2
      · cases h2
    obtain ⟨hd, rfl⟩ := hdec
    refine W.base ?_
    intro T hT Y
    have Y1 : Stand p l e room_1 s m #[Value.ref b] below meth c T ([] ++ locs1) (0 + (M'.2.2.1 - 0)) (0 + (M'.2.2.2 - 0)) := Y
    exact lw_ret (d0 := s.drawn) (Drawn.sameBut.refl s.drawn lw_cs) hx hb hr hlk hd T hT ((Stand.forget Y1 (fun y hy => hR1.2.1.2.2 y hy)).mono (by omega) (by omega))
  · intro H1 locs1 cells1 slots1 pc1 ls1 a b i z st1 nx ha
    cases ha
  · intro H1 locs1 pc1 ls1 rest a q9 ce ha
    cases ha
