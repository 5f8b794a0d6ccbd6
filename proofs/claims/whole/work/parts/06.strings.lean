/-! THE ABSTRACT INTERPRETER, 5: length() and charAt(k) of a String constant. -/
def xent (As : List Value) : xL := As.flatMap (fun v => if v.category = 2 then [some v, none] else [some v])
def xentry (maxL : Nat) (As : List Value) : xL := xent As ++ List.replicate (maxL - (xent As).length) none
theorem xent_lg (As : List Value) : (xent As).length = (lg_sl As).length ∧ ∀ (i : Nat) (v : Value), (xent As)[i]? = some (some v) → (lg_sl As)[i]? = some (.val v) := by
  induction As with
  | nil => exact ⟨rfl, fun i v h => by simp [xent] at h⟩
  | cons a r ih =>
    obtain ⟨ih1, ih2⟩ := ih
    unfold xent lg_sl at *
    simp only [List.flatMap_cons]
    by_cases hc : a.category = 2
    · simp only [hc, if_true]
      refine ⟨by simp [ih1], fun i v h => ?_⟩
      match i with
      | 0 => simpa using h
      | 1 => simp at h
      | j + 2 =>
        simp at h ⊢
        exact ih2 j v h
    · simp only [hc, if_false]
      refine ⟨by simp [ih1], fun i v h => ?_⟩
      match i with
      | 0 => simpa using h
      | j + 1 =>
        simp at h ⊢
        exact ih2 j v h
theorem xentry_loc (As : List Value) {n : Nat} (h : (xent As).length ≤ n) : xLoc ((lg_sl As ++ List.replicate (n - (lg_sl As).length) Slot.unset).toArray) n (xentry n As) := by
  obtain ⟨h1, h2⟩ := xent_lg As
  have hl := lv_entry As (n := n) (by rw [← h1]; exact h)
  refine ⟨by unfold xentry; simp; omega, hl.1, hl.2.1, fun i v hi => ?_⟩
  unfold xentry at hi
  by_cases hlt : i < (xent As).length
  · rw [List.getElem?_append_left hlt] at hi
    rw [List.getElem?_toArray, List.getElem?_append_left (by rw [← h1]; exact hlt)]
    exact h2 i v hi
  · rw [List.getElem?_append_right (by omega), List.getElem?_replicate] at hi
    split at hi <;> cases hi

theorem xEnv_tr {Z s U : State} {D : va_G} {dA : Nat → ClassId} {sx : xSx} (h : xEnv Z s D dA sx) (hW : s.WarmedH U.vm) (hz : Z.heap.size ≤ U.heap.size) (hk : ∀ q : Nat, q < Z.heap.size → U.heap[q]? = s.heap[q]?) : xEnv Z U D dA sx := by
  obtain ⟨h0, h1, h2, h3, h4, h5, h6, ⟨adV, h7⟩, h8, h9, h10, h11, h12, h17, h13, h14⟩ := h
  have hq : ∀ a : Nat, a < s.heap.size → ¬ xA Z a → U.heap[a]? = s.heap[a]? := fun a _ ha => hk a (Nat.not_le.mp ha)
  refine ⟨⟨h0.1.trans hW, hz, fun q hq2 => (hk q hq2).trans (h0.2.2 q hq2)⟩, fun A w hw => ?_, va_K.moved hW.alike h2, ⟨va_AO.moved hW.alike h3.1, va_AO.moved hW.alike h3.2.1, va_AO.moved hW.alike h3.2.2⟩, fun A w hw => ?_, fun q hm => va_Nw.warmM hW (h5 q hm), fun k q hk => vk_R.warm hW (h6 k q hk), ⟨adV, vk_S.moved hW.alike (h7.kept hq)⟩, h8, va_Z.moved hW.alike (h9.kept hq), vx_Zq.moved hW.alike (h10.kept hq), vx_Zq.moved hW.alike (h11.kept hq), fun i j hi hj hij => va_Nc.moved hW.alike (h12 i j hi hj hij), va_Zq.moved hW.alike (h17.kept hq), va_X.moved hW.alike (h13.kept (hk _ h14)), h14⟩
  · exact word_at hW (good_of_word (List.mem_filter.mp hw).2) (h1 #[] w hw)
  · have h15 := xthw_ok w hw
    simp only [Bool.and_eq_true] at h15
    have h16 : w.before #[] (s.setVm U.vm) = true := Cond.before_shiftedFace (State.Shifted.of_warmed hW) w h15.2 (h4 #[] w hw)
    exact va_tabs h15.1 (rfl : (s.setVm U.vm).vm = U.vm) h16
def sPc (Z s : State) (As : List Value) : Array Value → State → Prop := fun a U => a = As.toArray ∧ s.WarmedH U.vm ∧ Z.heap.size ≤ U.heap.size ∧ ∀ q : Nat, q < Z.heap.size → U.heap[q]? = s.heap[q]?
theorem sPc_blind (Z s : State) (As : List Value) : FrameBlind (sPc Z s As) := fun _ _ _ _ h => h
theorem sPc_of {Z s U : State} {D : va_G} {dA : Nat → ClassId} {sx : xSx} {H : Heap} {locs : List Loc} (As : List Value) (hE : xEnv Z s D dA sx) (hS : va_S (xA Z) s.heap H locs) (hU : U.heap = H) (hW : s.WarmedH U.vm) : sPc Z s As As.toArray U :=
  ⟨rfl, hW, by rw [hU]; exact Nat.le_trans hE.1.2.1 hS.1, fun q hq => by rw [hU]; exact hS.2.1 q (Nat.lt_of_lt_of_le hq hE.1.2.1) (Nat.not_le.mpr hq)⟩
def sQc (r : Option Value) : Array Value → State → Outcome → State → Prop := fun _ st o t => o = .returned r ∧ t.heap = st.heap
def srm (f n : Nat) : Room := { frames := f, cells := 0, slots := 0, locals := n }
section S
variable {p : Program} {l : Launch} {e : Env} {R : Room} {s : State} {m : MethodId} {args : Array Value} {below : List Frame} {meth : Method} {c : Code} {H : Heap} {locs : List Loc} {cells slots : Nat} {Q : State → Prop} {pc : Nat} {ls : Array Slot}
theorem sCall {r : Option Value} {st0 rest : List Value} {a : Array Value} (hr : CallRun p l e R s m args below meth c H locs cells slots 0 0 (F0 m pc ls st0) rest (sQc r a) (fun _ => False)) (kk : W p l e R s m args below meth c H locs cells slots Q (F0 m (pc + 3) ls (r.toList ++ rest))) : W p l e R s m args below meth c H locs cells slots Q (F0 m pc ls st0) := by
  intro T hT X
  obtain ⟨v, st₀, t, T', L, h0, X', hL, e1, ⟨hv, hh⟩, st⟩ := hr T hT X
  cases hv
  obtain ⟨t2, a1, b1⟩ := kk T' (by rw [e1, hh, h0]) (Stand.forget X' (fun q h => (hL q h).elim))
  exact ⟨t2, st t2 a1, b1⟩
theorem sCB {own : String} {index n maxL f nl : Nat} {y : MethodName} {cc : ByteArray} {ret : Option FieldType} (hts : ∀ w ∈ xLT, w.before args s = true) (hc : Cond.code y cc maxL ret ∈ xLT) (hi : Cond.initialized y.cls ∈ xLT) (hl : (Cond.methodLink own index y).before args s = true)
    (hd : (y.cls ≠ "java/lang/invoke/MethodHandle" ∧ y.cls ≠ "java/lang/invoke/VarHandle") ∧ (parseMethodDescriptor y.desc).map (fun d => d.parameters.length) = some n) (hf : f + 1 ≤ R.frames) (hn : 8 + (maxL + 11) + nl ≤ R.locals) :
    CallB R s args own index y cc maxL ret [Cond.code y cc maxL ret] (srm f nl) 0 0 n := by
  refine ⟨rfl, rfl, hf, hn, fun w hw a' U hW => ?_, List.mem_singleton.mpr rfl, hts _ hc, hts _ hi, hd.1, fun sig h => ?_, hl⟩
  · rw [List.mem_singleton.mp hw]
    exact word_at hW (good_of_word (List.mem_filter.mp hc).2) (hts _ hc)
  · have h2 := hd.2
    rw [h] at h2
    exact (Option.some.inj h2).symm
theorem sx1 {k : xK1} {d : xD1} (h : xOk1 k d) {cc : ByteArray} {nL : Nat} (a b i : Nat) (z : Int) {L : xL} {st : List Value} {pc' : Nat} {L' : xL} {st' : List Value} (hx : p.tables.exec = Jvm.exec) (hb : c.code = cc) (hL : xLoc ls nL L) (h1 : decode cc pc = .ok ((d a b i z pc).1, (d a b i z pc).2.1)) (h2 : (d a b i z pc).2.2 = true) (h3 : k a b i z pc L st = some (pc', L', st'))
    (kk : ∀ ls' : Array Slot, xLoc ls' nL L' → W p l e R s m args below meth c H locs cells slots Q (F0 m pc' ls' st')) : W p l e R s m args below meth c H locs cells slots Q (F0 m pc ls st) := h p l e R s m args below meth c H locs cells slots Q cc pc ls nL a b i z L st pc' L' st' hx hb hL h1 h2 h3 kk
end S
theorem sMet {Z s0 : State} {D : va_G} {dA : Nat → ClassId} {sx : xSx} (hE0 : xEnv Z s0 D dA sx) {l : Launch} {y : MethodName} {cc : ByteArray} {maxL : Nat} {ret : Option FieldType} {f n : Nat} {As : List Value} {r : Option Value} (hy : plainFor y = true) (hlen : (xent As).length ≤ maxL)
    (body : ∀ (p : Program) (e : Env) (s : State) (m : MethodId) (below : List Frame) (meth : Method) (c : Code) (ls : Array Slot), p.tables.exec = Jvm.exec → c.code = cc → c.maxLocals = maxL → s.vm.findClass y.cls = some m.cls → meth.sig.returnType = ret → meth.locks = false → xEnv Z s D dA sx → xLoc ls maxL (xentry maxL As) →
      W p l e (srm f n) s m As.toArray below meth c s.heap [] 0 0 (MQ below (sQc r) As.toArray s 0 0 (fun _ => False)) (F0 m 0 ls [])) : Met l y [Cond.code y cc maxL ret] (srm f n) (sPc Z s0 As) (sQc r) 0 0 (fun _ => False) := by
  refine va_MetF (cc := cc) (maxL := maxL) (ret := ret) (ws' := []) hy rfl ?_
  intro p e s m args below meth c s₁ B hml hv9
  obtain ⟨rfl, hW, hz, hk⟩ := hv9
  rw [lg_entry_eq]
  exact body p e s m below meth c _ B.exec B.bytes hml (findClass_of_methodNamed B.named) B.returns B.notSynchronized (xEnv_tr hE0 hW hz hk) (xentry_loc As hlen)
theorem b_ifeq {a b i : Nat} {z : Int} {pc : Nat} {L : xL} {x : Int32} {r : List Value} (h : ¬ x = 0) : k1_ifeq a b i z pc L (.int x :: r) = some (pc + 3, L, r) := by
  unfold k1_ifeq
  exact if_neg h
theorem b_ifne {a b i : Nat} {z : Int} {pc : Nat} {L : xL} {x : Int32} {r : List Value} (h : x = 0) : k1_ifne a b i z pc L (.int x :: r) = some (pc + 3, L, r) := by
  unfold k1_ifne
  exact if_neg (fun q => q h)
theorem b_iflt {a b i : Nat} {z : Int} {pc : Nat} {L : xL} {x : Int32} {r : List Value} (h : ¬ x < 0) : k1_iflt a b i z pc L (.int x :: r) = some (pc + 3, L, r) := by
  unfold k1_iflt
  exact if_neg h
theorem b_icmplt {a b i : Nat} {z : Int} {pc : Nat} {L : xL} {x y : Int32} {r : List Value} (h : x < y) : k1_icmplt a b i z pc L (.int y :: .int x :: r) = some (a, L, r) := by
  unfold k1_icmplt
  exact if_pos h
section S2
variable {Z s0 : State} {D : va_G} {dA : Nat → ClassId} {sx : xSx} {l : Launch}
theorem s_coder (hE0 : xEnv Z s0 D dA sx) {k : Nat} (hk : k < 8) : Met l yJ0_coder_7d493 [Cond.code yJ0_coder_7d493 cJ0_coder_7d493 1 (some .byte)] (srm 0 0) (sPc Z s0 [.ref (sx.1 k)]) (sQc (some (.int 0))) 0 0 (fun _ => False) := by
  refine sMet hE0 (by decide +kernel) (Nat.le_of_ble_eq_true rfl) ?_
  intro p e s m below meth c ls hx hb hml hown hret hlk hE hL
  have hts : ∀ w ∈ xLT, w.before [Value.ref (sx.1 k)].toArray s = true := fun w hw => hE.2.1 _ w hw
  obtain ⟨adV, hV⟩ := hE.2.2.2.2.2.2.2.1
  refine va_gets (index := 38) hx hb hE.2.2.2.2.2.2.2.2.2.1 va_S.rf hown (hts _ (by decide +kernel)) (fun _ h => h) (by decide +kernel) ?_
  refine sx1 k1_ifeq_ok 13 0 0 10 hx hb hL (by decide +kernel) rfl (b_ifeq (by decide)) (fun ls hL => ?_)
  refine sx1 k1_aload_ok 0 1 0 0 hx hb hL (by decide +kernel) rfl rfl (fun ls hL => ?_)
  refine vk_getf (index := 15) hx hb (hV.1 k hk).2.1 va_S.rf hown (hts _ (by decide +kernel)) (fun _ h => h) (by decide +kernel) ?_
  refine sx1 k1_goto_ok 14 0 0 4 hx hb hL (by decide +kernel) rfl rfl (fun ls hL => ?_)
  exact W.zret (ty := .byte) hx hb hret rfl (fun t ht _ => ⟨rfl, ht⟩) (fun q h => nomatch h) (by decide +kernel) hlk
theorem s_isLatin1 (hE0 : xEnv Z s0 D dA sx) {k : Nat} (hk : k < 8) : Met l yJ0_isLatin1_aae02 [Cond.code yJ0_isLatin1_aae02 cJ0_isLatin1_aae02 1 (some .boolean)] (srm 0 0) (sPc Z s0 [.ref (sx.1 k)]) (sQc (some (.int 1))) 0 0 (fun _ => False) := by
  refine sMet hE0 (by decide +kernel) (Nat.le_of_ble_eq_true rfl) ?_
  intro p e s m below meth c ls hx hb hml hown hret hlk hE hL
  have hts : ∀ w ∈ xLT, w.before [Value.ref (sx.1 k)].toArray s = true := fun w hw => hE.2.1 _ w hw
  obtain ⟨adV, hV⟩ := hE.2.2.2.2.2.2.2.1
  refine va_gets (index := 38) hx hb hE.2.2.2.2.2.2.2.2.2.1 va_S.rf hown (hts _ (by decide +kernel)) (fun _ h => h) (by decide +kernel) ?_
  refine sx1 k1_ifeq_ok 17 0 0 14 hx hb hL (by decide +kernel) rfl (b_ifeq (by decide)) (fun ls hL => ?_)
  refine sx1 k1_aload_ok 0 1 0 0 hx hb hL (by decide +kernel) rfl rfl (fun ls hL => ?_)
  refine vk_getf (index := 15) hx hb (hV.1 k hk).2.1 va_S.rf hown (hts _ (by decide +kernel)) (fun _ h => h) (by decide +kernel) ?_
  refine sx1 k1_ifne_ok 17 0 0 7 hx hb hL (by decide +kernel) rfl (b_ifne rfl) (fun ls hL => ?_)
  refine sx1 k1_iconst_ok 0 0 0 1 hx hb hL (by decide +kernel) rfl rfl (fun ls hL => ?_)
  refine sx1 k1_goto_ok 18 0 0 4 hx hb hL (by decide +kernel) rfl rfl (fun ls hL => ?_)
  exact W.zret (ty := .boolean) hx hb hret rfl (fun t ht _ => ⟨rfl, ht⟩) (fun q h => nomatch h) (by decide +kernel) hlk
theorem s_pre (hE0 : xEnv Z s0 D dA sx) {j n : Int32} {w : Value} (h0 : ¬ j < 0) (h1 : j < n) (hw : w = .null ∨ ∃ t : Nat, w = .ref t) : Met l yJ3_checkIndex_8e157 [Cond.code yJ3_checkIndex_8e157 cJ3_checkIndex_8e157 3 (some .int)] (srm 0 0) (sPc Z s0 [.int j, .int n, w]) (sQc (some (.int j))) 0 0 (fun _ => False) := by
  refine sMet hE0 (by decide +kernel) (by rcases hw with rfl | ⟨t, rfl⟩ <;> exact Nat.le_of_ble_eq_true rfl) ?_
  intro p e s m below meth c ls hx hb hml hown hret hlk hE hL
  have hL2 : xLoc ls 3 [some (.int j), some (.int n), some w] := by rcases hw with rfl | ⟨t, rfl⟩ <;> exact hL
  clear hL
  refine sx1 k1_iload_ok 0 1 0 0 hx hb hL2 (by decide +kernel) rfl rfl (fun ls hL => ?_)
  refine sx1 k1_iflt_ok 9 0 0 8 hx hb hL (by decide +kernel) rfl (b_iflt h0) (fun ls hL => ?_)
  refine sx1 k1_iload_ok 0 1 0 0 hx hb hL (by decide +kernel) rfl rfl (fun ls hL => ?_)
  refine sx1 k1_iload_ok 1 1 0 0 hx hb hL (by decide +kernel) rfl rfl (fun ls hL => ?_)
  refine sx1 k1_icmplt_ok 16 0 0 10 hx hb hL (by decide +kernel) rfl (b_icmplt h1) (fun ls hL => ?_)
  refine sx1 k1_iload_ok 0 1 0 0 hx hb hL (by decide +kernel) rfl rfl (fun ls hL => ?_)
  exact W.iret hx hb hret (fun t ht _ => ⟨rfl, ht⟩) (fun q h => nomatch h) (by decide +kernel) hlk
theorem s_check (hE0 : xEnv Z s0 D dA sx) {j n : Int32} (h0 : ¬ j < 0) (h1 : j < n) : Met l yJ0_checkIndex_df160 [Cond.code yJ0_checkIndex_df160 cJ0_checkIndex_df160 2 none] (srm 1 22) (sPc Z s0 [.int j, .int n]) (sQc none) 0 0 (fun _ => False) := by
  refine sMet hE0 (by decide +kernel) (Nat.le_of_ble_eq_true rfl) ?_
  intro p e s m below meth c ls hx hb hml hown hret hlk hE hL
  have hts : ∀ w ∈ xLT, w.before [Value.int j, Value.int n].toArray s = true := fun w hw => hE.2.1 _ w hw
  refine sx1 k1_iload_ok 0 1 0 0 hx hb hL (by decide +kernel) rfl rfl (fun ls hL => ?_)
  refine sx1 k1_iload_ok 1 1 0 0 hx hb hL (by decide +kernel) rfl rfl (fun ls hL => ?_)
  have hZ := hE.2.2.2.2.2.2.2.2.2.2.2.2.2.1
  obtain ⟨w, hw, hZ⟩ : ∃ w : Value, (w = .null ∨ ∃ t : Nat, w = .ref t) ∧ va_Z "jdk/internal/util/Preconditions" "SIOOBE_FORMATTER" "Ljava/util/function/BiFunction;" w (xA Z) s s.heap := by
    rcases hZ with h | ⟨t, h⟩
    · exact ⟨_, Or.inl rfl, h⟩
    · exact ⟨_, Or.inr ⟨t, rfl⟩, h⟩
  refine va_gets (index := 1053) hx hb hZ va_S.rf hown (hts _ (by decide +kernel)) (fun _ h => h) (by decide +kernel) ?_
  refine sCall (W.runS (As := [.int j, .int n, w]) (rest := []) (n := 3) ⟨hx, hb, hml, hown, hts⟩ (s_pre hE h0 h1 hw) ⟨sCB hts (by decide +kernel) (by decide +kernel) (hts _ (by decide +kernel : Cond.methodLink RJ0 1059 yJ3_checkIndex_8e157 ∈ xLT)) (by decide +kernel) (Nat.le_of_ble_eq_true rfl) (Nat.le_of_ble_eq_true rfl), hts _ (by decide +kernel)⟩ ⟨sPc_blind _ _ _, fun U hU hW => sPc_of _ hE va_S.rf hU hW⟩ rfl rfl hL.2.1 rfl (Nat.le_of_ble_eq_true rfl) (show decode cJ0_checkIndex_df160 5 = .ok (.invokestatic 1059, 3) by decide +kernel) ⟨Nat.le_refl _, Nat.le_refl _⟩) ?_
  refine sx1 k1_pop_ok 0 0 0 0 hx hb hL (by decide +kernel) rfl rfl (fun ls hL => ?_)
  exact W.vret hx hb hret (fun t ht _ => ⟨rfl, ht⟩) (fun q h => nomatch h) (by decide +kernel) hlk
theorem s_lt {j : Int32} {n : Nat} (h0 : ¬ j < 0) (h1 : j.toNatClampNeg < n) (hn : n < 2 ^ 31) : j < Int32.ofNat n := by
  rw [Int32.lt_iff_toInt_lt, Int32.toInt_ofNat_small hn]
  have h2 : j.toNatClampNeg = j.toInt.toNat := rfl
  have h3 : ¬ j.toInt < 0 := fun q => h0 (by rw [Int32.lt_iff_toInt_lt]; exact q)
  omega
theorem xbyt_ok : ∀ k, k < 8 → (xlen.getD k 0 < 2 ^ 31 ∧ ∀ j, j < xlen.getD k 0 → (((((xbyt.getD k []).getD j 0) &&& 255).toUInt32 % 65536).toInt32 = (xbyt.getD k []).getD j 0 ∧ narrow .char (.int ((xbyt.getD k []).getD j 0)) = .int ((xbyt.getD k []).getD j 0))) := by decide +kernel
theorem s_latin (hE0 : xEnv Z s0 D dA sx) {adV : Nat → Nat} (hV0 : vk_S 8 xlen xbyt sx.1 adV (xA Z) s0 s0.heap) {k : Nat} (hk : k < 8) {j : Int32} (h0 : ¬ j < 0) (h1 : j.toNatClampNeg < xlen.getD k 0) :
    Met l yJ1_charAt_3b067 [Cond.code yJ1_charAt_3b067 cJ1_charAt_3b067 2 (some .char)] (srm 2 43) (fun a U => sPc Z s0 [.ref (adV k), .int j] a U ∧ vk_S 8 xlen xbyt sx.1 adV (xA Z) U U.heap) (sQc (some (.int ((xbyt.getD k []).getD j.toNatClampNeg 0)))) 0 0 (fun _ => False) := by
  refine va_MetF (cc := cJ1_charAt_3b067) (maxL := 2) (ret := some .char) (ws' := []) (by decide +kernel) rfl ?_
  intro p e s m args below meth c s₁ B hml hv9
  obtain ⟨⟨rfl, hW, hz, hk9⟩, hV⟩ := hv9
  rw [lg_entry_eq]
  have hx := B.exec
  have hb := B.bytes
  have hown : s.vm.findClass RJ1 = some m.cls := findClass_of_methodNamed B.named
  have hlk := B.notSynchronized
  have hret := B.returns
  have hE := xEnv_tr hE0 hW hz hk9
  have hts : ∀ w ∈ xLT, w.before [Value.ref (adV k), Value.int j].toArray s = true := fun w hw => hE.2.1 _ w hw
  have hL := xentry_loc [Value.ref (adV k), Value.int j] (n := 2) (Nat.le_of_ble_eq_true rfl)
  have hT := (hV.1 k hk).2.2.2
  have hb9 := xbyt_ok k hk
  have hlt := s_lt h0 h1 hb9.1
  show W p l e (srm 2 43) s m _ below meth c s.heap [] 0 0 _ _
  refine sx1 k1_iload_ok 1 1 0 0 hx hb hL (by decide +kernel) rfl rfl (fun ls hL => ?_)
  refine sx1 k1_aload_ok 0 1 0 0 hx hb hL (by decide +kernel) rfl rfl (fun ls hL => ?_)
  refine va_tlen hx hb hT va_S.rf rfl (by decide +kernel) ?_
  refine sCall (W.runS (As := [.int j, .int (Int32.ofNat (xlen.getD k 0))]) (rest := []) (n := 2) ⟨hx, hb, hml, hown, hts⟩ (s_check hE h0 hlt) ⟨sCB hts (by decide +kernel) (by decide +kernel) (hts _ (by decide +kernel : Cond.methodLink RJ1 9 yJ0_checkIndex_df160 ∈ xLT)) (by decide +kernel) (Nat.le_of_ble_eq_true rfl) (Nat.le_of_ble_eq_true rfl), hts _ (by decide +kernel)⟩ ⟨sPc_blind _ _ _, fun U hU hW => sPc_of _ hE va_S.rf hU hW⟩ rfl rfl hL.2.1 rfl (Nat.le_of_ble_eq_true rfl) (show decode cJ1_charAt_3b067 3 = .ok (.invokestatic 9, 3) by decide +kernel) ⟨Nat.le_refl _, Nat.le_refl _⟩) ?_
  refine sx1 k1_aload_ok 0 1 0 0 hx hb hL (by decide +kernel) rfl rfl (fun ls hL => ?_)
  refine sx1 k1_iload_ok 1 1 0 0 hx hb hL (by decide +kernel) rfl rfl (fun ls hL => ?_)
  refine va_tb hx hb hT va_S.rf (fun q => q.elim h0 (fun q => Nat.lt_irrefl _ (Nat.lt_of_lt_of_le h1 q))) rfl (by decide +kernel) ?_
  refine sx1 k1_sipush_ok 0 0 0 255 hx hb hL (by decide +kernel) rfl rfl (fun ls hL => ?_)
  refine sx1 k1_iand_ok 0 0 0 0 hx hb hL (by decide +kernel) rfl rfl (fun ls hL => ?_)
  refine lv_i2c hx hb (by decide +kernel) (hb9.2 _ h1).1 ?_
  exact W.zret (ty := .char) hx hb hret (hb9.2 _ h1).2 (fun t ht _ => ⟨rfl, ht⟩) (fun q h => nomatch h) (by decide +kernel) hlk
theorem s_length (hE0 : xEnv Z s0 D dA sx) {k : Nat} (hk : k < 8) : Met l yJ0_length_8abf5 [Cond.code yJ0_length_8abf5 cJ0_length_8abf5 1 (some .int)] (srm 1 20) (sPc Z s0 [.ref (sx.1 k)]) (sQc (some (.int (nI (xlen.getD k 0))))) 0 0 (fun _ => False) := by
  refine sMet hE0 (by decide +kernel) (Nat.le_of_ble_eq_true rfl) ?_
  intro p e s m below meth c ls hx hb hml hown hret hlk hE hL
  have hts : ∀ w ∈ xLT, w.before [Value.ref (sx.1 k)].toArray s = true := fun w hw => hE.2.1 _ w hw
  obtain ⟨adV, hV⟩ := hE.2.2.2.2.2.2.2.1
  refine sx1 k1_aload_ok 0 1 0 0 hx hb hL (by decide +kernel) rfl rfl (fun ls hL => ?_)
  refine vk_getf (index := 9) hx hb (hV.1 k hk).2.2.1 va_S.rf hown (hts _ (by decide +kernel)) (fun _ h => h) (by decide +kernel) ?_
  refine va_tlen hx hb (hV.1 k hk).2.2.2 va_S.rf rfl (by decide +kernel) ?_
  refine sx1 k1_aload_ok 0 1 0 0 hx hb hL (by decide +kernel) rfl rfl (fun ls hL => ?_)
  refine sCall (W.runV (As := []) (b := sx.1 k) (C := RJ0) (rest := [.int (Int32.ofNat (xlen.getD k 0))]) (n := 0) ⟨hx, hb, hml, hown, hts⟩ (s_coder hE hk) ⟨sCB hts (by decide +kernel) (by decide +kernel) (hts _ (by decide +kernel : Cond.methodLink RJ0 335 yJ0_coder_7d493 ∈ xLT)) (by decide +kernel) (Nat.le_of_ble_eq_true rfl) (Nat.le_of_ble_eq_true rfl), hts _ (by decide +kernel), hts _ (by decide +kernel)⟩ ⟨sPc_blind _ _ _, vk_recv hV hk va_S.rf, fun U hU hW => sPc_of _ hE va_S.rf hU hW⟩ rfl rfl hL.2.1 rfl (Nat.le_of_ble_eq_true rfl) (show decode cJ0_length_8abf5 6 = .ok (.invokevirtual 335, 3) by decide +kernel) ⟨Nat.zero_le _, Nat.zero_le _⟩) ?_
  refine sx1 k1_ishr_ok 0 0 0 0 hx hb hL (by decide +kernel) rfl rfl (fun ls hL => ?_)
  rw [sb_shr0]
  exact W.iret hx hb hret (fun t ht _ => ⟨rfl, ht⟩) (fun q h => nomatch h) (by decide +kernel) hlk
theorem s_charAt (hE0 : xEnv Z s0 D dA sx) {k : Nat} (hk : k < 8) {j : Int32} (h0 : ¬ j < 0) (h1 : j.toNatClampNeg < xlen.getD k 0) :
    Met l yJ0_charAt_5068e [Cond.code yJ0_charAt_5068e cJ0_charAt_5068e 2 (some .char)] (srm 3 64) (sPc Z s0 [.ref (sx.1 k), .int j]) (sQc (some (.int ((xbyt.getD k []).getD j.toNatClampNeg 0)))) 0 0 (fun _ => False) := by
  refine sMet hE0 (by decide +kernel) (Nat.le_of_ble_eq_true rfl) ?_
  intro p e s m below meth c ls hx hb hml hown hret hlk hE hL
  have hts : ∀ w ∈ xLT, w.before [Value.ref (sx.1 k), Value.int j].toArray s = true := fun w hw => hE.2.1 _ w hw
  obtain ⟨adV, hV⟩ := hE.2.2.2.2.2.2.2.1
  have hb9 := xbyt_ok k hk
  refine sx1 k1_aload_ok 0 1 0 0 hx hb hL (by decide +kernel) rfl rfl (fun ls hL => ?_)
  refine sCall (W.runV (As := []) (b := sx.1 k) (C := RJ0) (rest := []) (n := 0) ⟨hx, hb, hml, hown, hts⟩ (s_isLatin1 hE hk) ⟨sCB hts (by decide +kernel) (by decide +kernel) (hts _ (by decide +kernel : Cond.methodLink RJ0 492 yJ0_isLatin1_aae02 ∈ xLT)) (by decide +kernel) (Nat.le_of_ble_eq_true rfl) (Nat.le_of_ble_eq_true rfl), hts _ (by decide +kernel), hts _ (by decide +kernel)⟩ ⟨sPc_blind _ _ _, vk_recv hV hk va_S.rf, fun U hU hW => sPc_of _ hE va_S.rf hU hW⟩ rfl rfl hL.2.1 rfl (Nat.le_of_ble_eq_true rfl) (show decode cJ0_charAt_5068e 1 = .ok (.invokevirtual 492, 3) by decide +kernel) ⟨Nat.zero_le _, Nat.zero_le _⟩) ?_
  refine sx1 k1_ifeq_ok 16 0 0 12 hx hb hL (by decide +kernel) rfl (b_ifeq (by decide)) (fun ls hL => ?_)
  refine sx1 k1_aload_ok 0 1 0 0 hx hb hL (by decide +kernel) rfl rfl (fun ls hL => ?_)
  refine vk_getf (index := 9) hx hb (hV.1 k hk).2.2.1 va_S.rf hown (hts _ (by decide +kernel)) (fun _ h => h) (by decide +kernel) ?_
  refine sx1 k1_iload_ok 1 1 0 0 hx hb hL (by decide +kernel) rfl rfl (fun ls hL => ?_)
  refine sCall (W.runS (As := [.ref (adV k), .int j]) (rest := []) (n := 2) ⟨hx, hb, hml, hown, hts⟩ (s_latin hE hV hk h0 h1) ⟨sCB hts (by decide +kernel) (by decide +kernel) (hts _ (by decide +kernel : Cond.methodLink RJ0 495 yJ1_charAt_3b067 ∈ xLT)) (by decide +kernel) (Nat.le_of_ble_eq_true rfl) (Nat.le_of_ble_eq_true rfl), hts _ (by decide +kernel)⟩ ⟨fun _ _ _ _ h => h, fun U hU hW => ⟨sPc_of _ hE va_S.rf hU hW, by rw [hU]; exact vk_S.moved hW.alike hV⟩⟩ rfl rfl hL.2.1 rfl (Nat.le_of_ble_eq_true rfl) (show decode cJ0_charAt_5068e 12 = .ok (.invokestatic 495, 3) by decide +kernel) ⟨Nat.zero_le _, Nat.zero_le _⟩) ?_
  exact W.zret (ty := .char) hx hb hret (hb9.2 _ h1).2 (fun t ht _ => ⟨rfl, ht⟩) (fun q h => nomatch h) (by decide +kernel) hlk
end S2
theorem xpwS : (Cond.code yJ0_length_8abf5 cJ0_length_8abf5 1 (some .int) ∈ xLT ∧ Cond.instanceMethod yJ0_length_8abf5 ∈ xLT ∧ Cond.selects RJ0 yJ0_length_8abf5 yJ0_length_8abf5 ∈ xLT ∧ Cond.initialized yJ0_length_8abf5.cls ∈ xLT) ∧ Cond.code yJ0_charAt_5068e cJ0_charAt_5068e 2 (some .char) ∈ xLT ∧ Cond.instanceMethod yJ0_charAt_5068e ∈ xLT ∧ Cond.selects RJ0 yJ0_charAt_5068e yJ0_charAt_5068e ∈ xLT := ⟨⟨by decide +kernel, by decide +kernel, by decide +kernel, by decide +kernel⟩, by decide +kernel, by decide +kernel, by decide +kernel⟩
def k4_strlen : xK4 := fun sx a b i z h st => match st with
  | .ref r :: rest => match sx.2.1 r with
    | some k => if xsum rest ≤ 8 then some (h, .int (nI (xlen.getD k 0)) :: rest) else none
    | none => none
  | _ => none
def d4_strlen : xD2 := fun own yn a b i z pc => (.invokevirtual i, 3, xw b (.methodLink own i yJ0_length_8abf5))
theorem k4_strlen_ok : xOk4 k4_strlen d4_strlen := by
  intro Z D dA sx p l e R s m args below meth c H locs cells slots Q cc pc ls nL own yn a b i z h nx st h' st' hX hV hR hsz hsum hfr hlo hce hsl hdg hsd hk kk
  obtain ⟨hx, hb, hml, hown, hts, hK, hyn, hZs⟩ := hX
  obtain ⟨⟨ws, hP, hD, hC⟩, hS, hN⟩ := id hR
  unfold k4_strlen at hk
  unfold d4_strlen at hdg hsd kk
  split at hk
  · rename_i r rest
    split at hk
    · rename_i k hk9
      split at hk
      · rename_i hsm
        cases hk
        obtain ⟨hk8, rfl⟩ := hV.2.2.2.2.2.2.2.2.1 r k hk9
        obtain ⟨adV, hVS⟩ := hV.2.2.2.2.2.2.2.1
        refine sCall (W.runV (As := []) (b := sx.1 k) (C := RJ0) (rest := rest) (n := 0) ⟨hx, hb, hml, hown, hts⟩ (s_length hV hk8) ⟨sCB hts xpwS.1.1 xpwS.1.2.2.2 (hts _ (xw_ok hsd)) (by decide +kernel) (by omega) (by omega), hts _ xpwS.1.2.1, hts _ xpwS.1.2.2.1⟩ ⟨sPc_blind _ _ _, vk_recv hVS hk8 hS, fun U hU hW => sPc_of _ hV hS hU hW⟩ rfl rfl hsz rfl (lv_room hsm) hdg ⟨hce, hsl⟩) ?_
        exact kk H locs hR
      · cases hk
    · cases hk
  · cases hk
def k4_charAt : xK4 := fun sx a b i z h st => match st with
  | .int j :: .ref r :: rest => match sx.2.1 r with
    | some k => if (¬ j < 0 ∧ j.toNatClampNeg < xlen.getD k 0) ∧ xsum rest ≤ 8 then some (h, .int ((xbyt.getD k []).getD j.toNatClampNeg 0) :: rest) else none
    | none => none
  | _ => none
def d4_charAt : xD2 := fun own yn a b i z pc => (.invokevirtual i, 3, xw b (.methodLink own i yJ0_charAt_5068e))
theorem k4_charAt_ok : xOk4 k4_charAt d4_charAt := by
  intro Z D dA sx p l e R s m args below meth c H locs cells slots Q cc pc ls nL own yn a b i z h nx st h' st' hX hV hR hsz hsum hfr hlo hce hsl hdg hsd hk kk
  obtain ⟨hx, hb, hml, hown, hts, hK, hyn, hZs⟩ := hX
  obtain ⟨⟨ws, hP, hD, hC⟩, hS, hN⟩ := id hR
  unfold k4_charAt at hk
  unfold d4_charAt at hdg hsd kk
  split at hk
  · rename_i j r rest
    split at hk
    · rename_i k hk9
      split at hk
      · rename_i hsm
        obtain ⟨⟨g0, g1⟩, hsm⟩ := hsm
        cases hk
        obtain ⟨hk8, rfl⟩ := hV.2.2.2.2.2.2.2.2.1 r k hk9
        obtain ⟨adV, hVS⟩ := hV.2.2.2.2.2.2.2.1
        refine sCall (W.runV (As := [.int j]) (b := sx.1 k) (C := RJ0) (rest := rest) (n := 1) ⟨hx, hb, hml, hown, hts⟩ (s_charAt hV hk8 g0 g1) ⟨sCB hts xpwS.2.1 xpwS.1.2.2.2 (hts _ (xw_ok hsd)) (by decide +kernel) (by omega) (by omega), hts _ xpwS.2.2.1, hts _ xpwS.2.2.2⟩ ⟨sPc_blind _ _ _, vk_recv hVS hk8 hS, fun U hU hW => sPc_of _ hV hS hU hW⟩ rfl rfl hsz rfl (lv_room hsm) hdg ⟨hce, hsl⟩) ?_
        exact kk H locs hR
      · cases hk
    · cases hk
  · cases hk
def x4ops : List (xK4 × xD2) := x4opsA ++ [(k4_strlen, d4_strlen), (k4_charAt, d4_charAt)]
theorem x4ops_ok : ∀ q ∈ x4ops, xOk4 q.1 q.2 := List.forall_mem_append.mpr ⟨x4opsA_ok, List.forall_mem_cons.mpr ⟨k4_strlen_ok, List.forall_mem_cons.mpr ⟨k4_charAt_ok, fun _ h => nomatch h⟩⟩⟩
