section RS1
variable {n k p i h z m u f s c d x j e a b g : Nat} {S S' T T' U V R : St} {q v lo hi lo' hi' : Int32} {w w' : Int64} {cc cd : Bool} {o : Ob}
/-! BOTH READERS -/
def Sam (S T : St) : Prop := posC S = posR T ∧ S.1 (1, 0, 0) 9 = T.1 (8, 0, 0) 17 ∧ S.1 (1, 0, 0) 3 = T.1 (8, 0, 0) 18 ∧ (S.1 (1, 0, 0) 3 = 2 → S.1 (1, 0, 0) 5 = T.1 (8, 0, 0) 19) ∧ (S.1 (1, 0, 0) 3 = 1 → Wl (T.1 (11, 11, 0)) (frmR T) (posR T) (S.2.1 (1, 0, 0) 4) (T.2.1 (8, 0, 0) 22) ∧ posR T ≤ frmR T + 8)
def RS (e : Nat) (S T : St) : Prop := Qok S e ∧ Pok T e ∧ BQ (S.1 (2, 0, 0)) (T.1 (11, 11, 0)) e ∧ T.1 (8, 0, 0) 20 = S.1 (1, 0, 0) 8 ∧ (S.1 (1, 0, 0) 8 ≠ 0 → T.1 (8, 0, 0) 21 = S.1 (1, 0, 0) 9) ∧ (S.1 (1, 0, 0) 8 = 0 → Sam S T)
theorem RS_C (h : RS e S T) (h1 : S'.1 (1, 0, 0) = S.1 (1, 0, 0)) (h2 : S'.1 (2, 0, 0) = S.1 (2, 0, 0)) (h3 : S'.2.1 (1, 0, 0) = S.2.1 (1, 0, 0)) : RS e S' T := by
  unfold RS Sam Qok posC at *
  rw [h1, h2, h3]
  exact h
theorem RS_M (h : RS e S T) (h1 : T'.1 (8, 0, 0) = T.1 (8, 0, 0)) (h2 : T'.1 (11, 11, 0) = T.1 (11, 11, 0)) (h3 : T'.2.1 (8, 0, 0) = T.2.1 (8, 0, 0)) : RS e S T' := by
  unfold RS Sam Pok posR frmR at *
  rw [h1, h2, h3]
  exact h
theorem RS_Ci (h : RS e S T) (ho : o ≠ (1, 0, 0)) (ho2 : o ≠ (2, 0, 0)) : RS e (upI S o g v) T := RS_C h (upI_fun' _ _ _ ho.symm) (upI_fun' _ _ _ ho2.symm) rfl
theorem upJ_fun2 {o' : Ob} (ho : o ≠ o') : (upJ S o g w).2.1 o' = S.2.1 o' := by
  funext g'
  unfold upJ
  exact if_neg (fun e => ho e.1.symm)
theorem RS_Cj (h : RS e S T) (ho : o ≠ (1, 0, 0)) : RS e (upJ S o g w) T := RS_C h rfl rfl (upJ_fun2 ho)
theorem RS_Mi (h : RS e S T) (ho : o ≠ (8, 0, 0)) (ho2 : o ≠ (11, 11, 0)) : RS e S (upI T o g v) := RS_M h (upI_fun' _ _ _ ho.symm) (upI_fun' _ _ _ ho2.symm) rfl
theorem RS_Mj (h : RS e S T) (ho : o ≠ (8, 0, 0)) : RS e S (upJ T o g w) := RS_M h rfl rfl (upJ_fun2 ho)
theorem muF_dead (h : T.1 (8, 0, 0) 20 ≠ 0) : muF T cd v = T := if_neg (fun e => h e.2)
theorem rqC_dead (h : S.1 (1, 0, 0) 8 ≠ 0) : rqC S cc v = S := if_neg (fun e => h e.2)
theorem goF_dead (h : T.1 (8, 0, 0) 20 ≠ 0) : goF T e = T := if_neg h
theorem goC_dead (h : S.1 (1, 0, 0) 8 ≠ 0) : goC S e = S := if_neg h
theorem rnF_dead (h : T.1 (8, 0, 0) 20 ≠ 0) : rnF T e lo hi = T := by unfold rnF rnA; rw [muF_dead h, muF_dead h, goF_dead h]
theorem spF_dead (h : T.1 (8, 0, 0) 20 ≠ 0) : spF T e = T := by unfold spF; rw [muF_dead h, goF_dead h]
theorem rqC_F (h : S.1 (1, 0, 0) 8 = 0) : rqC S false v = upI S (1, 0, 0) 8 v := if_pos ⟨rfl, h⟩
theorem muF_F (h : T.1 (8, 0, 0) 20 = 0) : muF T false v = upI (upI T (8, 0, 0) 20 v) (8, 0, 0) 21 (T.1 (8, 0, 0) 17) := if_pos ⟨rfl, h⟩
theorem RS_rq (h : RS e S T) (hv : v ≠ 0) (hb : S.1 (1, 0, 0) 8 = 0 → cc = cd) : RS e (rqC S cc v) (muF T cd v) := by
  by_cases h0 : S.1 (1, 0, 0) 8 = 0
  · have hc := hb h0
    subst hc
    have h20 := h.2.2.2.1.trans h0
    cases cc with
    | true => rw [rqC_same rfl, muF_same rfl]; exact h
    | false =>
      refine ⟨rqC_ok h.1, muF_ok h.2.1, ?_, ?_, ?_, ?_⟩
      · rw [rqC_Ef.1 _ (by simp), muF_Df.1 _ (by simp)]; exact h.2.2.1
      · rw [rqC_F h0, muF_F h20, upI_1, if_neg (by simp), upI_1, if_pos ⟨rfl, rfl⟩, upI_1, if_pos ⟨rfl, rfl⟩]
      · intro _
        rw [rqC_F h0, muF_F h20, upI_1, if_pos ⟨rfl, rfl⟩, upI_1, if_neg (by simp)]
        exact (h.2.2.2.2.2 h0).2.1.symm
      · intro e1
        rw [rqC_F h0, upI_1, if_pos ⟨rfl, rfl⟩] at e1
        exact absurd e1 hv
  · rw [rqC_dead h0, muF_dead (by rw [h.2.2.2.1]; exact h0)]
    exact h
theorem tkC_9 {kk vv : Int32} : (tkC S p f kk vv w).1 (1, 0, 0) 9 = Int32.ofNat f := by unfold tkC; simp [upI_1, upJ_1]
theorem tkC_5 {kk vv : Int32} : (tkC S p f kk vv w).1 (1, 0, 0) 5 = vv := by unfold tkC; simp [upI_1, upJ_1]
theorem tkC_4 {kk vv : Int32} : (tkC S p f kk vv w).2.1 (1, 0, 0) 4 = w := by unfold tkC; rw [upJ_2, if_pos ⟨rfl, rfl⟩]
theorem tkS_19 {kk vv : Int32} : (tkS S p f kk vv w).1 (8, 0, 0) 19 = vv := by unfold tkS; simp [upI_1, upJ_1]
theorem tkS_22 {kk vv : Int32} : (tkS S p f kk vv w).2.1 (8, 0, 0) 22 = w := by unfold tkS; rw [upJ_2, if_pos ⟨rfl, rfl⟩]
theorem sc_tk (he : e ≤ 700) (hB : BQ (S.1 (2, 0, 0)) (T.1 (11, 11, 0)) e) (hpe : p ≤ e) : Sam (scC S e p) (scF T e p) := by
  have hle := wsD_le (b := T.1 (11, 11, 0)) (e := e) (e - p) p
  have hk := fun f X Y v w => tok_Q (f := f) (X := X) (Y := Y) (v := v) (w := w) hB
  have hD := fun f v w (hf : f ≤ e) => tokD_le (b := T.1 (11, 11, 0)) (v := v) (w := w) hf
  unfold scC scF
  rw [ws_Q hB]
  generalize wsD (T.1 (11, 11, 0)) e p (e - p) = F at *
  have hk2 := hk F (S.1 (1, 0, 0) 5) (T.1 (8, 0, 0) 19) (S.2.1 (1, 0, 0) 4) (T.2.1 (8, 0, 0) 22)
  have hD2 := hD F (T.1 (8, 0, 0) 19) (T.2.1 (8, 0, 0) 22) (by omega)
  generalize tokC (S.1 (2, 0, 0)) e F (S.1 (1, 0, 0) 5) (S.2.1 (1, 0, 0) 4) = A at *
  generalize tokD (T.1 (11, 11, 0)) e F (T.1 (8, 0, 0) 19) (T.2.1 (8, 0, 0) 22) = B at *
  have e1 : posC (tkC S A.1 F A.2.1 A.2.2.1 A.2.2.2) = B.1 := by unfold posC; rw [tkC_2, hk2.1, oN_clamp (by omega)]
  have e2 : posR (tkS T B.1 F B.2.1 B.2.2.1 B.2.2.2) = B.1 := by unfold posR; rw [tkS_16, oN_clamp (by omega)]
  have e3 : frmR (tkS T B.1 F B.2.1 B.2.2.1 B.2.2.2) = F := by unfold frmR; rw [tkS_17, oN_clamp (by omega)]
  unfold Sam
  rw [e1, e2, e3, tkC_9, tkS_17, tkC_3, tkS_18, tkC_5, tkS_19, tkC_4, tkS_22, tkS_o (by simp)]
  exact ⟨rfl, rfl, hk2.2.1, hk2.2.2.1, hk2.2.2.2⟩
theorem RS_go (h : RS e S T) : RS e (goC S e) (goF T e) := by
  by_cases h0 : S.1 (1, 0, 0) 8 = 0
  · have h20 := h.2.2.2.1.trans h0
    have hc8 : (goC S e).1 (1, 0, 0) 8 = S.1 (1, 0, 0) 8 := by unfold goC; rw [if_pos h0]; exact tkC_8
    refine ⟨goC_ok h.1, goF_ok h.2.1, ?_, ?_, ?_, ?_⟩
    · rw [goC_Ef.1 _ (by simp), goF_Df.1 _ (by simp)]; exact h.2.2.1
    · rw [hc8]
      unfold goF
      rw [if_pos h20, scF_20]
      exact h.2.2.2.1
    · intro e1; rw [hc8] at e1; exact absurd h0 e1
    · intro _
      unfold goC goF
      rw [if_pos h0, if_pos h20, ← (h.2.2.2.2.2 h0).1]
      exact sc_tk h.1.1 h.2.2.1 h.1.2.2.2
  · rw [goC_dead h0, goF_dead (by rw [h.2.2.2.1]; exact h0)]
    exact h
theorem RS_kd (h : RS e S T) (k : Int32) : S.1 (1, 0, 0) 8 = 0 → decide (S.1 (1, 0, 0) 3 = k) = decide (T.1 (8, 0, 0) 18 = k) := by
  intro h0
  rw [(h.2.2.2.2.2 h0).2.2.1]
theorem RS_sp (h : RS e S T) : RS e (spC S e) (spF T e) := RS_go (RS_rq h (by decide) (RS_kd h 3))
theorem RS_mk (h : RS e S T) : RS e (mkC S) (mk1 T) := RS_rq h (by decide) (RS_kd h 1)
theorem RS_rn (h : RS e S T) (hb : S.1 (1, 0, 0) 8 = 0 → lo = lo' ∧ hi = hi') : RS e (rnC S e lo hi) (rnF T e lo' hi') := by
  unfold rnC rnF rnA2 rnA
  refine RS_go (RS_rq (RS_rq h (by decide) (RS_kd h 2)) (by decide) ?_)
  intro h1
  have h2 := rqC_gd (by decide) (gcI h1)
  have h0 := gcE h2.1
  have h3 := (h.2.2.2.2.2 h0).2.2.2.1 (of_decide_eq_true h2.2)
  rw [h3, (hb h0).1, (hb h0).2]
theorem RS_val (h : RS e S T) (hb : S.1 (1, 0, 0) 8 = 0 → lo = lo' ∧ hi = hi') (hg : (rnC S e lo hi).1 (1, 0, 0) 8 = 0) : S.1 (1, 0, 0) 8 = 0 ∧ rnV T e lo' hi' = S.1 (1, 0, 0) 5 ∧ lo.toInt ≤ (S.1 (1, 0, 0) 5).toInt ∧ (S.1 (1, 0, 0) 5).toInt ≤ hi.toInt := by
  have h1 := rnC_gd (gcI hg)
  have h0 := gcE h1.1
  have h2 := RS_rn h hb
  refine ⟨h0, ?_, leI.mp h1.2.2.1, leI.mp h1.2.2.2⟩
  unfold rnV
  rw [if_pos (h2.2.2.2.1.trans hg)]
  exact ((h.2.2.2.2.2 h0).2.2.2.1 h1.2.1).symm
theorem RS_nm (h : RS e S T) (h0 : S.1 (1, 0, 0) 8 = 0) (h3 : S.1 (1, 0, 0) 3 = 1) : NmP (S.2.1 (1, 0, 0) 4) (T.2.1 (8, 0, 0) 22) := by
  obtain ⟨⟨l, l1, l2, l3, l4, _⟩, _⟩ := (h.2.2.2.2.2 h0).2.2.2.2 h3
  exact ⟨l, by omega, l2, l3, l4⟩
/-- the words of the law -/
theorem kw_K (hk : k < 8) : ∃ K : List Nat, Ltr K ∧ K.length ≤ 8 ∧ strL k = K.map (fun c => Int32.ofNat (c + 96)) ∧ pkC (strL k) 0 0 = Int64.ofNat (nmC K 0) := by
  refine ⟨(strL k).map (fun x => x.toNatClampNeg - 96), ?_⟩
  rcases (show k = 0 ∨ k = 1 ∨ k = 2 ∨ k = 3 ∨ k = 4 ∨ k = 5 ∨ k = 6 ∨ k = 7 by omega) with h | h | h | h | h | h | h | h <;> subst h <;> exact ⟨by unfold Ltr; decide, by decide, by decide, by decide⟩
theorem eqB_K {b : Nat → Int32} : ∀ (K : List Nat) f, (eqB b f (K.map (fun c => Int32.ofNat (c + 96))) = true) = ∀ i, i < K.length → b (f + i) = Int32.ofNat (K.getD i 0 + 96) := by
  intro K
  induction K with
  | nil => intro f; exact propext ⟨fun _ i hi => absurd hi (Nat.not_lt_zero i), fun _ => rfl⟩
  | cons c K ih =>
    intro f
    show ((decide (b f = Int32.ofNat (c + 96)) && eqB b (f + 1) (K.map (fun c => Int32.ofNat (c + 96)))) = true) = _
    rw [Bool.and_eq_true, ih (f + 1)]
    refine propext ⟨fun e i hi => ?_, fun e => ⟨decide_eq_true (e 0 (Nat.zero_lt_succ _)), fun i hi => ?_⟩⟩
    · cases i with
      | zero => exact of_decide_eq_true e.1
      | succ i =>
        have := e.2 i (by rw [List.length_cons] at hi; omega)
        rw [show f + (i + 1) = f + 1 + i by omega, this]
        rfl
    · have := e (i + 1) (by rw [List.length_cons]; omega)
      rw [show f + 1 + i = f + (i + 1) by omega, this]
      rfl
theorem lst_eq : ∀ (l l' : List Nat), l.length = l'.length → (∀ i, i < l.length → l.getD i 0 = l'.getD i 0) → l = l' := by
  intro l
  induction l with
  | nil => intro l' h _; exact (List.length_eq_zero_iff.mp h.symm).symm
  | cons c l ih =>
    intro l' h h2
    cases l' with
    | nil => cases h
    | cons c' l' =>
      rw [show c = c' from h2 0 (Nat.zero_lt_succ _), ih l' (by rw [List.length_cons, List.length_cons] at h; omega) (fun i hi => h2 (i + 1) (by rw [List.length_cons]; omega))]
theorem RS_wd (h : RS e S T) (hk : k < 8) (h0 : S.1 (1, 0, 0) 8 = 0) : wdC S k = wdR T k := by
  obtain ⟨s1, s2, s3, s4, s5⟩ := h.2.2.2.2.2 h0
  have h20 := h.2.2.2.1.trans h0
  have hfp := h.2.1.2.2.2.2.2
  unfold wdC wdR
  rw [h20, decide_eq_true (rfl : (0 : Int32) = 0), Bool.true_and, ← s3]
  by_cases h3 : S.1 (1, 0, 0) 3 = 1
  · obtain ⟨⟨l, l1, l2, l3, l4, l5⟩, l6⟩ := s5 h3
    obtain ⟨K, k1, k2, k3, k4⟩ := kw_K hk
    have hll : l.length = posR T - frmR T := by omega
    rw [decide_eq_true h3, Bool.true_and, Bool.true_and, k4, l3, k3, List.length_map]
    have a1 := p8 (l := l) (by omega) (nmC_lt l l2)
    have a2 := p8 k2 (nmC_lt K k1)
    have e1 : (Int64.ofNat (nmC K 0) = Int64.ofNat (nmC l 0)) ↔ K = l := ⟨fun e => nmC_inj K l k1 l2 (J_inj (by omega) (by omega) e), fun e => by rw [e]⟩
    have e2 : (decide (posR T = frmR T + K.length) && eqB (T.1 (11, 11, 0)) (frmR T) (K.map (fun c => Int32.ofNat (c + 96)))) = true ↔ K = l := by
      rw [Bool.and_eq_true, eqB_K]
      refine ⟨fun e => ?_, fun e => ?_⟩
      · have hp9 := of_decide_eq_true e.1
        refine lst_eq K l (by omega) ?_
        intro i hi
        have b1 := e.2 i hi
        rw [l5 i (by omega)] at b1
        have c1 : l.getD i 0 ≤ 26 := by
          by_cases hil : i < l.length
          · have : l.getD i 0 ∈ l := by rw [List.getD_eq_getElem?_getD, List.getElem?_eq_getElem hil]; exact List.getElem_mem hil
            exact (l2 _ this).2
          · rw [getD_0 (by omega)]; omega
        have c2 : K.getD i 0 ≤ 26 := by
          have : K.getD i 0 ∈ K := by rw [List.getD_eq_getElem?_getD, List.getElem?_eq_getElem hi]; exact List.getElem_mem hi
          exact (k1 _ this).2
        have := inj0 (by omega) (by omega) b1
        omega
      · subst e
        exact ⟨decide_eq_true (by omega), l5⟩
    exact Bool.eq_iff_iff.mpr ⟨fun e => e2.mpr (e1.mp (of_decide_eq_true e)), fun e => decide_eq_true (e1.mpr (e2.mp e))⟩
  · rw [decide_eq_false h3, Bool.false_and, Bool.false_and]
theorem fdN_congr {g g' : Nat → Int64} : ∀ j i, (∀ q, q < i + j → (g q = w) = (g' q = w')) → fdN g w i j = fdN g' w' i j := by
  intro j
  induction j with
  | zero => intro i _; rfl
  | succ j ih =>
    intro i hq
    have h1 := hq i (by omega)
    have h2 := ih (i + 1) (fun q hq2 => hq q (by omega))
    rw [show fdN g w i (j + 1) = if g i = w then some i else fdN g w (i + 1) j from rfl, show fdN g' w' i (j + 1) = if g' i = w' then some i else fdN g' w' (i + 1) j from rfl, h2]
    by_cases hc : g i = w
    · rw [if_pos hc, if_pos (h1 ▸ hc)]
    · rw [if_neg hc, if_neg (fun e => hc (h1.symm ▸ e))]
end RS1
