section PH1
variable {n k p i h z m u f s c d x j e a b g r : Nat} {S S' T T' U V R W : St} {q v lo hi lo' hi' : Int32} {w w' : Int64} {cc cd : Bool} {o : Ob}
/-! A HOUSEHOLD IS READ -/
theorem DH_f (h : DH S T r) (e1 : S'.1 (16, 0, r) = S.1 (16, 0, r)) (e2 : S'.2.1 (16, 0, r) = S.2.1 (16, 0, r)) (e3 : T'.1 (11, 4, 0) (12 + 4 * r) = T.1 (11, 4, 0) (12 + 4 * r)) (e4 : T'.1 (11, 4, 0) (12 + 4 * r + 1) = T.1 (11, 4, 0) (12 + 4 * r + 1)) (e5 : T'.2.1 (11, 9, 0) (96 + r) = T.2.1 (11, 9, 0) (96 + r)) : DH S' T' r := by
  unfold DH
  rw [e1, e2, e3, e4, e5]
  exact h
theorem DP_f (h : DP S T r n) (e1 : S'.1 (17, 0, r) = S.1 (17, 0, r)) (e2 : S'.2.1 (17, 0, r) = S.2.1 (17, 0, r)) (e3 : ∀ w, w < 11 → T'.1 (11, 4, 0) (36 + 11 * r + w) = T.1 (11, 4, 0) (36 + 11 * r + w)) (e5 : T'.2.1 (11, 9, 0) (102 + r) = T.2.1 (11, 9, 0) (102 + r)) : DP S' T' r n := by
  obtain ⟨h1, h2, h3⟩ := h
  refine ⟨fun w hw h9 => ?_, ?_, ?_⟩
  · rw [e1, e3 w hw]; exact h1 w hw h9
  · rw [e1]; exact h2
  · rw [e2, e5]; exact h3
theorem NP_up {f : Nat → Int32} (h : NP f n) (hn : n ≤ d) : NP f d := ⟨h.1, ⟨h.2.1.1, by have := h.2.1.2; omega⟩, h.2.2⟩
theorem DP_up (h : DP S T r n) (hn : n ≤ d) : DP S T r d := ⟨h.1, NP_up h.2.1 hn, h.2.2⟩
theorem TK_f (h : TK S T) (e1 : ∀ g, g < 5 → S'.1 (12, 0, 0) g = S.1 (12, 0, 0) g) (e2 : ∀ g, g < 5 → T'.1 (11, 4, 0) (g + 2) = T.1 (11, 4, 0) (g + 2)) : TK S' T' := ⟨fun g hg => by rw [e1 g hg, e2 g hg]; exact h.1 g hg, NK_congr h.2 e1⟩
/-- what the scanners leave of the draft -/
theorem DI_f (h : DI e S T a b) (hR : RS e S' T') (hE : Ef S S') (hD : Df T T') (h0 : S'.1 (1, 0, 0) 8 = 0 → S.1 (1, 0, 0) 8 = 0) : DI e S' T' a b := by
  refine ⟨hR, Eok_Ef h.2.1 hE, Dok_Df h.2.2.1 hD, fun hg => ?_⟩
  obtain ⟨t1, t2, t3⟩ := h.2.2.2 (h0 hg)
  have m4 := hD.1 (11, 4, 0) (by simp)
  have m9 := hD.2.2.1 (11, 9, 0) (by simp)
  exact ⟨TK_f t1 (fun g _ => by rw [hE.1 _ (by simp)]) (fun g _ => by rw [m4]), fun r hr => DH_f (t2 r hr) (hE.1 _ (by simp)) (hE.2.2.1 _ (by simp)) (by rw [m4]) (by rw [m4]) (by rw [m9]), fun r hr => DP_f (t3 r hr) (hE.1 _ (by simp)) (hE.2.2.1 _ (by simp)) (fun w _ => by rw [m4]) (by rw [m9])⟩
theorem fH_eq (h : RS e S T) (h0 : S.1 (1, 0, 0) 8 = 0) (h3 : S.1 (1, 0, 0) 3 = 1) (hn : ∀ r, r < a → NmP (S.2.1 (16, 0, r) 0) (T.2.1 (11, 9, 0) (96 + r))) : fHc S a = fdH T a := by
  unfold fHc fdH
  exact fdN_congr a 0 (fun q hq => NmP_inj (hn q (by omega)) (RS_nm h h0 h3))
theorem fP_eq (h : RS e S T) (h0 : S.1 (1, 0, 0) 8 = 0) (h3 : S.1 (1, 0, 0) 3 = 1) (hn : ∀ r, r < a → NmP (S.2.1 (17, 0, r) 0) (T.2.1 (11, 9, 0) (102 + r))) : fPc S a = fdP T a := by
  unfold fPc fdP
  exact fdN_congr a 0 (fun q hq => NmP_inj (hn q (by omega)) (RS_nm h h0 h3))
theorem mkC_gd (h : (mkC S).1 (1, 0, 0) 8 = 0) : S.1 (1, 0, 0) 8 = 0 ∧ S.1 (1, 0, 0) 3 = 1 ∧ mkC S = S := by
  have h1 := rqC_gd (by decide) (gcI h)
  exact ⟨gcE h1.1, of_decide_eq_true h1.2, rqC_same h1.2⟩
theorem goC_8 : (goC S e).1 (1, 0, 0) 8 = S.1 (1, 0, 0) 8 := by
  by_cases h0 : S.1 (1, 0, 0) 8 = 0
  · unfold goC; rw [if_pos h0]; exact tkC_8
  · rw [goC_dead h0]
theorem ahF_8 {cp bl : Int32} : (ahF S 0 a w cp bl).1 (1, 0, 0) = S.1 (1, 0, 0) := by
  unfold ahF
  rw [upI_fun' _ _ _ (by simp), upI_fun' _ _ _ (by simp), upI_fun' _ _ _ (by simp)]
  rfl
theorem hw_DI {cp bl : Int32} (r6 : RS e V W) (eE6 : Ef S V) (eD6 : Df T W) (hE : Eok S a b) (hD : Dok T a b) (ha : a < 6) (t1 : TK S T) (t2 : ∀ h, h < a → DH S T h) (t3 : ∀ p, p < b → DP S T p a) (hnm : NmP w w') (hb : 0 ≤ bl.toInt ∧ bl.toInt ≤ 99999) : DI e (ahF V 0 a w cp bl) (hsW W a w' cp bl) (a + 1) b := by
  refine ⟨?_, ?_, ?_, fun _ => ⟨?_, fun r hr => ?_, fun r hr => ?_⟩⟩
  · refine RS_C (RS_M r6 ?_ ?_ ?_) ahF_8 ?_ ?_
    · unfold hsW; rw [upI_fun' _ _ _ (by simp), upI_fun' _ _ _ (by simp), upI_fun' _ _ _ (by simp)]; rfl
    · unfold hsW; rw [upI_fun' _ _ _ (by simp), upI_fun' _ _ _ (by simp), upI_fun' _ _ _ (by simp)]; rfl
    · unfold hsW; exact upJ_fun2 (by simp)
    · unfold ahF; rw [upI_fun' _ _ _ (by simp), upI_fun' _ _ _ (by simp), upI_fun' _ _ _ (by simp)]; rfl
    · unfold ahF; exact upJ_fun2 (by simp)
  · have hE6 := Eok_Ef hE eE6
    refine ⟨?_, by omega, ?_, hE6.2.2.2⟩
    · unfold ahF; rw [upI_1, if_pos ⟨rfl, rfl⟩]
    · unfold ahF
      rw [upI_1, if_neg (by simp), upI_1, if_neg (by simp), upI_1, if_neg (by simp), upJ_1]
      exact hE6.2.2.1
  · have hD6 := Dok_Df hD eD6
    refine ⟨?_, by omega, ?_, hD6.2.2.2⟩
    · unfold hsW; rw [upI_1, if_pos ⟨rfl, rfl⟩]
    · unfold hsW
      rw [upI_1, if_neg (by simp), upI_1, if_neg (by simp <;> omega), upI_1, if_neg (by simp <;> omega), upJ_1]
      exact hD6.2.2.1
  · refine TK_f t1 (fun g hg => ?_) (fun g hg => ?_)
    · unfold ahF
      rw [upI_1, if_neg (by simp <;> omega), upI_1, if_neg (by simp), upI_1, if_neg (by simp), upJ_1, eE6.1 _ (by simp)]
    · unfold hsW
      rw [upI_1, if_neg (by simp), upI_1, if_neg (by simp <;> omega), upI_1, if_neg (by simp <;> omega), upJ_1, eD6.1 _ (by simp)]
  · by_cases hra : r = a
    · subst hra
      refine ⟨?_, ?_, ?_, ?_⟩
      · unfold ahF hsW
        rw [upI_1, if_neg (by simp), upI_1, if_neg (by simp), upI_1, if_pos ⟨rfl, rfl⟩, upI_1, if_neg (by simp), upI_1, if_neg (by simp), upI_1, if_pos ⟨rfl, rfl⟩]
      · unfold ahF hsW
        rw [upI_1, if_neg (by simp), upI_1, if_pos ⟨rfl, rfl⟩, upI_1, if_neg (by simp), upI_1, if_pos ⟨rfl, rfl⟩]
      · unfold ahF
        rw [upI_1, if_neg (by simp), upI_1, if_pos ⟨rfl, rfl⟩]
        exact hb
      · unfold ahF hsW
        show NmP ((upJ V (16, 0, r) 0 w).2.1 (16, 0, r) 0) ((upJ W (11, 9, 0) (96 + r) w').2.1 (11, 9, 0) (96 + r))
        rw [upJ_2, if_pos ⟨rfl, rfl⟩, upJ_2, if_pos ⟨rfl, rfl⟩]
        exact hnm
    · refine DH_f (t2 r (by omega)) ?_ ?_ ?_ ?_ ?_
      · unfold ahF
        rw [upI_fun' _ _ _ (by simp), upI_fun' _ _ _ (by simp; exact hra), upI_fun' _ _ _ (by simp; exact hra)]
        exact eE6.1 _ (by simp)
      · unfold ahF
        show (upJ V (16, 0, a) 0 w).2.1 (16, 0, r) = _
        rw [upJ_fun2 (by simp <;> omega)]
        exact eE6.2.2.1 _ (by simp)
      · unfold hsW
        rw [upI_1, if_neg (by simp), upI_1, if_neg (by simp <;> omega), upI_1, if_neg (by simp <;> omega), upJ_1, eD6.1 _ (by simp)]
      · unfold hsW
        rw [upI_1, if_neg (by simp), upI_1, if_neg (by simp <;> omega), upI_1, if_neg (by simp <;> omega), upJ_1, eD6.1 _ (by simp)]
      · unfold hsW
        show (upJ W (11, 9, 0) (96 + a) w').2.1 (11, 9, 0) (96 + r) = _
        rw [upJ_2, if_neg (by simp <;> omega), eD6.2.2.1 _ (by simp)]
  · refine DP_f (DP_up (t3 r hr) (by omega)) ?_ ?_ (fun w hw => ?_) ?_
    · unfold ahF
      rw [upI_fun' _ _ _ (by simp), upI_fun' _ _ _ (by simp), upI_fun' _ _ _ (by simp)]
      exact eE6.1 _ (by simp)
    · unfold ahF
      show (upJ V (16, 0, a) 0 w).2.1 (17, 0, r) = _
      rw [upJ_fun2 (by simp)]
      exact eE6.2.2.1 _ (by simp)
    · unfold hsW
      rw [upI_1, if_neg (by simp <;> omega), upI_1, if_neg (by simp <;> omega), upI_1, if_neg (by simp <;> omega), upJ_1, eD6.1 _ (by simp)]
    · unfold hsW
      show (upJ W (11, 9, 0) (96 + a) w').2.1 (11, 9, 0) (102 + r) = _
      rw [upJ_2, if_neg (by simp <;> omega), eD6.2.2.1 _ (by simp)]
theorem hd_DI (h : DI e S T a b) : ∃ a', DI e (hdF S e a) (hsF T e a) a' b := by
  obtain ⟨hR, hE, hD, hI⟩ := h
  have r1 : RS e (hc1 S e a) (hs1 T e a) := RS_go (RS_rq hR (by decide) (fun _ => rfl))
  have r2 : RS e (mkC (hc1 S e a)) (mk1 (hs1 T e a)) := RS_mk r1
  have eE : Ef S (mkC (hc1 S e a)) := (rqC_Ef.trans goC_Ef).trans mkC_Ef
  have eD : Df T (mk1 (hs1 T e a)) := (muF_Df.trans goF_Df).trans mk1_Df
  have r3 : RS e (hc3 S e a) (hs3 T e a) := by
    refine RS_rq r2 (by decide) (fun h0 => ?_)
    have hm := mkC_gd h0
    have hm1 := hm.1
    unfold hc1 at hm1
    have h00 : S.1 (1, 0, 0) 8 = 0 := gcE (rqC_gd (v := 5) (by decide) (goC_gd (gcI hm1))).1
    have h3 : (mkC (hc1 S e a)).1 (1, 0, 0) 3 = 1 := by rw [hm.2.2]; exact hm.2.1
    rw [fH_eq r2 h0 h3 (fun r hr => by rw [eE.2.2.1 _ (by simp), eD.2.2.1 _ (by simp)]; exact ((hI h00).2.1 r hr).2.2.2)]
  have r4 : RS e (hc4 S e a) (hs4 T e a) := RS_go r3
  have r5 : RS e (hc5 S e a) (hs5 T e a) := RS_rn r4 RS_lit
  have r6 : RS e (hc6 S e a) (hs6 T e a) := RS_rn r5 RS_lit
  have eE6 : Ef S (hc6 S e a) := ((eE.trans rqC_Ef).trans goC_Ef).trans (rnC_Ef.trans rnC_Ef)
  have eD6 : Df T (hs6 T e a) := ((eD.trans muF_Df).trans goF_Df).trans (rnF_Df.trans rnF_Df)
  unfold hdF hsF
  by_cases h0 : (hc6 S e a).1 (1, 0, 0) 8 = 0
  · rw [if_pos (gcI h0), if_pos (gdI (r6.2.2.2.1.trans h0))]
    have h0' := h0
    unfold hc6 at h0'
    have v5 := RS_val r5 RS_lit h0'
    have v51 := v5.1
    unfold hc5 at v51
    have v4 := RS_val r4 RS_lit v51
    have v41 := v4.1
    unfold hc4 at v41
    have g3 : (hc3 S e a).1 (1, 0, 0) 8 = 0 := goC_8.symm.trans v41
    have g3' := g3
    unfold hc3 at g3'
    have q3 := rqC_gd (v := 3) (by decide) (gcI g3')
    have hm := mkC_gd (gcE q3.1)
    have hm1 := hm.1
    unfold hc1 at hm1
    have g1 := rqC_gd (v := 5) (by decide) (goC_gd (gcI hm1))
    have h00 : S.1 (1, 0, 0) 8 = 0 := gcE g1.1
    have ha : a < 6 := of_decide_eq_true g1.2
    have e33 : hc3 S e a = hc1 S e a := by unfold hc3; exact (rqC_same q3.2).trans hm.2.2
    have hnm : NmP ((hc3 S e a).2.1 (1, 0, 0) 4) ((hs3 T e a).2.1 (8, 0, 0) 22) := RS_nm r3 g3 (by rw [e33]; exact hm.2.1)
    obtain ⟨t1, t2, t3⟩ := hI h00
    have q1 := v4.2.1
    have q2 := v5.2.1
    have q3' := v5.2.2
    have i0 : (0 : Int32).toInt = 0 := rfl
    have i9 : (99999 : Int32).toInt = 99999 := rfl
    rw [i0, i9] at q3'
    rw [q1, q2]
    refine ⟨a + 1, ?_⟩
    generalize (hc4 S e a).1 (1, 0, 0) 5 = cp at *
    generalize (hc5 S e a).1 (1, 0, 0) 5 = bl at *
    generalize (hc3 S e a).2.1 (1, 0, 0) 4 = nv at *
    generalize (hs3 T e a).2.1 (8, 0, 0) 22 = nw at *
    generalize hc6 S e a = V at *
    generalize hs6 T e a = W at *
    exact hw_DI r6 eE6 eD6 hE hD ha t1 t2 t3 hnm q3'
  · have hn : ¬ gC0 (hc6 S e a) = true := fun e => h0 (gcE e)
    have hn2 : ¬ gd (hs6 T e a) = true := fun e => h0 (r6.2.2.2.1.symm.trans (gdE e))
    rw [if_neg hn, if_neg hn2]
    exact ⟨a, r6, Eok_Ef hE eE6, Dok_Df hD eD6, fun e => absurd e h0⟩
theorem hdF_Rf : Zf S (hdF S e a) := by
  have eE6 : Ef S (hc6 S e a) := ((((rqC_Ef.trans goC_Ef).trans mkC_Ef).trans rqC_Ef).trans goC_Ef).trans (rnC_Ef.trans rnC_Ef)
  unfold hdF
  split
  · unfold ahF
    exact ((((Zf_E eE6).trans (Zf_j ⟨rfl, Or.inl rfl⟩)).trans (Zf_i ⟨rfl, Or.inr (Or.inl ⟨rfl, by decide⟩)⟩)).trans (Zf_i ⟨rfl, Or.inr (Or.inl ⟨rfl, by decide⟩)⟩)).trans (Zf_i ⟨rfl, Or.inl ⟨rfl, Or.inr (by decide)⟩⟩)
  · exact Zf_E eE6
theorem hsF_Mp (ha : a ≤ 6) : Mp T (hsF T e a) := by
  unfold hsF
  by_cases hg : gd (hs6 T e a) = true
  · have ha := (hs6_gd hg).2.2.1
    rw [if_pos hg]
    unfold hsW
    exact ((((Mp_D hs6_Df).trans (Mp_j (by omega))).trans (Mp_i (fun e => by unfold Zp at e; omega))).trans (Mp_i (fun e => by unfold Zp at e; omega))).trans (Mp_i (fun e => by unfold Zp at e; omega))
  · rw [if_neg hg]; exact Mp_D hs6_Df
end PH1
