section PO1
variable {n k p i h z m u f s c d x j e a b g r y : Nat} {S S' T T' U V R : St} {q v lo hi lo' hi' : Int32} {w w' : Int64} {cc cd : Bool} {o : Ob}
/-! STATEMENTS AND THEIR LOOP -/
theorem of_DI (h : DI e S T a b) : DI e (ofC S e b) (ofFn T e b) a b ∧ Zf S (ofC S e b) ∧ Mp T (ofFn T e b) := by
  have hh := h
  obtain ⟨hR, hE, hD, hI⟩ := h
  have r2 : RS e (oc2 S e) (of2 T e) := RS_mk (RS_go hR)
  have eE : Ef S (oc2 S e) := oc2_Ef
  have eD : Df T (of2 T e) := of2_Df
  have g2 : (oc2 S e).1 (1, 0, 0) 8 = 0 → S.1 (1, 0, 0) 8 = 0 ∧ (oc2 S e).1 (1, 0, 0) 3 = 1 := fun e0 => by
    have hm := mkC_gd e0
    exact ⟨goC_8.symm.trans hm.1, by unfold oc2; rw [hm.2.2]; exact hm.2.1⟩
  unfold ofC ofFn of5
  generalize oc2 S e = X at *
  generalize of2 T e = Y at *
  by_cases h0 : X.1 (1, 0, 0) 8 = 0
  · obtain ⟨h00, h3⟩ := g2 h0
    obtain ⟨t1, t2, t3⟩ := hI h00
    have hn : ∀ r, r < b → NmP (X.2.1 (17, 0, r) 0) (Y.2.1 (11, 9, 0) (102 + r)) := fun r hr => by rw [eE.2.2.1 _ (by simp), eD.2.2.1 _ (by simp)]; exact (t3 r hr).2.2
    have ef : fPc X b = fdP Y b := fP_eq r2 h0 h3 hn
    rw [ef]
    cases ho : fdP Y b with
    | none =>
      have r4 : RS e (of4C X none) (oc4 Y none) := RS_rq (RS_rq r2 (by decide) (fun _ => rfl)) (by decide) (fun _ => rfl)
      have E1 : Ef S (goC (of4C X none) e) := (eE.trans (rqC_Ef.trans rqC_Ef)).trans goC_Ef
      have D1 : Df T (goF (oc4 Y none) e) := (eD.trans (muF_Df.trans muF_Df)).trans goF_Df
      exact ⟨DI_f hh (RS_go r4) E1 D1 (fun _ => h00), Zf_E E1, Mp_D D1⟩
    | some r =>
      have hr := fdP_lt ho
      have dp := t3 r hr
      have eon : onC X (some r) = ocC Y (some r) := by
        have e1 : X.1 (17, 0, r) 11 = Y.1 (11, 4, 0) (36 + 11 * r + 10) := by
          rw [eE.1 _ (by simp), eD.1 _ (by simp)]
          exact dp.1 10 (by decide) (by decide)
        have e2 : X.1 (17, 0, r) 11 = 0 ∨ X.1 (17, 0, r) 11 = 1 := by
          rw [eE.1 _ (by simp)]
          exact dp.2.1.1
        show (!decide (X.1 (17, 0, r) 11 = 0)) = decide (Y.1 (11, 4, 0) (36 + 11 * r + 10) = 1)
        rw [← e1]
        rcases e2 with e2 | e2
        · rw [e2]; decide
        · rw [e2]; decide
      have r4 : RS e (of4C X (some r)) (oc4 Y (some r)) := RS_rq (RS_rq r2 (by decide) (fun _ => eon)) (by decide) (fun _ => rfl)
      have E4 : Ef S (of4C X (some r)) := eE.trans (rqC_Ef.trans rqC_Ef)
      have D4 : Df T (oc4 Y (some r)) := eD.trans (muF_Df.trans muF_Df)
      have e5 : oc5 Y (some r) = if gd (oc4 Y (some r)) = true then upI (oc4 Y (some r)) (11, 4, 0) (36 + 11 * r + 10) 0 else oc4 Y (some r) := rfl
      have e6 : ∀ Z : St, of5C Z (some r) = if gC0 Z = true then upI Z (17, 0, r) 11 0 else Z := fun _ => rfl
      rw [e5, e6]
      clear e5 e6
      generalize of4C X (some r) = V at *
      generalize oc4 Y (some r) = W at *
      by_cases h4 : V.1 (1, 0, 0) 8 = 0
      · have hg1 : gC0 (goC V e) = true := gcI (goC_8.trans h4)
        have hg2 : gd W = true := gdI (r4.2.2.2.1.trans h4)
        rw [if_pos hg1, if_pos hg2]
        have E5 : Ef S (goC V e) := E4.trans goC_Ef
        have b12 := hE.2.2.2
        have m4 : (goF (upI W (11, 4, 0) (36 + 11 * r + 10) 0) e).1 (11, 4, 0) = (upI W (11, 4, 0) (36 + 11 * r + 10) 0).1 (11, 4, 0) := goF_Df.1 _ (by simp)
        have m9 : (goF (upI W (11, 4, 0) (36 + 11 * r + 10) 0) e).2.1 (11, 9, 0) = T.2.1 (11, 9, 0) := (goF_Df.2.2.1 _ (by simp)).trans (D4.2.2.1 _ (by simp))
        have M4 : ∀ j, j ≠ 36 + 11 * r + 10 → (upI W (11, 4, 0) (36 + 11 * r + 10) 0).1 (11, 4, 0) j = T.1 (11, 4, 0) j := fun j hj => by rw [upI_1, if_neg (fun e => hj e.2), D4.1 _ (by simp)]
        refine ⟨⟨RS_Ci (RS_go (RS_Mi r4 (by simp) (by simp))) (by simp) (by simp), ?_, ?_, fun _ => ⟨?_, fun i hi => ?_, fun i hi => ?_⟩⟩, ?_, ?_⟩
        · exact Eok_En (Eok_Ef hE E5) En_p
        · refine Dok_Df ?_ goF_Df
          have := Dok_Df hD D4
          refine ⟨?_, this.2.1, ?_, this.2.2.2⟩
          · rw [upI_1, if_neg (by simp <;> omega)]; exact this.1
          · rw [upI_1, if_neg (by simp <;> omega)]; exact this.2.2.1
        · refine TK_f t1 (fun g hg => ?_) (fun g hg => ?_)
          · rw [upI_1, if_neg (by simp), E5.1 _ (by simp)]
          · rw [m4]; exact M4 _ (by omega)
        · have := hE.2.1
          refine DH_f (t2 i hi) ?_ ?_ ?_ ?_ ?_
          · rw [upI_fun' _ _ _ (by simp)]; exact E5.1 _ (by simp)
          · exact E5.2.2.1 _ (by simp)
          · rw [m4]; exact M4 _ (by omega)
          · rw [m4]; exact M4 _ (by omega)
          · rw [m9]
        · by_cases hir : i = r
          · subst hir
            have e17 : (goC V e).1 (17, 0, i) = S.1 (17, 0, i) := E5.1 _ (by simp)
            refine ⟨fun w hw h9 => ?_, ?_, ?_⟩
            · rw [m4, upI_1]
              by_cases h10 : w = 10
              · subst h10
                rw [if_pos ⟨rfl, rfl⟩, upI_1, if_pos ⟨rfl, rfl⟩]
              · rw [if_neg (fun e => by have := e.2; omega), M4 _ (by omega), e17]
                exact dp.1 w hw h9
            · refine NP_11 ?_ (Or.inl rfl)
              rw [e17]; exact dp.2.1
            · rw [m9]
              show NmP ((goC V e).2.1 (17, 0, i) 0) _
              rw [E5.2.2.1 _ (by simp)]
              exact dp.2.2
          · refine DP_f (t3 i hi) ?_ ?_ (fun w hw => ?_) ?_
            · rw [upI_fun' _ _ _ (by simp <;> omega)]; exact E5.1 _ (by simp)
            · exact E5.2.2.1 _ (by simp)
            · rw [m4]; exact M4 _ (by omega)
            · rw [m9]
        · exact (Zf_E E5).trans (Zf_i ⟨rfl, Or.inr (Or.inr ⟨rfl, by decide⟩)⟩)
        · exact ((Mp_D D4).trans (Mp_i (fun e => by unfold Zp at e; omega))).trans (Mp_D goF_Df)
      · have hg1 : ¬ gC0 (goC V e) = true := fun e0 => h4 (goC_8.symm.trans (gcE e0))
        have hg2 : ¬ gd W = true := fun e0 => h4 (r4.2.2.2.1.symm.trans (gdE e0))
        rw [if_neg hg1, if_neg hg2]
        exact ⟨DI_f hh (RS_go r4) (E4.trans goC_Ef) (D4.trans goF_Df) (fun _ => h00), Zf_E (E4.trans goC_Ef), Mp_D (D4.trans goF_Df)⟩
  · have h20 : Y.1 (8, 0, 0) 20 ≠ 0 := by rw [r2.2.2.2.1]; exact h0
    have c4 : ∀ o, of4C X o = X := fun o => by unfold of4C; rw [rqC_dead h0, rqC_dead h0]
    have c5 : ∀ o, of5C X o = X := fun o => by
      cases o with
      | none => rfl
      | some r => exact if_neg (fun e => h0 (gcE e))
    have d4 : ∀ o, oc4 Y o = Y := fun o => by unfold oc4; rw [muF_dead h20, muF_dead h20]
    have d5 : ∀ o, oc5 Y o = Y := fun o => by
      cases o with
      | none => exact d4 none
      | some r =>
        show (if gd (oc4 Y (some r)) = true then upI (oc4 Y (some r)) (11, 4, 0) (36 + 11 * r + 10) 0 else oc4 Y (some r)) = Y
        rw [d4, if_neg (fun e => h20 (gdE e))]
    rw [c4, goC_dead h0, c5, d5, goF_dead h20]
    exact ⟨DI_f hh r2 eE eD (fun e0 => absurd e0 h0), Zf_E eE, Mp_D eD⟩
theorem st_DI (h : DI e S T a b) (h0 : S.1 (1, 0, 0) 8 = 0) : (∃ a' b', DI e (stC S e a b) (stF T e a b) a' b') ∧ Zf S (stC S e a b) ∧ Mp T (stF T e a b) := by
  have w1 := RS_wd (k := 1) h.1 (by decide) h0
  have w2 := RS_wd (k := 2) h.1 (by decide) h0
  have w3 := RS_wd (k := 3) h.1 (by decide) h0
  have fin : ∀ {X Y : St}, (∃ a' b', DI e X Y a' b') → Zf S X → Mp T Y → (∃ a' b', DI e (spC X e) (spF Y e) a' b') ∧ Zf S (spC X e) ∧ Mp T (spF Y e) := fun hx hr hm => by
    obtain ⟨a', b', hx⟩ := hx
    exact ⟨⟨a', b', DI_f hx (RS_sp hx.1) spC_Ef spF_Df (fun e => gcE (spC_gd (gcI e)))⟩, hr.trans (Zf_E spC_Ef), hm.trans (Mp_D spF_Df)⟩
  unfold stC stF st0C
  rw [← w1, ← w2, ← w3]
  by_cases c1 : wdC S 1 = true
  · rw [if_pos c1, if_pos c1]
    obtain ⟨a', ha⟩ := hd_DI h
    exact fin ⟨a', b, ha⟩ hdF_Rf (hsF_Mp h.2.1.2.1)
  · rw [if_neg c1, if_neg c1]
    by_cases c2 : wdC S 2 = true
    · rw [if_pos c2, if_pos c2]
      obtain ⟨b', hb⟩ := pr_DI h h0
      exact fin ⟨a, b', hb⟩ pcF_Rf pqFn_Mp
    · rw [if_neg c2, if_neg c2]
      have h3 : DI e (rqC S (wdC S 3) 1) (muF T (wdC S 3) 1) a b := DI_f h (RS_rq h.1 (by decide) (fun _ => rfl)) rqC_Ef muF_Df (fun _ => h0)
      obtain ⟨o1, o2, o3⟩ := of_DI h3
      exact fin ⟨a, b, o1⟩ ((Zf_E rqC_Ef).trans o2) ((Mp_D muF_Df).trans o3)
theorem ps_DI : ∀ (j : Nat) (S T : St), (∃ a b, DI e S T a b) → (∃ a b, DI e (psC e j S) (psL e j T) a b) ∧ Zf S (psC e j S) ∧ Mp T (psL e j T) := by
  intro j
  induction j with
  | zero => intro S T h; exact ⟨h, Zf.refl, Mp.refl⟩
  | succ j ih =>
    intro S T h
    obtain ⟨a, b, h⟩ := h
    rw [show psC e (j + 1) S = if S.1 (1, 0, 0) 8 = 0 ∧ S.1 (1, 0, 0) 3 ≠ 0 then psC e j (stC S e (nhC S) (npC S)) else S from rfl, show psL e (j + 1) T = if gd T ∧ T.1 (8, 0, 0) 18 ≠ 0 then psL e j (stF T e (nhR T) (npR T)) else T from rfl]
    by_cases h0 : S.1 (1, 0, 0) 8 = 0
    · have hg : gd T = true := gdI (h.1.2.2.2.1.trans h0)
      have hk := (h.1.2.2.2.2.2 h0).2.2.1
      by_cases h3 : S.1 (1, 0, 0) 3 = 0
      · rw [if_neg (fun e => e.2 h3), if_neg (fun e => e.2 (hk.symm.trans h3))]
        exact ⟨⟨a, b, h⟩, Zf.refl, Mp.refl⟩
      · rw [if_pos ⟨h0, h3⟩, if_pos ⟨hg, fun e => h3 (hk.trans e)⟩]
        have n1 := Eok_n h.2.1
        have n2 := Dok_n h.2.2.1
        rw [n1.1, n1.2, n2.1, n2.2]
        obtain ⟨s1, s2, s3⟩ := st_DI h h0
        obtain ⟨i1, i2, i3⟩ := ih _ _ s1
        exact ⟨i1, s2.trans i2, s3.trans i3⟩
    · rw [if_neg (fun e => h0 e.1), if_neg (fun e => h0 (h.1.2.2.2.1.symm.trans (gdE e.1)))]
      exact ⟨⟨a, b, h⟩, Zf.refl, Mp.refl⟩
theorem psL_more : ∀ (j : Nat) (T : St), Pok T e → (∃ a b, Dok T a b) → (gd T → e < posR T + j) → psL e (j + 1) T = psL e j T := by
  intro j
  induction j with
  | zero =>
    intro T hP hD hj
    have hn : ¬ gd T := fun h => by have := hj h; have := hP.2.2.2.1; omega
    exact if_neg (fun e => hn e.1)
  | succ j ih =>
    intro T hP hD hj
    rw [show psL e (j + 1 + 1) T = if gd T ∧ T.1 (8, 0, 0) 18 ≠ 0 then psL e (j + 1) (stF T e (nhR T) (npR T)) else T from rfl, show psL e (j + 1) T = if gd T ∧ T.1 (8, 0, 0) 18 ≠ 0 then psL e j (stF T e (nhR T) (npR T)) else T from rfl]
    by_cases hg : gd T ∧ T.1 (8, 0, 0) 18 ≠ 0
    · rw [if_pos hg, if_pos hg]
      obtain ⟨a, b, hD⟩ := hD
      have hn := Dok_n hD
      rw [hn.1, hn.2]
      exact ih (stF T e a b) (stF_ok hP) (stF_D hD) (fun h => by have := stF_up (a := a) (b := b) hP h; have := hj hg.1; omega)
    · rw [if_neg hg, if_neg hg]
theorem rl_up (hP : Pok T e) (hg : gd (rlkF T e) = true) : 1 ≤ posR (rlkF T e) := by
  have g6 := spF_gd hg
  have s : ∀ {T : St} {g : Nat} {lo hi : Int32}, Pok T e → (Pok (rdr T e g lo hi) e ∧ posR T ≤ posR (rdr T e g lo hi)) ∧ (gd (rdr T e g lo hi) → gd T) := fun {T g lo hi} hP => by
    refine ⟨⟨rdr_ok hP, ?_⟩, fun h => ?_⟩
    · unfold rdr
      rw [posR_up (by simp)]
      exact rnF_pos hP
    · have h1 : gd (rnF T e lo hi) = true := by
        have h2 := gdE h
        unfold rdr at h2
        rw [upI_1, if_neg (by simp)] at h2
        exact gdI h2
      exact (rnF_gd h1).1
  have o0 : Pok (rl0 T e) e := rl0_ok hP
  have s2 := s (g := 2) (lo := 1) (hi := 9999) o0
  have s3 := s (T := rl2 T e) (g := 3) (lo := 1) (hi := 100) s2.1.1
  have s4 := s (T := rl3 T e) (g := 4) (lo := 0) (hi := 99) s3.1.1
  have s5 := s (T := rl4 T e) (g := 5) (lo := 0) (hi := (rl4 T e).1 (11, 4, 0) 4) s4.1.1
  have s6 := s (T := rl5 T e) (g := 6) (lo := 0) (hi := 9) s5.1.1
  have g0 : gd (rl0 T e) = true := s2.2 (s3.2 (s4.2 (s5.2 (s6.2 g6))))
  have hw := (muF_gd (v := 1) (by decide) (goF_gd g0)).2
  have hp1 : 1 ≤ posR T := by
    unfold wdR at hw
    rw [Bool.and_eq_true, Bool.and_eq_true, Bool.and_eq_true] at hw
    have := of_decide_eq_true hw.2.2.1
    have h4 : 1 ≤ (strL 0).length := by decide
    omega
  have q0 : posR T ≤ posR (rl0 T e) := by
    have := goF_pos (muF_ok (c := wdR T 0) (v := 1) hP)
    rw [muF_pos] at this
    exact this
  have q6 := spF_pos s6.1.1
  have e6 : posR (rlkF T e) = posR (spF (rdr (rl5 T e) e 6 0 9) e) := rfl
  have t2 : posR (rl0 T e) ≤ posR (rl2 T e) := s2.1.2
  have t3 : posR (rl2 T e) ≤ posR (rl3 T e) := s3.1.2
  have t4 : posR (rl3 T e) ≤ posR (rl4 T e) := s4.1.2
  have t5 : posR (rl4 T e) ≤ posR (rl5 T e) := s5.1.2
  omega
end PO1
