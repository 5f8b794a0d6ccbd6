section PA9
variable {n nh t k p i h z m u f s c d x j e a b g r y pn pc fb fr : Nat} {S S' T T' U V R : St} {q v lo hi lo' hi' : Int32} {w w' : Int64} {cc cd : Bool} {o : Ob}
/-! PARSING -/
theorem rd0_o (h1 : o ≠ (1, 0, 0)) (h2 : o ≠ (12, 0, 0)) : (rd0 S e).1 o = S.1 o := by
  unfold rd0
  rw [upI_fun' _ _ _ h2, upI_fun' _ _ _ h2, upI_fun' _ _ _ h1, upI_fun' _ _ _ h1, upI_fun' _ _ _ h1, upI_fun' _ _ _ h1]
theorem rd0_Rdz (h : Rdz S) : Rdz (rd0 S e) := by
  have h1 : Rdz (upI (upI (upI (upI S (1, 0, 0) 1 (Int32.ofNat e)) (1, 0, 0) 7 0) (1, 0, 0) 2 0) (1, 0, 0) 8 0) := Rdz_x h (fun o ha _ => by
    have hn : o ≠ (1, 0, 0) := fun e => by rw [e] at ha; simp at ha
    refine ⟨?_, rfl⟩
    rw [upI_fun' _ _ _ hn, upI_fun' _ _ _ hn, upI_fun' _ _ _ hn, upI_fun' _ _ _ hn])
  exact Rdz_Zf h1 ((Zf_i ⟨rfl, Or.inl ⟨rfl, Or.inr (by decide)⟩⟩).trans (Zf_i ⟨rfl, Or.inl ⟨rfl, Or.inr (by decide)⟩⟩))
theorem rd0_8 : (rd0 S e).1 (1, 0, 0) 8 = 0 := by unfold rd0; rw [upI_1, if_neg (by simp), upI_1, if_neg (by simp), upI_1, if_pos ⟨rfl, rfl⟩]
theorem rd0_2 : (rd0 S e).1 (1, 0, 0) 2 = 0 := by unfold rd0; rw [upI_1, if_neg (by simp), upI_1, if_neg (by simp), upI_1, if_neg (by simp), upI_1, if_pos ⟨rfl, rfl⟩]
theorem rd0_7 : (rd0 S e).1 (1, 0, 0) 7 = 0 := by unfold rd0; rw [upI_1, if_neg (by simp), upI_1, if_neg (by simp), upI_1, if_neg (by simp), upI_1, if_neg (by simp), upI_1, if_pos ⟨rfl, rfl⟩]
theorem pa0_o (h1 : o ≠ (8, 0, 0)) (h2 : o ≠ (11, 4, 0)) : (pa0 T e).1 o = T.1 o := by
  unfold pa0
  rw [upI_fun' _ _ _ h1, upI_fun' _ _ _ h1, upI_fun' _ _ _ h1]
  unfold zJ
  rw [rwJ_1]
  unfold zI
  rw [rwI_fun' _ _ h2]
theorem pa0_J (h2 : o ≠ (11, 9, 0)) : (pa0 T e).2.1 o = T.2.1 o := by
  show (zJ (zI T 384) 114).2.1 o = _
  unfold zJ
  rw [rwJ_fun' _ _ h2]
  rfl
theorem pa0_8 (hg : g < 15 ∨ 22 ≤ g) : (pa0 T e).1 (8, 0, 0) g = T.1 (8, 0, 0) g := by
  unfold pa0
  rw [upI_1, if_neg (fun e => by have := e.2; omega), upI_1, if_neg (fun e => by have := e.2; omega), upI_1, if_neg (fun e => by have := e.2; omega)]
  unfold zJ
  rw [rwJ_1]
  unfold zI
  rw [rwI_fun' _ _ (by simp)]
theorem pa0_20 : (pa0 T e).1 (8, 0, 0) 20 = 0 := by unfold pa0; rw [upI_1, if_pos ⟨rfl, rfl⟩]
theorem pa0_4 (hj : j < 384) : (pa0 T e).1 (11, 4, 0) j = 0 := by
  unfold pa0
  rw [upI_fun' _ _ _ (by simp), upI_fun' _ _ _ (by simp), upI_fun' _ _ _ (by simp)]
  unfold zJ
  rw [rwJ_1]
  unfold zI
  rw [rwI_fun]
  exact if_pos hj
theorem pa0_9 (hj : j < 114) : (pa0 T e).2.1 (11, 9, 0) j = 0 := by
  show (zJ (zI T 384) 114).2.1 (11, 9, 0) j = _
  unfold zJ
  rw [rwJ_fun]
  exact if_pos hj
theorem pa_DI (he : e ≤ 700) (hB : BQ (S.1 (2, 0, 0)) (T.1 (11, 11, 0)) e) : (∃ a b, DI e (rd2 S e) (pa1 T e) a b) ∧ Zf (rd0 S e) (rd2 S e) ∧ Mp (pa0 T e) (pa1 T e) := by
  have k0 := rd0_ok (S := S) he
  have hB0 : BQ ((rd0 S e).1 (2, 0, 0)) ((pa0 T e).1 (11, 11, 0)) e := by rw [rd0_o (by simp) (by simp), pa0_o (by simp) (by simp)]; exact hB
  have c0 : (goC (rd0 S e) e).1 (1, 0, 0) 8 = 0 := goC_8.trans rd0_8
  have hsc : Df (pa0 T e) (scF (pa0 T e) e 0) := tkS_Df
  have hp0 : posC (rd0 S e) = 0 := by unfold posC; rw [rd0_2]; rfl
  have r0 : RS e (goC (rd0 S e) e) (scF (pa0 T e) e 0) := by
    refine ⟨goC_ok k0, pa0_ok he, ?_, ?_, fun e1 => absurd c0 e1, fun _ => ?_⟩
    · rw [goC_Ef.1 _ (by simp), hsc.1 _ (by simp)]; exact hB0
    · rw [scF_20, pa0_20, c0]
    · unfold goC
      rw [if_pos rd0_8, hp0]
      exact sc_tk he hB0 (Nat.zero_le e)
  have d1 : DI e (rd1 S e) (rlkF (scF (pa0 T e) e 0) e) 0 0 := DI_t r0 (Eok_Ef rd0_E goC_Ef) (Dok_Df pa0_D hsc)
  obtain ⟨l1, l2, l3⟩ := ps_DI e _ _ ⟨0, 0, d1⟩
  have hm : pa1 T e = psL e e (rlkF (scF (pa0 T e) e 0) e) := psL_more e _ d1.1.2.1 ⟨0, 0, d1.2.2.1⟩ (fun hg => by have := rl_up (pa0_ok he) hg; omega)
  rw [hm]
  exact ⟨l1, ((Zf_E goC_Ef).trans rtF_Rf).trans l2, ((Mp_D hsc).trans rlkF_Mp).trans l3⟩
theorem Lnr_0 (h : DI e S T a b) (h0 : S.1 (1, 0, 0) 8 = 0) (hz : Rdz S) (z4 : ∀ g, g < 384 → Zp g → T.1 (11, 4, 0) g = 0) (z9 : ∀ j, j < 96 → T.2.1 (11, 9, 0) j = 0) : Lnr 0 S (T.1 (11, 4, 0)) (T.2.1 (11, 9, 0)) b a 0 := by
  obtain ⟨hR, hE, hD, hI⟩ := h
  obtain ⟨⟨t1, t0⟩, t2, t3⟩ := hI h0
  obtain ⟨e1, e2, e3, e4⟩ := hE
  obtain ⟨a1, _, a3, _⟩ := hD
  obtain ⟨y1, y2, y3, y4⟩ := hz
  refine ⟨⟨fun g hg => ?_, fun h w hh hw => ?_, fun p w hp hw => ?_, fun p w hp hw => ?_, fun p w hp hw => ?_, fun p hp => ?_, fun q h hq hh => ?_, fun h hh => (t2 h hh).2.2.2, fun p hp => (t3 p hp).2.2⟩, Num_iff.mpr ⟨e4, e2, t0, fun p hp => (t3 p hp).2.1, fun h hh => ?_⟩, ⟨fun p hp w hw => ?_, fun h hh => ?_, fun z h hz hh => ?_⟩, ⟨e4, e2, by decide, e3, e1, ?_, fun p hp => ?_, fun p hp => (t3 p hp).2.1.2.2.1⟩, Or.inl (y4 8 (by decide) (by decide))⟩
  · rcases (show g = 0 ∨ g = 1 ∨ (2 ≤ g ∧ g < 7) ∨ 7 ≤ g by omega) with hh | hh | hh | hh
    · subst hh; exact e1.trans a1.symm
    · subst hh; exact e3.trans a3.symm
    · have := t1 (g - 2) (by omega)
      rw [show g - 2 + 2 = g by omega] at this
      rw [← this]
      unfold scI
      rw [if_neg (by omega)]
    · have : scI g = g - 2 := by unfold scI; rw [if_neg (by omega)]
      rw [this, y4 _ (by omega) (by omega), z4 g (by omega) (by unfold Zp; omega)]
  · rcases (show w = 0 ∨ w = 1 ∨ w = 2 ∨ w = 3 by omega) with e | e | e | e <;> subst e
    · exact (t2 h hh).1
    · exact (t2 h hh).2.1
    · rw [z4 _ (by omega) (by unfold Zp; omega)]; exact (y1 h (by omega)).1
    · rw [z4 _ (by omega) (by unfold Zp; omega)]; exact (y1 h (by omega)).2
  · by_cases e9 : w = 9
    · subst e9
      rw [z4 _ (by omega) (by unfold Zp; omega)]
      exact (y2 p (by omega)).1
    · exact (t3 p hp).1 w hw e9
  · rw [z4 _ (by omega) (by unfold Zp; omega)]
    exact (y2 p (by omega)).2.1 w hw
  · rw [z9 _ (by omega)]
    exact (y2 p (by omega)).2.2 w (by omega)
  · rw [z9 _ (by omega), z9 _ (by omega), (y2 p (by omega)).2.2 6 (by decide), (y2 p (by omega)).2.2 7 (by decide)]
    exact ⟨rfl, rfl⟩
  · rw [z4 _ (by omega) (by unfold Zp; omega)]
    exact y3 _ (by omega)
  · have := (t2 h hh).2.2.1
    omega
  · rw [(y2 p (by omega)).2.2 w (by omega)]
    exact ⟨by decide, by decide⟩
  · rw [(y1 h (by omega)).2]
    exact ⟨by decide, by decide⟩
  · rw [y3 _ (by omega)]
    exact ⟨by decide, by decide⟩
  · rw [y4 5 (by decide) (by decide)]; rfl
  · have := (t3 p hp).2.1.2.1
    exact ⟨this.1, by unfold hisF; omega⟩
theorem op_parse (h : InvP S T n nh t pn pc fb fr) (hy : y ≤ fb) : ((rd2 S y).1 (1, 0, 0) 8 ≠ 0 → InvP (rd2 S y) (paF (upI T (8, 0, 0) 12 0) y) n nh t pn pc 0 fr ∧ paV (upI T (8, 0, 0) 12 0) y = -2 - (8 * (rd2 S y).1 (1, 0, 0) 9 + (rd2 S y).1 (1, 0, 0) 8)) ∧ ((rd2 S y).1 (1, 0, 0) 8 = 0 → ∃ n' nh', Lok (rd2 S y) 0 n' nh' 0 ∧ Lob (rd2 S y) 0 n' ∧ paV (upI T (8, 0, 0) 12 0) y = Int32.ofNat n' ∧ InvP (paC (rd2 S y) n' nh') (paF (upI T (8, 0, 0) 12 0) y) n' nh' 0 pn 0 0 fr) := by
  obtain ⟨⟨hL, ht⟩, h0, h1, h2, h3, h4, h5⟩ := h
  obtain ⟨b1, b2, b3, b4, b5⟩ := h0
  have he : y ≤ 700 := by have := h3.1; omega
  have V11 : ∀ o : Ob, o ≠ (8, 0, 0) → (upI T (8, 0, 0) 12 0).1 o = T.1 o := fun o ho => upI_fun' _ _ _ ho
  have V8 : ∀ g, g ≠ 12 → (upI T (8, 0, 0) 12 0).1 (8, 0, 0) g = T.1 (8, 0, 0) g := fun g hg => by rw [upI_1, if_neg (fun e => hg e.2)]
  have VJ : (upI T (8, 0, 0) 12 0).2.1 = T.2.1 := rfl
  generalize upI T (8, 0, 0) 12 0 = V at *
  have hB : BQ (S.1 (2, 0, 0)) (V.1 (11, 11, 0)) y := fun i hi => by rw [V11 _ (by simp)]; exact h3.2.2.2 i (by omega)
  obtain ⟨⟨a, b, hDI⟩, hRf, hMp⟩ := pa_DI he hB
  have hz : Rdz (rd2 S y) := Rdz_Zf (rd0_Rdz h5) hRf
  have uo : ∀ o : Ob, o ≠ (1, 0, 0) → ¬ (o.2.1 = 0 ∧ (o.1 = 12 ∨ o.1 = 16 ∨ o.1 = 17)) → (rd2 S y).1 o = S.1 o ∧ (rd2 S y).2.1 o = S.2.1 o := fun o x1 x2 => by
    have := hRf.1 o x1 x2
    refine ⟨this.1.trans (rd0_o x1 (fun e => x2 (by rw [e]; simp))), this.2⟩
  have u7 : (rd2 S y).1 (1, 0, 0) 7 = 0 := hRf.2.2.2.2.trans rd0_7
  have uk : ∀ o : Ob, 12 ≤ o.1 → o.2.1 ≠ 0 → (rd2 S y).1 o = S.1 o ∧ (rd2 S y).2.1 o = S.2.1 o := fun o x1 x2 => uo o (fun e => by rw [e] at x1; simp at x1) (fun e => x2 e.1)
  have ud : ∀ a' b' : Nat, a' < 12 → a' ≠ 1 → (rd2 S y).1 (a', b', 0) = S.1 (a', b', 0) := fun a' b' x1 x2 => (uo (a', b', 0) (fun e => by injection e with e _; exact x2 e) (fun e => by obtain ⟨_, e⟩ := e; simp at e; omega)).1
  have mo : ∀ o : Ob, o ≠ (8, 0, 0) → o ≠ (11, 4, 0) → (pa2 V y).1 o = T.1 o := fun o x1 x2 => by
    unfold pa2
    rw [upI_fun' _ _ _ x1, hMp.1 o x1 x2, pa0_o x1 x2, V11 o x1]
  have mJ : ∀ o : Ob, o ≠ (8, 0, 0) → o ≠ (11, 9, 0) → (pa2 V y).2.1 o = T.2.1 o := fun o x1 x2 => by
    unfold pa2
    rw [upI_2, hMp.2.1 o x1 x2, pa0_J x2, VJ]
  have m8 : ∀ g, (g < 12 ∨ 24 ≤ g) → (pa2 V y).1 (8, 0, 0) g = T.1 (8, 0, 0) g := fun g x1 => by
    unfold pa2
    rw [upI_1, if_neg (fun e => by have := e.2; omega), hMp.2.2.1 g (by omega), pa0_8 (by omega), V8 g (by omega)]
  have m14 : (pa2 V y).1 (8, 0, 0) 14 = 0 := by unfold pa2; rw [upI_1, if_pos ⟨rfl, rfl⟩]
  have m4 : (pa2 V y).1 (11, 4, 0) = (pa1 V y).1 (11, 4, 0) := upI_fun' _ _ _ (by simp)
  have m9 : (pa2 V y).2.1 (11, 9, 0) = (pa1 V y).2.1 (11, 9, 0) := by unfold pa2; rw [upI_2]
  have z4 : ∀ g, g < 384 → Zp g → (pa1 V y).1 (11, 4, 0) g = 0 := fun g x1 x2 => (hMp.2.2.2.1 g x2).trans (pa0_4 x1)
  have z9 : ∀ j, j < 96 → (pa1 V y).2.1 (11, 9, 0) j = 0 := fun j x1 => (hMp.2.2.2.2 j x1).trans (pa0_9 (by omega))
  have hcode := hDI.1.2.2.2.1
  have hoff := hDI.1.2.2.2.2.1
  have hlnr := fun h0 => Lnr_0 hDI h0 hz z4 z9
  have hnp : (pa1 V y).1 (11, 4, 0) 1 = Int32.ofNat b := hDI.2.2.1.2.2.1
  clear hDI hMp hRf hB V11 V8 VJ
  unfold paF paV
  generalize rd2 S y = U at *
  rw [← m4] at hlnr
  rw [← m9] at hlnr
  refine ⟨fun h0 => ?_, fun h0 => ?_⟩
  · have hn : ¬ gd (pa1 V y) = true := fun e => h0 (hcode.symm.trans (gdE e))
    rw [if_neg hn, if_neg hn]
    refine ⟨⟨⟨?_, ht⟩, ⟨?_, b2, ?_, b4, ?_⟩, ?_, ?_, ?_, ?_, hz⟩, ?_⟩
    · exact Lnk_W (Lnk_x hL (fun o x1 x2 => uk o x1 (by omega))) ⟨fun j _ => by rw [mo _ (by simp) (by simp)], fun j _ => by rw [mJ _ (by simp) (by simp)]⟩
    · rw [ud 0 0 (by decide) (by decide)]; exact b1
    · rw [ud 0 0 (by decide) (by decide)]; exact b3
    · rw [m8 11 (by decide)]; exact b5
    · exact Und_m (Und_x h1 (fun o x1 x2 _ => uk o x1 (by omega))) (mo _ (by simp) (by simp)) (mJ _ (by simp) (by simp))
    · exact Snp_m (Snp_x h2 (ud 7 0 (by decide) (by decide)) (fun o x1 x2 => uk o x1 (by omega))) (mo _ (by simp) (by simp)) (mJ _ (by simp) (by simp)) (mo _ (by simp) (by simp))
    · exact ⟨by decide, u7, m14, fun i hi => absurd hi (Nat.not_lt_zero i)⟩
    · exact Rpt_x h4 (ud 3 0 (by decide) (by decide)) (ud 4 0 (by decide) (by decide)) (m8 28 (by decide)) (mo _ (by simp) (by simp))
    · rw [hcode, hoff h0]
  · rw [if_pos (gdI (hcode.trans h0)), if_pos (gdI (hcode.trans h0))]
    have hl := hlnr h0
    refine ⟨b, a, Lok_of hl, Lob_of hl, hnp, ?_⟩
    have hFr : Fr 1 U (lcF U 1 0 b a) := lcF_Fr
    have hEq : Eqk 1 0 U (lcF U 1 0 b a) b a := lcF_Eqk (by omega)
    have e0 : ∀ o : Ob, o.2.1 ≠ 1 ∨ o.1 < 12 → o ≠ (0, 0, 0) → o ≠ (7, 0, 0) → (paC U b a).1 o = U.1 o ∧ (paC U b a).2.1 o = U.2.1 o := fun o x1 x2 x3 => by
      unfold paC
      exact ⟨(upI_fun' _ _ _ x3).trans ((upI_fun' _ _ _ x3).trans ((upI_fun' _ _ _ x2).trans (hFr.1 o x1).1)), (hFr.1 o x1).2⟩
    have e12 : ∀ o : Ob, 12 ≤ o.1 → o.2.1 ≠ 1 → (paC U b a).1 o = U.1 o ∧ (paC U b a).2.1 o = U.2.1 o := fun o x1 x2 => e0 o (Or.inl x2) (fun e => by rw [e] at x1; simp at x1) (fun e => by rw [e] at x1; simp at x1)
    have ed : ∀ a' b' : Nat, 1 ≤ a' → a' < 12 → a' ≠ 7 → (paC U b a).1 (a', b', 0) = U.1 (a', b', 0) := fun a' b' x1 x2 x3 => (e0 (a', b', 0) (Or.inr x2) (fun e => by injection e with e _; omega) (fun e => by injection e with e _; omega)).1
    generalize hW : pa2 V y = W at *
    have hT0 : ∀ j, j < 384 → (pa3 W).1 (11, 0, 0) j = W.1 (11, 4, 0) j := fun j hj => by
      unfold pa3 cpJ cpI
      rw [upI_fun' _ _ _ (by simp), upI_fun' _ _ _ (by simp), upI_fun' _ _ _ (by simp), rwJ_1, rwI_fun, cpy_in (by omega) (by omega)]
      rw [Nat.sub_zero, Nat.zero_add]
    have hT5 : ∀ j, j < 114 → (pa3 W).2.1 (11, 5, 0) j = W.2.1 (11, 9, 0) j := fun j hj => by
      unfold pa3 cpJ cpI
      rw [upI_2, upI_2, upI_2, rwJ_fun, cpy_in (by omega) (by omega)]
      rw [Nat.sub_zero, Nat.zero_add]
      rfl
    have cT : ∀ o : Ob, o ≠ (11, 0, 0) → o ≠ (8, 0, 0) → o ≠ (11, 10, 0) → (pa3 W).1 o = W.1 o := fun o x1 x2 x3 => by
      unfold pa3 cpJ cpI
      rw [upI_fun' _ _ _ x3, upI_fun' _ _ _ x3, upI_fun' _ _ _ x2, rwJ_1, rwI_fun' _ _ x1]
    have cTJ : ∀ o : Ob, o ≠ (11, 5, 0) → (pa3 W).2.1 o = W.2.1 o := fun o x1 => by
      unfold pa3 cpJ cpI
      rw [upI_2, upI_2, upI_2, rwJ_fun' _ _ x1]
      rfl
    have cT8 : ∀ f, (pa3 W).1 (8, 0, 0) f = if f = 11 then 0 else W.1 (8, 0, 0) f := fun f => by
      unfold pa3 cpJ cpI
      rw [upI_fun' _ _ _ (by simp), upI_fun' _ _ _ (by simp), upI_1]
      by_cases e : f = 11
      · rw [if_pos ⟨rfl, e⟩, if_pos e]
      · rw [if_neg (fun e2 => e e2.2), if_neg e, rwJ_1, rwI_fun' _ _ (by simp)]
    have cT10 : ∀ j, j < 2 → (pa3 W).1 (11, 10, 0) j = 0 := fun j hj => by
      unfold pa3
      rw [upI_1, upI_1]
      rcases (show j = 0 ∨ j = 1 by omega) with e | e <;> subst e
      · rw [if_neg (by simp), if_pos ⟨rfl, rfl⟩]
      · rw [if_pos ⟨rfl, rfl⟩]
    have c7 : ∀ j, j < 2 → (paC U b a).1 (7, 0, 0) j = 0 := fun j hj => by
      unfold paC
      rw [upI_1, upI_1]
      rcases (show j = 0 ∨ j = 1 by omega) with e | e <;> subst e
      · rw [if_neg (by simp), if_pos ⟨rfl, rfl⟩]
      · rw [if_pos ⟨rfl, rfl⟩]
    have hnew : Lnr 1 (paC U b a) ((pa3 W).1 (11, 0, 0)) ((pa3 W).2.1 (11, 5, 0)) b a 0 := by
      have q := Lnr_Eqk hl hEq hT0 hT5
      refine Lnr_Eqk q (Eqk_of (fun o ho x1 _ => ?_) (fun o ho x1 _ => rfl)) (fun _ _ => rfl) (fun _ _ => rfl)
      have n7 : o ≠ (7, 0, 0) := fun e => by rw [e] at x1; simp at x1
      have n0 : o ≠ (0, 0, 0) := fun e => by rw [e] at x1; simp at x1
      unfold paC
      rw [upI_fun' _ _ _ n7, upI_fun' _ _ _ n7, upI_fun' _ _ _ n0]
    refine ⟨⟨hnew, by omega⟩, ⟨?_, b2, ?_, by omega, ?_⟩, fun j hj => absurd hj (Nat.not_lt_zero j), fun j hj => ?_, ?_, ?_, ?_⟩
    · unfold paC
      rw [upI_fun' _ _ _ (by simp), upI_fun' _ _ _ (by simp), upI_1, if_neg (by simp), (hFr.1 (0, 0, 0) (Or.inr (by simp))).1, ud 0 0 (by decide) (by decide)]
      exact b1
    · unfold paC
      rw [upI_fun' _ _ _ (by simp), upI_fun' _ _ _ (by simp), upI_1, if_pos ⟨rfl, rfl⟩]
      rfl
    · rw [cT8, if_pos rfl]; rfl
    · rw [c7 j hj, cT10 j hj]
      exact ⟨Or.inl rfl, rfl, fun e => absurd e (by decide)⟩
    · refine ⟨by decide, ?_, ?_, fun i hi => absurd hi (Nat.not_lt_zero i)⟩
      · rw [ed 1 0 (by decide) (by decide) (by decide)]; exact u7
      · rw [cT8, if_neg (by decide)]; exact m14
    · exact Rpt_x h4 ((ed 3 0 (by decide) (by decide) (by decide)).trans (ud 3 0 (by decide) (by decide))) ((ed 4 0 (by decide) (by decide) (by decide)).trans (ud 4 0 (by decide) (by decide))) (by rw [cT8, if_neg (by decide)]; exact m8 28 (by decide)) ((cT _ (by simp) (by simp) (by simp)).trans (mo _ (by simp) (by simp)))
    · exact Rdz_x hz (fun o x1 x2 => e12 o x1 (by omega))
end PA9
