section R19
variable {sx : xSx} {s0 n nh t e p f k g a b : Nat} {S T U : St} {m : Nat × Nat × Nat} {q v z lo hi : Int32} {w : Int64}
def nhR (S : St) : Nat := (S.1 (11, 4, 0) 0).toNatClampNeg
def npR (S : St) : Nat := (S.1 (11, 4, 0) 1).toNatClampNeg
theorem Dok_n (h : Dok S a b) : nhR S = a ∧ npR S = b := by
  obtain ⟨h1, h2, h3, h4⟩ := h
  unfold nhR npR
  rw [h1, h3, oN_clamp (by omega), oN_clamp (by omega)]
  exact ⟨rfl, rfl⟩
theorem hsF_D (hD : Dok S a b) : ∃ a' b', Dok (hsF S e a) a' b' := by
  have h6 : Dok (hs6 S e a) a b := Dok_Df hD hs6_Df
  unfold hsF
  by_cases hg : gd (hs6 S e a)
  · have ha := (hs6_gd hg).2.2.1
    rw [if_pos hg]
    refine ⟨a + 1, b, ?_, by omega, ?_, h6.2.2.2⟩
    · unfold hsW; rw [upI_1, if_pos ⟨rfl, rfl⟩]
    · unfold hsW
      rw [upI_1, if_neg (by simp), upI_1, if_neg (by simp), upI_1, if_neg (by simp; omega), upJ_1]
      exact h6.2.2.1
  · rw [if_neg hg]; exact ⟨a, b, h6⟩
theorem pqFn_D (hD : Dok S a b) : ∃ a' b', Dok (pqFn S e a b) a' b' := by
  have h6 : Dok (pq13 S e a b) a b := Dok_Df hD pq13_Df
  unfold pqFn
  by_cases hg : gd (pq13 S e a b)
  · have hb := (pq13_gd hg).2.2.1
    rw [if_pos hg]
    refine ⟨a, b + 1, ?_, h6.2.1, ?_, by omega⟩
    · unfold pqW
      generalize pq13 S e a b = V at *
      simp [upI_1, upJ_1, h6.1]
      omega
    · unfold pqW; rw [upI_1, if_pos ⟨rfl, rfl⟩]
  · rw [if_neg hg]; exact ⟨a, b, h6⟩
theorem ofFn_D (hD : Dok S a b) : ∃ a' b', Dok (ofFn S e b) a' b' := by
  have h4 : Dok (of4 S e b) a b := Dok_Df hD of4_Df
  refine ⟨a, b, Dok_Df ?_ goF_Df⟩
  unfold of4 at h4
  unfold of5
  cases ho : fdP (of2 S e) b with
  | none => rw [ho] at h4; exact h4
  | some k =>
    rw [ho] at h4
    rw [show oc5 (of2 S e) (some k) = if gd (oc4 (of2 S e) (some k)) then upI (oc4 (of2 S e) (some k)) (11, 4, 0) (36 + 11 * k + 10) 0 else oc4 (of2 S e) (some k) from rfl]
    by_cases hg : gd (oc4 (of2 S e) (some k))
    · rw [if_pos hg]
      refine ⟨?_, h4.2.1, ?_, h4.2.2.2⟩
      · rw [upI_1, if_neg (by simp)]; exact h4.1
      · rw [upI_1, if_neg (fun hh => absurd hh.2 (by omega))]; exact h4.2.2.1
    · rw [if_neg hg]; exact h4
theorem stF_D (hD : Dok S a b) : ∃ a' b', Dok (stF S e a b) a' b' := by
  unfold stF
  have key : ∃ a' b', Dok (if wdR S 1 then hsF S e a else if wdR S 2 then pqFn S e a b else ofFn (muF S (wdR S 3) 1) e b) a' b' := by
    split
    · exact hsF_D hD
    · split
      · exact pqFn_D hD
      · exact ofFn_D (Dok_Df hD muF_Df)
  obtain ⟨a', b', h⟩ := key
  exact ⟨a', b', Dok_Df h spF_Df⟩
/-- a good statement takes a place -/
theorem posR_up {o : Ob} {g : Nat} (ho : o ≠ (8, 0, 0)) : posR (upI S o g v) = posR S := by unfold posR; rw [upI_fun' _ _ _ ho.symm]
theorem posR_upJ {o : Ob} {g : Nat} : posR (upJ S o g w) = posR S := by unfold posR; rw [upJ_1]
theorem hsF_up (hP : Pok S e) (hg : gd (hsF S e a)) : posR S + 1 ≤ posR (hsF S e a) := by
  have hg6 : gd (hs6 S e a) := by
    unfold hsF at hg
    by_cases h : gd (hs6 S e a)
    · exact h
    · rw [if_neg h] at hg; exact hg
  obtain ⟨g1, g2, g3, g4, g5, g6, g7, g8⟩ := hs6_gd hg6
  have e1 : hs1 S e a = goF S e := by unfold hs1; rw [muF_same (decide_eq_true g3)]
  have h1 : posR S + 1 ≤ posR (hs1 S e a) := by
    rw [e1] at g2 ⊢
    exact goF_up hP g4 (by rw [g2]; decide)
  have k1 := hs1_ok (a := a) hP
  have p3 : posR (hs3 S e a) = posR (hs1 S e a) := muF_pos.trans muF_pos
  have p4 : posR (hs3 S e a) ≤ posR (hs4 S e a) := goF_pos (hs3_ok hP)
  have p5 : posR (hs4 S e a) ≤ posR (hs5 S e a) := rnF_pos (goF_ok (hs3_ok hP))
  have p6 : posR (hs5 S e a) ≤ posR (hs6 S e a) := rnF_pos (rnF_ok (goF_ok (hs3_ok hP)))
  have pF : posR (hsF S e a) = posR (hs6 S e a) := by
    unfold hsF
    rw [if_pos hg6]
    unfold hsW
    rw [posR_up (by simp), posR_up (by simp), posR_up (by simp), posR_upJ]
  omega
theorem pqFn_up (hP : Pok S e) (hg : gd (pqFn S e a b)) : posR S + 1 ≤ posR (pqFn S e a b) := by
  have hg6 : gd (pq13 S e a b) := by
    unfold pqFn at hg
    by_cases h : gd (pq13 S e a b)
    · exact h
    · rw [if_neg h] at hg; exact hg
  obtain ⟨g1, g2, g3, g4, g5, g6, g7, g8, g9⟩ := pq13_gd hg6
  have e1 : pq1 S e b = goF S e := by unfold pq1; rw [muF_same (decide_eq_true g3)]
  have h1 : posR S + 1 ≤ posR (pq1 S e b) := by
    rw [e1] at g2 ⊢
    exact goF_up hP g4 (by rw [g2]; decide)
  have p3 : posR (pq3 S e b) = posR (pq1 S e b) := muF_pos.trans muF_pos
  have p4 : posR (pq3 S e b) ≤ posR (pq4 S e b) := goF_pos (pq3_ok hP)
  have p5 : posR (pq4 S e b) ≤ posR (pq5 S e b) := by
    have h := goF_pos (muF_ok (c := !decide (khV (pq4 S e b) = -1)) (v := 1) (pq4_ok (b := b) hP))
    rw [muF_pos] at h
    exact h
  have p6 : posR (pq6 S e b) = posR (pq5 S e b) := muF_pos
  have p7 : posR (pq6 S e b) ≤ posR (pq7 S e a b) := by
    have h := goF_pos (muF_ok (c := !decide (fdH (pq6 S e b) a = none)) (v := 4) (pq6_ok (b := b) hP))
    rw [muF_pos] at h
    exact h
  have p8 : posR (pq7 S e a b) ≤ posR (pq8 S e a b) := rnF_pos (pq7_ok hP)
  have p9 : posR (pq8 S e a b) ≤ posR (pq9 S e a b) := rnF_pos (pq8_ok hP)
  have p10 : posR (pq9 S e a b) ≤ posR (pq10 S e a b) := rnF_pos (pq9_ok hP)
  have p11 : posR (pq10 S e a b) ≤ posR (pq11 S e a b) := rnF_pos (pq10_ok hP)
  have p12 : posR (pq11 S e a b) ≤ posR (pq12 S e a b) := rnF_pos (pq11_ok hP)
  have p13 : posR (pq12 S e a b) ≤ posR (pq13 S e a b) := rnF_pos (pq12_ok hP)
  have pF : posR (pqFn S e a b) = posR (pq13 S e a b) := by
    unfold pqFn
    rw [if_pos hg6]
    unfold pqW
    simp only [posR_up (show ((11, 4, 0) : Ob) ≠ (8, 0, 0) by simp), posR_upJ]
  omega
theorem ofFn_up (hP : Pok S e) (hg : gd (ofFn S e b)) : posR S + 1 ≤ posR (ofFn S e b) := by
  have hg5 := goF_gd hg
  have hg4 : gd (of4 S e b) := by
    unfold of5 at hg5
    unfold of4
    cases ho : fdP (of2 S e) b with
    | none => rw [ho] at hg5; exact hg5
    | some k =>
      rw [ho, show oc5 (of2 S e) (some k) = if gd (oc4 (of2 S e) (some k)) then upI (oc4 (of2 S e) (some k)) (11, 4, 0) (36 + 11 * k + 10) 0 else oc4 (of2 S e) (some k) from rfl] at hg5
      by_cases h : gd (oc4 (of2 S e) (some k))
      · exact h
      · rw [if_neg h] at hg5; exact hg5
  obtain ⟨g1, g2, g3, g4⟩ := of4_gd hg4
  have h1 := goF_up hP g1 (by rw [g2]; decide)
  have p2 : posR (of2 S e) = posR (goF S e) := muF_pos
  have p4 : posR (of4 S e b) = posR (of2 S e) := muF_pos.trans muF_pos
  have p5 : posR (of5 S e b) = posR (of4 S e b) := by
    unfold of5 of4
    cases ho : fdP (of2 S e) b with
    | none => rfl
    | some k =>
      rw [show oc5 (of2 S e) (some k) = if gd (oc4 (of2 S e) (some k)) then upI (oc4 (of2 S e) (some k)) (11, 4, 0) (36 + 11 * k + 10) 0 else oc4 (of2 S e) (some k) from rfl]
      by_cases h : gd (oc4 (of2 S e) (some k))
      · rw [if_pos h, posR_up (by simp)]
      · rw [if_neg h]
  have p6 : posR (of5 S e b) ≤ posR (ofFn S e b) := goF_pos (of5_ok hP)
  omega
theorem spF_gd (h : gd (spF S e)) : gd S := (muF_gd (by decide) (goF_gd h)).1
theorem stF_up (hP : Pok S e) (hg : gd (stF S e a b)) : posR S + 1 ≤ posR (stF S e a b) := by
  have h1 := spF_gd hg
  unfold stF
  have key : Pok (if wdR S 1 then hsF S e a else if wdR S 2 then pqFn S e a b else ofFn (muF S (wdR S 3) 1) e b) e ∧ posR S + 1 ≤ posR (if wdR S 1 then hsF S e a else if wdR S 2 then pqFn S e a b else ofFn (muF S (wdR S 3) 1) e b) := by
    by_cases w1 : wdR S 1 = true
    · rw [if_pos w1] at h1 ⊢
      exact ⟨hsF_ok hP, hsF_up hP h1⟩
    · rw [if_neg w1] at h1 ⊢
      by_cases w2 : wdR S 2 = true
      · rw [if_pos w2] at h1 ⊢
        exact ⟨pqFn_ok hP, pqFn_up hP h1⟩
      · rw [if_neg w2] at h1 ⊢
        have h := ofFn_up (muF_ok hP) h1
        rw [muF_pos] at h
        exact ⟨ofFn_ok (muF_ok hP), h⟩
  have h2 := spF_pos key.1
  omega
/-- the statements -/
def psL (e : Nat) : Nat → St → St
  | 0, S => S
  | j + 1, S => if gd S ∧ S.1 (8, 0, 0) 18 ≠ 0 then psL e j (stF S e (nhR S) (npR S)) else S
theorem x88_w (hS : Sok sx) : ∀ (j : Nat) (S : St), Pok S e → (∃ a b, Dok S a b) → (gd S → e < posR S + j) → X xtab sx 88 94 [some (.ref (adr s0 (8, 0, 0))), some (.int v), some (.int q)] [] (hp s0 S, m) = X xtab sx 88 115 [some (.ref (adr s0 (8, 0, 0))), some (.int v), some (.int q)] [] (hp s0 (psL e j S), m) := by
  intro j
  induction j with
  | zero =>
    intro S hP hD hj
    have hn : ¬ gd S := fun h => by have := hj h; have := hP.2.2.2.1; omega
    have h5 := x75 (sx := sx) (s0 := s0) (S := S) (m := m)
    rw [decide_eq_false (gdN hn), show b32 false = 0 from rfl] at h5
    rw [show psL e 0 S = S from rfl, e_88_94]
    simp [e_88_95, e_88_98, e_88_101, e_88_102, e_88_105, e_88_108, e_88_109, e_88_112, xentry, xent, Value.category, kB1_some, kB1_ite, kB_some, kB_ite, kB3_some, kX_some, kX_ite, kC_ite, kR_ret, kR_thr, kR_ite, kR0_ret, kR0_ite, kW_some, xretv, xst1, xst2, xcl, xsum, upI_1, upI_2, upJ_1, upJ_2, upJ_3, rwI_1, rwI_2, rwJ_1, rwJ_2, rwJ_3, upD_1, upD_2, upI_upI, upJ_upJ, x_mmin, x_mmax, x_objInit, List.length_cons, xmL, k1_iconst, k1_bipush, k1_sipush, k1_lconst, k1_dconst0, k1_dconst1, k1_fconst0, k1_fconst1, k1_iload, k1_lload, k1_aload, k1_dload, k1_fload, k1_istore, k1_lstore, k1_astore, k1_dstore, k1_fstore, k1_iinc, k1_iadd, k1_isub, k1_imul, k1_iand, k1_ixor, k1_ishr, k1_ladd, k1_lsub, k1_lmul, k1_land, k1_lor, k1_lcmp, k1_lshl, k1_lshr, k1_idiv, k1_irem, k1_ldiv, k1_lrem, k1_fdiv, k1_ddiv, k1_f2d, k1_i2l, k1_l2i, k1_i2b, k1_l2d, k1_l2f, k1_dcmpl, k1_dcmpg, k1_fcmpl, k1_fcmpg, k1_dup, k1_pop, k1_dup2, k1_goto, k1_ifeq, k1_ifne, k1_iflt, k1_ifge, k1_ifgt, k1_ifle, k1_icmpeq, k1_icmpne, k1_icmplt, k1_icmpge, k1_icmpgt, k1_icmple, k3_constI, k3_constJ, k3_constD, gf_5_0, gf_5_1, gf_5_2, gf_5_3, gf_5_4, gf_5_5, pf_5_5, gf_5_6, pf_5_6, gf_5_7, gf_5_8, gf_4_0, gf_4_1, pf_4_1, gf_4_2, pf_4_2, gf_4_3, pf_4_3, gf_4_4, pf_4_4, gf_4_5, pf_4_5, gf_4_6, gf_4_7, pf_4_7, gf_4_8, pf_4_8, gf_4_9, pf_4_9, gf_3_0, gf_3_1, pf_3_1, gf_6_0, gf_6_1, gf_6_2, gf_6_3, gf_6_4, gf_6_5, gf_6_6, gf_6_7, gf_6_8, gf_6_9, gf_6_10, gf_6_11, pf_6_11, gf_6_12, pf_6_12, gf_6_13, gf_6_14, pf_6_14, gf_6_15, pf_6_15, gf_6_16, pf_6_16, gf_6_17, pf_6_17, gf_6_18, pf_6_18, gf_6_19, pf_6_19, gf_6_20, pf_6_20, gf_6_21, pf_6_21, gf_6_22, pf_6_22, gf_6_23, gf_6_24, gf_6_25, gf_6_26, pf_6_26, gf_6_27, gf_6_28, pf_6_28, gf_0_0, pf_0_0, gf_0_1, pf_0_1, gf_0_2, pf_0_2, gf_0_3, pf_0_3, gf_0_4, pf_0_4, gf_2_0, pf_2_0, gf_2_1, pf_2_1, gf_2_2, pf_2_2, gf_2_3, pf_2_3, gf_2_4, pf_2_4, gf_2_5, pf_2_5, gf_2_6, pf_2_6, gf_2_7, pf_2_7, gf_2_8, pf_2_8, gf_2_9, pf_2_9, gf_2_10, pf_2_10, gf_2_11, pf_2_11, gf_2_12, gf_2_13, gf_1_0, pf_1_0, gf_1_1, pf_1_1, gf_1_2, pf_1_2, gf_1_3, pf_1_3, gf_1_4, pf_1_4, gf_1_5, pf_1_5, gf_1_6, pf_1_6, gf_1_7, pf_1_7, gf_1_8, pf_1_8, gf_1_9, pf_1_9, gf_1_10, pf_1_10, gf_1_11, gf_1_12, gf_1_13, al_sl, as_sl, al_ct, as_ct, al_hr, as_hr, al_tx, as_tx, al_rb, as_rb, al_sv, as_sv, al_out, as_out, al_od, al_ha, al_pa, al_ps, al_sn, al_ai, as_ai, al_az, as_az, al_aj, as_aj, ln_hr, kv_rs, kv_tr, kv_rp, kv_md, kv_lk, kv_hh, kv_pg, al_r0, al_r1, al_r2, al_r3, al_r4, al_r5, al_r6, al_r7, al_r8, al_r9, al_r10, al_r11, al_r12, al_r13, al_r14, al_r15, as_r0, as_r1, as_r2, as_r3, as_r4, as_r5, as_r6, as_r7, as_r8, as_r9, as_r10, as_r11, as_r12, as_r13, as_r14, as_r15, gH_sH, gH_sP, gH_sL, gH_sC, gP_sH, gP_sP, gP_sL, gP_sC, gL_sH, gL_sP, gL_sL, gL_sC, gC_sH, gC_sP, gC_sL, gC_sC, rz_sH, rz_sP, rz_sL, ro_sH, ro_sP, ro_sL, rj_sH, rj_sP, rj_sL, gH_upI, gH_upZ, gP_upI, gP_upZ, gL_upI, gL_upZ, rz_sC, gC_upI, x59, x60, x61, x62, x63, x64, x65, x66, x50, x51, h5]
  | succ j ih =>
    intro S hP hD hj
    have h5 := x75 (sx := sx) (s0 := s0) (S := S) (m := m)
    unfold psL
    by_cases hg : gd S
    · rw [decide_eq_true (gdE hg), show b32 true = 1 from rfl] at h5
      by_cases hk : S.1 (8, 0, 0) 18 = 0
      · rw [if_neg (fun h => h.2 hk), e_88_94]
        simp [e_88_95, e_88_98, e_88_101, e_88_102, e_88_105, e_88_108, e_88_109, e_88_112, xentry, xent, Value.category, kB1_some, kB1_ite, kB_some, kB_ite, kB3_some, kX_some, kX_ite, kC_ite, kR_ret, kR_thr, kR_ite, kR0_ret, kR0_ite, kW_some, xretv, xst1, xst2, xcl, xsum, upI_1, upI_2, upJ_1, upJ_2, upJ_3, rwI_1, rwI_2, rwJ_1, rwJ_2, rwJ_3, upD_1, upD_2, upI_upI, upJ_upJ, x_mmin, x_mmax, x_objInit, List.length_cons, xmL, k1_iconst, k1_bipush, k1_sipush, k1_lconst, k1_dconst0, k1_dconst1, k1_fconst0, k1_fconst1, k1_iload, k1_lload, k1_aload, k1_dload, k1_fload, k1_istore, k1_lstore, k1_astore, k1_dstore, k1_fstore, k1_iinc, k1_iadd, k1_isub, k1_imul, k1_iand, k1_ixor, k1_ishr, k1_ladd, k1_lsub, k1_lmul, k1_land, k1_lor, k1_lcmp, k1_lshl, k1_lshr, k1_idiv, k1_irem, k1_ldiv, k1_lrem, k1_fdiv, k1_ddiv, k1_f2d, k1_i2l, k1_l2i, k1_i2b, k1_l2d, k1_l2f, k1_dcmpl, k1_dcmpg, k1_fcmpl, k1_fcmpg, k1_dup, k1_pop, k1_dup2, k1_goto, k1_ifeq, k1_ifne, k1_iflt, k1_ifge, k1_ifgt, k1_ifle, k1_icmpeq, k1_icmpne, k1_icmplt, k1_icmpge, k1_icmpgt, k1_icmple, k3_constI, k3_constJ, k3_constD, gf_5_0, gf_5_1, gf_5_2, gf_5_3, gf_5_4, gf_5_5, pf_5_5, gf_5_6, pf_5_6, gf_5_7, gf_5_8, gf_4_0, gf_4_1, pf_4_1, gf_4_2, pf_4_2, gf_4_3, pf_4_3, gf_4_4, pf_4_4, gf_4_5, pf_4_5, gf_4_6, gf_4_7, pf_4_7, gf_4_8, pf_4_8, gf_4_9, pf_4_9, gf_3_0, gf_3_1, pf_3_1, gf_6_0, gf_6_1, gf_6_2, gf_6_3, gf_6_4, gf_6_5, gf_6_6, gf_6_7, gf_6_8, gf_6_9, gf_6_10, gf_6_11, pf_6_11, gf_6_12, pf_6_12, gf_6_13, gf_6_14, pf_6_14, gf_6_15, pf_6_15, gf_6_16, pf_6_16, gf_6_17, pf_6_17, gf_6_18, pf_6_18, gf_6_19, pf_6_19, gf_6_20, pf_6_20, gf_6_21, pf_6_21, gf_6_22, pf_6_22, gf_6_23, gf_6_24, gf_6_25, gf_6_26, pf_6_26, gf_6_27, gf_6_28, pf_6_28, gf_0_0, pf_0_0, gf_0_1, pf_0_1, gf_0_2, pf_0_2, gf_0_3, pf_0_3, gf_0_4, pf_0_4, gf_2_0, pf_2_0, gf_2_1, pf_2_1, gf_2_2, pf_2_2, gf_2_3, pf_2_3, gf_2_4, pf_2_4, gf_2_5, pf_2_5, gf_2_6, pf_2_6, gf_2_7, pf_2_7, gf_2_8, pf_2_8, gf_2_9, pf_2_9, gf_2_10, pf_2_10, gf_2_11, pf_2_11, gf_2_12, gf_2_13, gf_1_0, pf_1_0, gf_1_1, pf_1_1, gf_1_2, pf_1_2, gf_1_3, pf_1_3, gf_1_4, pf_1_4, gf_1_5, pf_1_5, gf_1_6, pf_1_6, gf_1_7, pf_1_7, gf_1_8, pf_1_8, gf_1_9, pf_1_9, gf_1_10, pf_1_10, gf_1_11, gf_1_12, gf_1_13, al_sl, as_sl, al_ct, as_ct, al_hr, as_hr, al_tx, as_tx, al_rb, as_rb, al_sv, as_sv, al_out, as_out, al_od, al_ha, al_pa, al_ps, al_sn, al_ai, as_ai, al_az, as_az, al_aj, as_aj, ln_hr, kv_rs, kv_tr, kv_rp, kv_md, kv_lk, kv_hh, kv_pg, al_r0, al_r1, al_r2, al_r3, al_r4, al_r5, al_r6, al_r7, al_r8, al_r9, al_r10, al_r11, al_r12, al_r13, al_r14, al_r15, as_r0, as_r1, as_r2, as_r3, as_r4, as_r5, as_r6, as_r7, as_r8, as_r9, as_r10, as_r11, as_r12, as_r13, as_r14, as_r15, gH_sH, gH_sP, gH_sL, gH_sC, gP_sH, gP_sP, gP_sL, gP_sC, gL_sH, gL_sP, gL_sL, gL_sC, gC_sH, gC_sP, gC_sL, gC_sC, rz_sH, rz_sP, rz_sL, ro_sH, ro_sP, ro_sL, rj_sH, rj_sP, rj_sL, gH_upI, gH_upZ, gP_upI, gP_upZ, gL_upI, gL_upZ, rz_sC, gC_upI, x59, x60, x61, x62, x63, x64, x65, x66, x50, x51, h5, hk]
      · rw [if_pos ⟨hg, hk⟩]
        obtain ⟨a, b, hD⟩ := hD
        have hn := Dok_n hD
        rw [hn.1, hn.2]
        have hx := x87 (sx := sx) (s0 := s0) (m := m) hS hP hD
        have ih2 := ih (stF S e a b) (stF_ok hP) (stF_D hD) (fun h => by have := stF_up (a := a) (b := b) hP h; have := hj hg; omega)
        generalize stF S e a b = W at *
        rw [e_88_94]
        simp [e_88_95, e_88_98, e_88_101, e_88_102, e_88_105, e_88_108, e_88_109, e_88_112, xentry, xent, Value.category, kB1_some, kB1_ite, kB_some, kB_ite, kB3_some, kX_some, kX_ite, kC_ite, kR_ret, kR_thr, kR_ite, kR0_ret, kR0_ite, kW_some, xretv, xst1, xst2, xcl, xsum, upI_1, upI_2, upJ_1, upJ_2, upJ_3, rwI_1, rwI_2, rwJ_1, rwJ_2, rwJ_3, upD_1, upD_2, upI_upI, upJ_upJ, x_mmin, x_mmax, x_objInit, List.length_cons, xmL, k1_iconst, k1_bipush, k1_sipush, k1_lconst, k1_dconst0, k1_dconst1, k1_fconst0, k1_fconst1, k1_iload, k1_lload, k1_aload, k1_dload, k1_fload, k1_istore, k1_lstore, k1_astore, k1_dstore, k1_fstore, k1_iinc, k1_iadd, k1_isub, k1_imul, k1_iand, k1_ixor, k1_ishr, k1_ladd, k1_lsub, k1_lmul, k1_land, k1_lor, k1_lcmp, k1_lshl, k1_lshr, k1_idiv, k1_irem, k1_ldiv, k1_lrem, k1_fdiv, k1_ddiv, k1_f2d, k1_i2l, k1_l2i, k1_i2b, k1_l2d, k1_l2f, k1_dcmpl, k1_dcmpg, k1_fcmpl, k1_fcmpg, k1_dup, k1_pop, k1_dup2, k1_goto, k1_ifeq, k1_ifne, k1_iflt, k1_ifge, k1_ifgt, k1_ifle, k1_icmpeq, k1_icmpne, k1_icmplt, k1_icmpge, k1_icmpgt, k1_icmple, k3_constI, k3_constJ, k3_constD, gf_5_0, gf_5_1, gf_5_2, gf_5_3, gf_5_4, gf_5_5, pf_5_5, gf_5_6, pf_5_6, gf_5_7, gf_5_8, gf_4_0, gf_4_1, pf_4_1, gf_4_2, pf_4_2, gf_4_3, pf_4_3, gf_4_4, pf_4_4, gf_4_5, pf_4_5, gf_4_6, gf_4_7, pf_4_7, gf_4_8, pf_4_8, gf_4_9, pf_4_9, gf_3_0, gf_3_1, pf_3_1, gf_6_0, gf_6_1, gf_6_2, gf_6_3, gf_6_4, gf_6_5, gf_6_6, gf_6_7, gf_6_8, gf_6_9, gf_6_10, gf_6_11, pf_6_11, gf_6_12, pf_6_12, gf_6_13, gf_6_14, pf_6_14, gf_6_15, pf_6_15, gf_6_16, pf_6_16, gf_6_17, pf_6_17, gf_6_18, pf_6_18, gf_6_19, pf_6_19, gf_6_20, pf_6_20, gf_6_21, pf_6_21, gf_6_22, pf_6_22, gf_6_23, gf_6_24, gf_6_25, gf_6_26, pf_6_26, gf_6_27, gf_6_28, pf_6_28, gf_0_0, pf_0_0, gf_0_1, pf_0_1, gf_0_2, pf_0_2, gf_0_3, pf_0_3, gf_0_4, pf_0_4, gf_2_0, pf_2_0, gf_2_1, pf_2_1, gf_2_2, pf_2_2, gf_2_3, pf_2_3, gf_2_4, pf_2_4, gf_2_5, pf_2_5, gf_2_6, pf_2_6, gf_2_7, pf_2_7, gf_2_8, pf_2_8, gf_2_9, pf_2_9, gf_2_10, pf_2_10, gf_2_11, pf_2_11, gf_2_12, gf_2_13, gf_1_0, pf_1_0, gf_1_1, pf_1_1, gf_1_2, pf_1_2, gf_1_3, pf_1_3, gf_1_4, pf_1_4, gf_1_5, pf_1_5, gf_1_6, pf_1_6, gf_1_7, pf_1_7, gf_1_8, pf_1_8, gf_1_9, pf_1_9, gf_1_10, pf_1_10, gf_1_11, gf_1_12, gf_1_13, al_sl, as_sl, al_ct, as_ct, al_hr, as_hr, al_tx, as_tx, al_rb, as_rb, al_sv, as_sv, al_out, as_out, al_od, al_ha, al_pa, al_ps, al_sn, al_ai, as_ai, al_az, as_az, al_aj, as_aj, ln_hr, kv_rs, kv_tr, kv_rp, kv_md, kv_lk, kv_hh, kv_pg, al_r0, al_r1, al_r2, al_r3, al_r4, al_r5, al_r6, al_r7, al_r8, al_r9, al_r10, al_r11, al_r12, al_r13, al_r14, al_r15, as_r0, as_r1, as_r2, as_r3, as_r4, as_r5, as_r6, as_r7, as_r8, as_r9, as_r10, as_r11, as_r12, as_r13, as_r14, as_r15, gH_sH, gH_sP, gH_sL, gH_sC, gP_sH, gP_sP, gP_sL, gP_sC, gL_sH, gL_sP, gL_sL, gL_sC, gC_sH, gC_sP, gC_sL, gC_sC, rz_sH, rz_sP, rz_sL, ro_sH, ro_sP, ro_sL, rj_sH, rj_sP, rj_sL, gH_upI, gH_upZ, gP_upI, gP_upZ, gL_upI, gL_upZ, rz_sC, gC_upI, x59, x60, x61, x62, x63, x64, x65, x66, x50, x51, h5, hk, hx]
        exact ih2
    · rw [decide_eq_false (gdN hg), show b32 false = 0 from rfl] at h5
      rw [if_neg (fun h => hg h.1), e_88_94]
      simp [e_88_95, e_88_98, e_88_101, e_88_102, e_88_105, e_88_108, e_88_109, e_88_112, xentry, xent, Value.category, kB1_some, kB1_ite, kB_some, kB_ite, kB3_some, kX_some, kX_ite, kC_ite, kR_ret, kR_thr, kR_ite, kR0_ret, kR0_ite, kW_some, xretv, xst1, xst2, xcl, xsum, upI_1, upI_2, upJ_1, upJ_2, upJ_3, rwI_1, rwI_2, rwJ_1, rwJ_2, rwJ_3, upD_1, upD_2, upI_upI, upJ_upJ, x_mmin, x_mmax, x_objInit, List.length_cons, xmL, k1_iconst, k1_bipush, k1_sipush, k1_lconst, k1_dconst0, k1_dconst1, k1_fconst0, k1_fconst1, k1_iload, k1_lload, k1_aload, k1_dload, k1_fload, k1_istore, k1_lstore, k1_astore, k1_dstore, k1_fstore, k1_iinc, k1_iadd, k1_isub, k1_imul, k1_iand, k1_ixor, k1_ishr, k1_ladd, k1_lsub, k1_lmul, k1_land, k1_lor, k1_lcmp, k1_lshl, k1_lshr, k1_idiv, k1_irem, k1_ldiv, k1_lrem, k1_fdiv, k1_ddiv, k1_f2d, k1_i2l, k1_l2i, k1_i2b, k1_l2d, k1_l2f, k1_dcmpl, k1_dcmpg, k1_fcmpl, k1_fcmpg, k1_dup, k1_pop, k1_dup2, k1_goto, k1_ifeq, k1_ifne, k1_iflt, k1_ifge, k1_ifgt, k1_ifle, k1_icmpeq, k1_icmpne, k1_icmplt, k1_icmpge, k1_icmpgt, k1_icmple, k3_constI, k3_constJ, k3_constD, gf_5_0, gf_5_1, gf_5_2, gf_5_3, gf_5_4, gf_5_5, pf_5_5, gf_5_6, pf_5_6, gf_5_7, gf_5_8, gf_4_0, gf_4_1, pf_4_1, gf_4_2, pf_4_2, gf_4_3, pf_4_3, gf_4_4, pf_4_4, gf_4_5, pf_4_5, gf_4_6, gf_4_7, pf_4_7, gf_4_8, pf_4_8, gf_4_9, pf_4_9, gf_3_0, gf_3_1, pf_3_1, gf_6_0, gf_6_1, gf_6_2, gf_6_3, gf_6_4, gf_6_5, gf_6_6, gf_6_7, gf_6_8, gf_6_9, gf_6_10, gf_6_11, pf_6_11, gf_6_12, pf_6_12, gf_6_13, gf_6_14, pf_6_14, gf_6_15, pf_6_15, gf_6_16, pf_6_16, gf_6_17, pf_6_17, gf_6_18, pf_6_18, gf_6_19, pf_6_19, gf_6_20, pf_6_20, gf_6_21, pf_6_21, gf_6_22, pf_6_22, gf_6_23, gf_6_24, gf_6_25, gf_6_26, pf_6_26, gf_6_27, gf_6_28, pf_6_28, gf_0_0, pf_0_0, gf_0_1, pf_0_1, gf_0_2, pf_0_2, gf_0_3, pf_0_3, gf_0_4, pf_0_4, gf_2_0, pf_2_0, gf_2_1, pf_2_1, gf_2_2, pf_2_2, gf_2_3, pf_2_3, gf_2_4, pf_2_4, gf_2_5, pf_2_5, gf_2_6, pf_2_6, gf_2_7, pf_2_7, gf_2_8, pf_2_8, gf_2_9, pf_2_9, gf_2_10, pf_2_10, gf_2_11, pf_2_11, gf_2_12, gf_2_13, gf_1_0, pf_1_0, gf_1_1, pf_1_1, gf_1_2, pf_1_2, gf_1_3, pf_1_3, gf_1_4, pf_1_4, gf_1_5, pf_1_5, gf_1_6, pf_1_6, gf_1_7, pf_1_7, gf_1_8, pf_1_8, gf_1_9, pf_1_9, gf_1_10, pf_1_10, gf_1_11, gf_1_12, gf_1_13, al_sl, as_sl, al_ct, as_ct, al_hr, as_hr, al_tx, as_tx, al_rb, as_rb, al_sv, as_sv, al_out, as_out, al_od, al_ha, al_pa, al_ps, al_sn, al_ai, as_ai, al_az, as_az, al_aj, as_aj, ln_hr, kv_rs, kv_tr, kv_rp, kv_md, kv_lk, kv_hh, kv_pg, al_r0, al_r1, al_r2, al_r3, al_r4, al_r5, al_r6, al_r7, al_r8, al_r9, al_r10, al_r11, al_r12, al_r13, al_r14, al_r15, as_r0, as_r1, as_r2, as_r3, as_r4, as_r5, as_r6, as_r7, as_r8, as_r9, as_r10, as_r11, as_r12, as_r13, as_r14, as_r15, gH_sH, gH_sP, gH_sL, gH_sC, gP_sH, gP_sP, gP_sL, gP_sC, gL_sH, gL_sP, gL_sL, gL_sC, gC_sH, gC_sP, gC_sL, gC_sC, rz_sH, rz_sP, rz_sL, ro_sH, ro_sP, ro_sL, rj_sH, rj_sP, rj_sL, gH_upI, gH_upZ, gP_upI, gP_upZ, gL_upI, gL_upZ, rz_sC, gC_upI, x59, x60, x61, x62, x63, x64, x65, x66, x50, x51, h5]
/-- the draft is emptied -/
def zI (S : St) (i : Nat) : St := rwI S (11, 4, 0) (fun q => if q < i then 0 else S.1 (11, 4, 0) q)
def zJ (S : St) (i : Nat) : St := rwJ S (11, 9, 0) (fun q => if q < i then 0 else S.2.1 (11, 9, 0) q)
theorem zI_0 : zI S 0 = S := by
  unfold zI rwI
  refine Prod.ext ?_ rfl
  funext o
  dsimp only
  by_cases h : o = (11, 4, 0)
  · rw [if_pos h, h]
    funext q
    rw [if_neg (by omega)]
  · rw [if_neg h]
theorem zJ_0 : zJ S 0 = S := by
  unfold zJ rwJ
  refine Prod.ext rfl (Prod.ext ?_ rfl)
  funext o
  dsimp only
  by_cases h : o = (11, 9, 0)
  · rw [if_pos h, h]
    funext q
    rw [if_neg (by omega)]
  · rw [if_neg h]
theorem zI_s {i : Nat} : upI (zI S i) (11, 4, 0) i 0 = zI S (i + 1) := by
  unfold zI rwI upI
  refine Prod.ext ?_ rfl
  funext o q
  dsimp only
  by_cases h : o = (11, 4, 0)
  · simp only [h, if_true, true_and]
    by_cases hq : q = i
    · rw [if_pos hq, if_pos (by omega)]
    · rw [if_neg hq]
      by_cases hq2 : q < i
      · rw [if_pos hq2, if_pos (by omega)]
      · rw [if_neg hq2, if_neg (by omega)]
  · simp [h]
theorem zJ_s {i : Nat} : upJ (zJ S i) (11, 9, 0) i 0 = zJ S (i + 1) := by
  unfold zJ rwJ upJ
  refine Prod.ext rfl (Prod.ext ?_ rfl)
  funext o q
  dsimp only
  by_cases h : o = (11, 9, 0)
  · simp only [h, if_true, true_and]
    by_cases hq : q = i
    · rw [if_pos hq, if_pos (by omega)]
    · rw [if_neg hq]
      by_cases hq2 : q < i
      · rw [if_pos hq2, if_pos (by omega)]
      · rw [if_neg hq2, if_neg (by omega)]
  · simp [h]
theorem x88_z1 : ∀ j i, i + j = 384 → X xtab sx 88 30 [some (.ref (adr s0 (8, 0, 0))), some (.int v), some (.int (Int32.ofNat i))] [] (hp s0 (zI S i), m) = X xtab sx 88 50 [some (.ref (adr s0 (8, 0, 0))), some (.int v), some (.int 384)] [] (hp s0 (zI S 384), m) := by
  intro j
  induction j with
  | zero =>
    intro i h
    have hi : i = 384 := by omega
    subst hi
    rw [e_88_30]
    simp [e_88_31, e_88_34, e_88_37, e_88_38, e_88_41, e_88_42, e_88_43, e_88_44, e_88_47, xentry, xent, Value.category, kB1_some, kB1_ite, kB_some, kB_ite, kB3_some, kX_some, kX_ite, kC_ite, kR_ret, kR_thr, kR_ite, kR0_ret, kR0_ite, kW_some, xretv, xst1, xst2, xcl, xsum, upI_1, upI_2, upJ_1, upJ_2, upJ_3, rwI_1, rwI_2, rwJ_1, rwJ_2, rwJ_3, upD_1, upD_2, upI_upI, upJ_upJ, x_mmin, x_mmax, x_objInit, List.length_cons, xmL, k1_iconst, k1_bipush, k1_sipush, k1_lconst, k1_dconst0, k1_dconst1, k1_fconst0, k1_fconst1, k1_iload, k1_lload, k1_aload, k1_dload, k1_fload, k1_istore, k1_lstore, k1_astore, k1_dstore, k1_fstore, k1_iinc, k1_iadd, k1_isub, k1_imul, k1_iand, k1_ixor, k1_ishr, k1_ladd, k1_lsub, k1_lmul, k1_land, k1_lor, k1_lcmp, k1_lshl, k1_lshr, k1_idiv, k1_irem, k1_ldiv, k1_lrem, k1_fdiv, k1_ddiv, k1_f2d, k1_i2l, k1_l2i, k1_i2b, k1_l2d, k1_l2f, k1_dcmpl, k1_dcmpg, k1_fcmpl, k1_fcmpg, k1_dup, k1_pop, k1_dup2, k1_goto, k1_ifeq, k1_ifne, k1_iflt, k1_ifge, k1_ifgt, k1_ifle, k1_icmpeq, k1_icmpne, k1_icmplt, k1_icmpge, k1_icmpgt, k1_icmple, k3_constI, k3_constJ, k3_constD, gf_5_0, gf_5_1, gf_5_2, gf_5_3, gf_5_4, gf_5_5, pf_5_5, gf_5_6, pf_5_6, gf_5_7, gf_5_8, gf_4_0, gf_4_1, pf_4_1, gf_4_2, pf_4_2, gf_4_3, pf_4_3, gf_4_4, pf_4_4, gf_4_5, pf_4_5, gf_4_6, gf_4_7, pf_4_7, gf_4_8, pf_4_8, gf_4_9, pf_4_9, gf_3_0, gf_3_1, pf_3_1, gf_6_0, gf_6_1, gf_6_2, gf_6_3, gf_6_4, gf_6_5, gf_6_6, gf_6_7, gf_6_8, gf_6_9, gf_6_10, gf_6_11, pf_6_11, gf_6_12, pf_6_12, gf_6_13, gf_6_14, pf_6_14, gf_6_15, pf_6_15, gf_6_16, pf_6_16, gf_6_17, pf_6_17, gf_6_18, pf_6_18, gf_6_19, pf_6_19, gf_6_20, pf_6_20, gf_6_21, pf_6_21, gf_6_22, pf_6_22, gf_6_23, gf_6_24, gf_6_25, gf_6_26, pf_6_26, gf_6_27, gf_6_28, pf_6_28, gf_0_0, pf_0_0, gf_0_1, pf_0_1, gf_0_2, pf_0_2, gf_0_3, pf_0_3, gf_0_4, pf_0_4, gf_2_0, pf_2_0, gf_2_1, pf_2_1, gf_2_2, pf_2_2, gf_2_3, pf_2_3, gf_2_4, pf_2_4, gf_2_5, pf_2_5, gf_2_6, pf_2_6, gf_2_7, pf_2_7, gf_2_8, pf_2_8, gf_2_9, pf_2_9, gf_2_10, pf_2_10, gf_2_11, pf_2_11, gf_2_12, gf_2_13, gf_1_0, pf_1_0, gf_1_1, pf_1_1, gf_1_2, pf_1_2, gf_1_3, pf_1_3, gf_1_4, pf_1_4, gf_1_5, pf_1_5, gf_1_6, pf_1_6, gf_1_7, pf_1_7, gf_1_8, pf_1_8, gf_1_9, pf_1_9, gf_1_10, pf_1_10, gf_1_11, gf_1_12, gf_1_13, al_sl, as_sl, al_ct, as_ct, al_hr, as_hr, al_tx, as_tx, al_rb, as_rb, al_sv, as_sv, al_out, as_out, al_od, al_ha, al_pa, al_ps, al_sn, al_ai, as_ai, al_az, as_az, al_aj, as_aj, ln_hr, kv_rs, kv_tr, kv_rp, kv_md, kv_lk, kv_hh, kv_pg, al_r0, al_r1, al_r2, al_r3, al_r4, al_r5, al_r6, al_r7, al_r8, al_r9, al_r10, al_r11, al_r12, al_r13, al_r14, al_r15, as_r0, as_r1, as_r2, as_r3, as_r4, as_r5, as_r6, as_r7, as_r8, as_r9, as_r10, as_r11, as_r12, as_r13, as_r14, as_r15, gH_sH, gH_sP, gH_sL, gH_sC, gP_sH, gP_sP, gP_sL, gP_sC, gL_sH, gL_sP, gL_sL, gL_sC, gC_sH, gC_sP, gC_sL, gC_sC, rz_sH, rz_sP, rz_sL, ro_sH, ro_sP, ro_sL, rj_sH, rj_sP, rj_sL, gH_upI, gH_upZ, gP_upI, gP_upZ, gL_upI, gL_upZ, rz_sC, gC_upI, x59, x60, x61, x62, x63, x64, x65, x66, x50, x51]
  | succ j ih =>
    intro i h
    have hl := oN_le (i := i) (n := 384) (by omega) (by omega)
    rw [show Int32.ofNat 384 = 384 from rfl] at hl
    have hc := oN_clamp (i := i) (by omega)
    have hg := oN_neg (i := i) (by omega)
    have ih2 := ih (i + 1) (by omega)
    rw [inc_ofNat] at ih2
    have hz := zI_s (S := S) (i := i)
    generalize zI S (i + 1) = Z1 at *
    generalize zI S 384 = Z2 at *
    rw [e_88_30]
    simp [e_88_31, e_88_34, e_88_37, e_88_38, e_88_41, e_88_42, e_88_43, e_88_44, e_88_47, xentry, xent, Value.category, kB1_some, kB1_ite, kB_some, kB_ite, kB3_some, kX_some, kX_ite, kC_ite, kR_ret, kR_thr, kR_ite, kR0_ret, kR0_ite, kW_some, xretv, xst1, xst2, xcl, xsum, upI_1, upI_2, upJ_1, upJ_2, upJ_3, rwI_1, rwI_2, rwJ_1, rwJ_2, rwJ_3, upD_1, upD_2, upI_upI, upJ_upJ, x_mmin, x_mmax, x_objInit, List.length_cons, xmL, k1_iconst, k1_bipush, k1_sipush, k1_lconst, k1_dconst0, k1_dconst1, k1_fconst0, k1_fconst1, k1_iload, k1_lload, k1_aload, k1_dload, k1_fload, k1_istore, k1_lstore, k1_astore, k1_dstore, k1_fstore, k1_iinc, k1_iadd, k1_isub, k1_imul, k1_iand, k1_ixor, k1_ishr, k1_ladd, k1_lsub, k1_lmul, k1_land, k1_lor, k1_lcmp, k1_lshl, k1_lshr, k1_idiv, k1_irem, k1_ldiv, k1_lrem, k1_fdiv, k1_ddiv, k1_f2d, k1_i2l, k1_l2i, k1_i2b, k1_l2d, k1_l2f, k1_dcmpl, k1_dcmpg, k1_fcmpl, k1_fcmpg, k1_dup, k1_pop, k1_dup2, k1_goto, k1_ifeq, k1_ifne, k1_iflt, k1_ifge, k1_ifgt, k1_ifle, k1_icmpeq, k1_icmpne, k1_icmplt, k1_icmpge, k1_icmpgt, k1_icmple, k3_constI, k3_constJ, k3_constD, gf_5_0, gf_5_1, gf_5_2, gf_5_3, gf_5_4, gf_5_5, pf_5_5, gf_5_6, pf_5_6, gf_5_7, gf_5_8, gf_4_0, gf_4_1, pf_4_1, gf_4_2, pf_4_2, gf_4_3, pf_4_3, gf_4_4, pf_4_4, gf_4_5, pf_4_5, gf_4_6, gf_4_7, pf_4_7, gf_4_8, pf_4_8, gf_4_9, pf_4_9, gf_3_0, gf_3_1, pf_3_1, gf_6_0, gf_6_1, gf_6_2, gf_6_3, gf_6_4, gf_6_5, gf_6_6, gf_6_7, gf_6_8, gf_6_9, gf_6_10, gf_6_11, pf_6_11, gf_6_12, pf_6_12, gf_6_13, gf_6_14, pf_6_14, gf_6_15, pf_6_15, gf_6_16, pf_6_16, gf_6_17, pf_6_17, gf_6_18, pf_6_18, gf_6_19, pf_6_19, gf_6_20, pf_6_20, gf_6_21, pf_6_21, gf_6_22, pf_6_22, gf_6_23, gf_6_24, gf_6_25, gf_6_26, pf_6_26, gf_6_27, gf_6_28, pf_6_28, gf_0_0, pf_0_0, gf_0_1, pf_0_1, gf_0_2, pf_0_2, gf_0_3, pf_0_3, gf_0_4, pf_0_4, gf_2_0, pf_2_0, gf_2_1, pf_2_1, gf_2_2, pf_2_2, gf_2_3, pf_2_3, gf_2_4, pf_2_4, gf_2_5, pf_2_5, gf_2_6, pf_2_6, gf_2_7, pf_2_7, gf_2_8, pf_2_8, gf_2_9, pf_2_9, gf_2_10, pf_2_10, gf_2_11, pf_2_11, gf_2_12, gf_2_13, gf_1_0, pf_1_0, gf_1_1, pf_1_1, gf_1_2, pf_1_2, gf_1_3, pf_1_3, gf_1_4, pf_1_4, gf_1_5, pf_1_5, gf_1_6, pf_1_6, gf_1_7, pf_1_7, gf_1_8, pf_1_8, gf_1_9, pf_1_9, gf_1_10, pf_1_10, gf_1_11, gf_1_12, gf_1_13, al_sl, as_sl, al_ct, as_ct, al_hr, as_hr, al_tx, as_tx, al_rb, as_rb, al_sv, as_sv, al_out, as_out, al_od, al_ha, al_pa, al_ps, al_sn, al_ai, as_ai, al_az, as_az, al_aj, as_aj, ln_hr, kv_rs, kv_tr, kv_rp, kv_md, kv_lk, kv_hh, kv_pg, al_r0, al_r1, al_r2, al_r3, al_r4, al_r5, al_r6, al_r7, al_r8, al_r9, al_r10, al_r11, al_r12, al_r13, al_r14, al_r15, as_r0, as_r1, as_r2, as_r3, as_r4, as_r5, as_r6, as_r7, as_r8, as_r9, as_r10, as_r11, as_r12, as_r13, as_r14, as_r15, gH_sH, gH_sP, gH_sL, gH_sC, gP_sH, gP_sP, gP_sL, gP_sC, gL_sH, gL_sP, gL_sL, gL_sC, gC_sH, gC_sP, gC_sL, gC_sC, rz_sH, rz_sP, rz_sL, ro_sH, ro_sP, ro_sL, rj_sH, rj_sP, rj_sL, gH_upI, gH_upZ, gP_upI, gP_upZ, gL_upI, gL_upZ, rz_sC, gC_upI, x59, x60, x61, x62, x63, x64, x65, x66, x50, x51, hl, hc, hg, show ¬ 384 ≤ i by omega, hz]
    exact ih2
theorem x88_z2 : ∀ j i, i + j = 114 → X xtab sx 88 52 [some (.ref (adr s0 (8, 0, 0))), some (.int v), some (.int (Int32.ofNat i))] [] (hp s0 (zJ S i), m) = X xtab sx 88 71 [some (.ref (adr s0 (8, 0, 0))), some (.int v), some (.int 114)] [] (hp s0 (zJ S 114), m) := by
  intro j
  induction j with
  | zero =>
    intro i h
    have hi : i = 114 := by omega
    subst hi
    rw [e_88_52]
    simp [e_88_53, e_88_55, e_88_58, e_88_59, e_88_62, e_88_63, e_88_64, e_88_65, e_88_68, xentry, xent, Value.category, kB1_some, kB1_ite, kB_some, kB_ite, kB3_some, kX_some, kX_ite, kC_ite, kR_ret, kR_thr, kR_ite, kR0_ret, kR0_ite, kW_some, xretv, xst1, xst2, xcl, xsum, upI_1, upI_2, upJ_1, upJ_2, upJ_3, rwI_1, rwI_2, rwJ_1, rwJ_2, rwJ_3, upD_1, upD_2, upI_upI, upJ_upJ, x_mmin, x_mmax, x_objInit, List.length_cons, xmL, k1_iconst, k1_bipush, k1_sipush, k1_lconst, k1_dconst0, k1_dconst1, k1_fconst0, k1_fconst1, k1_iload, k1_lload, k1_aload, k1_dload, k1_fload, k1_istore, k1_lstore, k1_astore, k1_dstore, k1_fstore, k1_iinc, k1_iadd, k1_isub, k1_imul, k1_iand, k1_ixor, k1_ishr, k1_ladd, k1_lsub, k1_lmul, k1_land, k1_lor, k1_lcmp, k1_lshl, k1_lshr, k1_idiv, k1_irem, k1_ldiv, k1_lrem, k1_fdiv, k1_ddiv, k1_f2d, k1_i2l, k1_l2i, k1_i2b, k1_l2d, k1_l2f, k1_dcmpl, k1_dcmpg, k1_fcmpl, k1_fcmpg, k1_dup, k1_pop, k1_dup2, k1_goto, k1_ifeq, k1_ifne, k1_iflt, k1_ifge, k1_ifgt, k1_ifle, k1_icmpeq, k1_icmpne, k1_icmplt, k1_icmpge, k1_icmpgt, k1_icmple, k3_constI, k3_constJ, k3_constD, gf_5_0, gf_5_1, gf_5_2, gf_5_3, gf_5_4, gf_5_5, pf_5_5, gf_5_6, pf_5_6, gf_5_7, gf_5_8, gf_4_0, gf_4_1, pf_4_1, gf_4_2, pf_4_2, gf_4_3, pf_4_3, gf_4_4, pf_4_4, gf_4_5, pf_4_5, gf_4_6, gf_4_7, pf_4_7, gf_4_8, pf_4_8, gf_4_9, pf_4_9, gf_3_0, gf_3_1, pf_3_1, gf_6_0, gf_6_1, gf_6_2, gf_6_3, gf_6_4, gf_6_5, gf_6_6, gf_6_7, gf_6_8, gf_6_9, gf_6_10, gf_6_11, pf_6_11, gf_6_12, pf_6_12, gf_6_13, gf_6_14, pf_6_14, gf_6_15, pf_6_15, gf_6_16, pf_6_16, gf_6_17, pf_6_17, gf_6_18, pf_6_18, gf_6_19, pf_6_19, gf_6_20, pf_6_20, gf_6_21, pf_6_21, gf_6_22, pf_6_22, gf_6_23, gf_6_24, gf_6_25, gf_6_26, pf_6_26, gf_6_27, gf_6_28, pf_6_28, gf_0_0, pf_0_0, gf_0_1, pf_0_1, gf_0_2, pf_0_2, gf_0_3, pf_0_3, gf_0_4, pf_0_4, gf_2_0, pf_2_0, gf_2_1, pf_2_1, gf_2_2, pf_2_2, gf_2_3, pf_2_3, gf_2_4, pf_2_4, gf_2_5, pf_2_5, gf_2_6, pf_2_6, gf_2_7, pf_2_7, gf_2_8, pf_2_8, gf_2_9, pf_2_9, gf_2_10, pf_2_10, gf_2_11, pf_2_11, gf_2_12, gf_2_13, gf_1_0, pf_1_0, gf_1_1, pf_1_1, gf_1_2, pf_1_2, gf_1_3, pf_1_3, gf_1_4, pf_1_4, gf_1_5, pf_1_5, gf_1_6, pf_1_6, gf_1_7, pf_1_7, gf_1_8, pf_1_8, gf_1_9, pf_1_9, gf_1_10, pf_1_10, gf_1_11, gf_1_12, gf_1_13, al_sl, as_sl, al_ct, as_ct, al_hr, as_hr, al_tx, as_tx, al_rb, as_rb, al_sv, as_sv, al_out, as_out, al_od, al_ha, al_pa, al_ps, al_sn, al_ai, as_ai, al_az, as_az, al_aj, as_aj, ln_hr, kv_rs, kv_tr, kv_rp, kv_md, kv_lk, kv_hh, kv_pg, al_r0, al_r1, al_r2, al_r3, al_r4, al_r5, al_r6, al_r7, al_r8, al_r9, al_r10, al_r11, al_r12, al_r13, al_r14, al_r15, as_r0, as_r1, as_r2, as_r3, as_r4, as_r5, as_r6, as_r7, as_r8, as_r9, as_r10, as_r11, as_r12, as_r13, as_r14, as_r15, gH_sH, gH_sP, gH_sL, gH_sC, gP_sH, gP_sP, gP_sL, gP_sC, gL_sH, gL_sP, gL_sL, gL_sC, gC_sH, gC_sP, gC_sL, gC_sC, rz_sH, rz_sP, rz_sL, ro_sH, ro_sP, ro_sL, rj_sH, rj_sP, rj_sL, gH_upI, gH_upZ, gP_upI, gP_upZ, gL_upI, gL_upZ, rz_sC, gC_upI, x59, x60, x61, x62, x63, x64, x65, x66, x50, x51]
  | succ j ih =>
    intro i h
    have hl := oN_le (i := i) (n := 114) (by omega) (by omega)
    rw [show Int32.ofNat 114 = 114 from rfl] at hl
    have hc := oN_clamp (i := i) (by omega)
    have hg := oN_neg (i := i) (by omega)
    have ih2 := ih (i + 1) (by omega)
    rw [inc_ofNat] at ih2
    have hz := zJ_s (S := S) (i := i)
    generalize zJ S (i + 1) = Z1 at *
    generalize zJ S 114 = Z2 at *
    rw [e_88_52]
    simp [e_88_53, e_88_55, e_88_58, e_88_59, e_88_62, e_88_63, e_88_64, e_88_65, e_88_68, xentry, xent, Value.category, kB1_some, kB1_ite, kB_some, kB_ite, kB3_some, kX_some, kX_ite, kC_ite, kR_ret, kR_thr, kR_ite, kR0_ret, kR0_ite, kW_some, xretv, xst1, xst2, xcl, xsum, upI_1, upI_2, upJ_1, upJ_2, upJ_3, rwI_1, rwI_2, rwJ_1, rwJ_2, rwJ_3, upD_1, upD_2, upI_upI, upJ_upJ, x_mmin, x_mmax, x_objInit, List.length_cons, xmL, k1_iconst, k1_bipush, k1_sipush, k1_lconst, k1_dconst0, k1_dconst1, k1_fconst0, k1_fconst1, k1_iload, k1_lload, k1_aload, k1_dload, k1_fload, k1_istore, k1_lstore, k1_astore, k1_dstore, k1_fstore, k1_iinc, k1_iadd, k1_isub, k1_imul, k1_iand, k1_ixor, k1_ishr, k1_ladd, k1_lsub, k1_lmul, k1_land, k1_lor, k1_lcmp, k1_lshl, k1_lshr, k1_idiv, k1_irem, k1_ldiv, k1_lrem, k1_fdiv, k1_ddiv, k1_f2d, k1_i2l, k1_l2i, k1_i2b, k1_l2d, k1_l2f, k1_dcmpl, k1_dcmpg, k1_fcmpl, k1_fcmpg, k1_dup, k1_pop, k1_dup2, k1_goto, k1_ifeq, k1_ifne, k1_iflt, k1_ifge, k1_ifgt, k1_ifle, k1_icmpeq, k1_icmpne, k1_icmplt, k1_icmpge, k1_icmpgt, k1_icmple, k3_constI, k3_constJ, k3_constD, gf_5_0, gf_5_1, gf_5_2, gf_5_3, gf_5_4, gf_5_5, pf_5_5, gf_5_6, pf_5_6, gf_5_7, gf_5_8, gf_4_0, gf_4_1, pf_4_1, gf_4_2, pf_4_2, gf_4_3, pf_4_3, gf_4_4, pf_4_4, gf_4_5, pf_4_5, gf_4_6, gf_4_7, pf_4_7, gf_4_8, pf_4_8, gf_4_9, pf_4_9, gf_3_0, gf_3_1, pf_3_1, gf_6_0, gf_6_1, gf_6_2, gf_6_3, gf_6_4, gf_6_5, gf_6_6, gf_6_7, gf_6_8, gf_6_9, gf_6_10, gf_6_11, pf_6_11, gf_6_12, pf_6_12, gf_6_13, gf_6_14, pf_6_14, gf_6_15, pf_6_15, gf_6_16, pf_6_16, gf_6_17, pf_6_17, gf_6_18, pf_6_18, gf_6_19, pf_6_19, gf_6_20, pf_6_20, gf_6_21, pf_6_21, gf_6_22, pf_6_22, gf_6_23, gf_6_24, gf_6_25, gf_6_26, pf_6_26, gf_6_27, gf_6_28, pf_6_28, gf_0_0, pf_0_0, gf_0_1, pf_0_1, gf_0_2, pf_0_2, gf_0_3, pf_0_3, gf_0_4, pf_0_4, gf_2_0, pf_2_0, gf_2_1, pf_2_1, gf_2_2, pf_2_2, gf_2_3, pf_2_3, gf_2_4, pf_2_4, gf_2_5, pf_2_5, gf_2_6, pf_2_6, gf_2_7, pf_2_7, gf_2_8, pf_2_8, gf_2_9, pf_2_9, gf_2_10, pf_2_10, gf_2_11, pf_2_11, gf_2_12, gf_2_13, gf_1_0, pf_1_0, gf_1_1, pf_1_1, gf_1_2, pf_1_2, gf_1_3, pf_1_3, gf_1_4, pf_1_4, gf_1_5, pf_1_5, gf_1_6, pf_1_6, gf_1_7, pf_1_7, gf_1_8, pf_1_8, gf_1_9, pf_1_9, gf_1_10, pf_1_10, gf_1_11, gf_1_12, gf_1_13, al_sl, as_sl, al_ct, as_ct, al_hr, as_hr, al_tx, as_tx, al_rb, as_rb, al_sv, as_sv, al_out, as_out, al_od, al_ha, al_pa, al_ps, al_sn, al_ai, as_ai, al_az, as_az, al_aj, as_aj, ln_hr, kv_rs, kv_tr, kv_rp, kv_md, kv_lk, kv_hh, kv_pg, al_r0, al_r1, al_r2, al_r3, al_r4, al_r5, al_r6, al_r7, al_r8, al_r9, al_r10, al_r11, al_r12, al_r13, al_r14, al_r15, as_r0, as_r1, as_r2, as_r3, as_r4, as_r5, as_r6, as_r7, as_r8, as_r9, as_r10, as_r11, as_r12, as_r13, as_r14, as_r15, gH_sH, gH_sP, gH_sL, gH_sC, gP_sH, gP_sP, gP_sL, gP_sC, gL_sH, gL_sP, gL_sL, gL_sC, gC_sH, gC_sP, gC_sL, gC_sC, rz_sH, rz_sP, rz_sL, ro_sH, ro_sP, ro_sL, rj_sH, rj_sP, rj_sL, gH_upI, gH_upZ, gP_upI, gP_upZ, gL_upI, gL_upZ, rz_sC, gC_upI, x59, x60, x61, x62, x63, x64, x65, x66, x50, x51, hl, hc, hg, show ¬ 114 ≤ i by omega, hz]
    exact ih2
/-- parse -/
def pa0 (S : St) (e : Nat) : St := upI (upI (upI (zJ (zI S 384) 114) (8, 0, 0) 15 (Int32.ofNat e)) (8, 0, 0) 16 0) (8, 0, 0) 20 0
def pa1 (S : St) (e : Nat) : St := psL e (e + 1) (rlkF (scF (pa0 S e) e 0) e)
def pa2 (S : St) (e : Nat) : St := upI (pa1 S e) (8, 0, 0) 14 0
def pa3 (T : St) : St := upI (upI (upI (cpJ (cpI T 4 0 0 0) 9 0 5 0) (8, 0, 0) 11 0) (11, 10, 0) 0 0) (11, 10, 0) 1 0
def paF (S : St) (e : Nat) : St := if gd (pa1 S e) then pa3 (pa2 S e) else pa2 S e
def paV (S : St) (e : Nat) : Int32 := if gd (pa1 S e) then (pa1 S e).1 (11, 4, 0) 1 else -2 - (8 * (pa1 S e).1 (8, 0, 0) 21 + (pa1 S e).1 (8, 0, 0) 20)
theorem pa0_ok (he : e ≤ 700) : Pok (scF (pa0 S e) e 0) e := by
  refine scF_ok he ?_ (Nat.zero_le e)
  unfold pa0
  rw [upI_1, if_neg (by simp), upI_1, if_neg (by simp), upI_1, if_pos ⟨rfl, rfl⟩]
theorem pa0_D : Dok (pa0 S e) 0 0 := by
  have h4 : (pa0 S e).1 (11, 4, 0) = fun q => if q < 384 then 0 else S.1 (11, 4, 0) q := by
    unfold pa0
    rw [upI_fun' _ _ _ (by simp), upI_fun' _ _ _ (by simp), upI_fun' _ _ _ (by simp)]
    unfold zJ
    rw [rwJ_1]
    unfold zI
    rw [rwI_fun]
  unfold Dok
  rw [h4]
  exact ⟨rfl, by decide, rfl, by decide⟩
theorem rlkF_D (h : Dok S 0 0) : Dok (rlkF S e) 0 0 := by
  have key : ∀ {T : St} {g : Nat} {lo hi : Int32}, g ≠ 0 ∧ g ≠ 1 → Dok T 0 0 → Dok (rdr T e g lo hi) 0 0 := by
    intro T g lo hi hg hT
    have h2 := Dok_Df hT (rnF_Df (e := e) (lo := lo) (hi := hi))
    unfold rdr Dok
    rw [upI_1, if_neg (fun h => hg.1 h.2.symm), upI_1, if_neg (fun h => hg.2 h.2.symm)]
    exact h2
  refine Dok_Df ?_ spF_Df
  refine key (by decide) (key (by decide) (key (by decide) (key (by decide) (key (by decide) ?_))))
  exact Dok_Df h (muF_Df.trans goF_Df)
theorem x88n {y bf : Nat} (hS : Sok sx) (hb : S.1 (8, 0, 0) 14 = Int32.ofNat bf) (hbf : bf ≤ 700) (hy : y ≤ bf) : X xtab sx 88 0 [some (.ref (adr s0 (8, 0, 0))), some (.int (Int32.ofNat y)), none] [] (hp s0 S, m) = some (.inl (some (.int (paV (upI S (8, 0, 0) 12 0) y))), (hp s0 (paF (upI S (8, 0, 0) 12 0) y), m)) := by
  have hin := inN (v := Int32.ofNat y) (a := 0) (b := Int32.ofNat bf) (pz (by omega)) (by rw [oN_le (by omega) (by omega)]; exact hy)
  rw [show (0 : Int32).toInt64 = 0 from rfl] at hin
  generalize hU : upI S (8, 0, 0) 12 0 = U at *
  have hb2 : U.1 (8, 0, 0) 14 = Int32.ofNat bf := by rw [← hU, upI_1, if_neg (by simp)]; exact hb
  have h1 := x88_z1 (sx := sx) (s0 := s0) (S := U) (m := m) (v := Int32.ofNat y) 384 0 (by decide)
  rw [zI_0, show Int32.ofNat 0 = 0 from rfl] at h1
  have h2 := x88_z2 (sx := sx) (s0 := s0) (S := zI U 384) (m := m) (v := Int32.ofNat y) 114 0 (by decide)
  rw [zJ_0, show Int32.ofNat 0 = 0 from rfl] at h2
  have p15 : (pa0 U y).1 (8, 0, 0) 15 = Int32.ofNat y := by
    unfold pa0
    rw [upI_1, if_neg (by simp), upI_1, if_neg (by simp), upI_1, if_pos ⟨rfl, rfl⟩]
  have p16 : (pa0 U y).1 (8, 0, 0) 16 = Int32.ofNat 0 := by
    unfold pa0
    rw [upI_1, if_neg (by simp), upI_1, if_pos ⟨rfl, rfl⟩]
    rfl
  have h3 := x74 (sx := sx) (s0 := s0) (S := pa0 U y) (m := m) (e := y) (p := 0) (by omega) p15 p16 (Nat.zero_le y)
  have hk := pa0_ok (S := U) (e := y) (by omega)
  have h4 := x82 (sx := sx) (s0 := s0) (m := m) hS hk
  have hk2 := rlkF_ok hk
  have h5 := x88_w (sx := sx) (s0 := s0) (m := m) (v := Int32.ofNat y) (q := 114) hS (y + 1) (rlkF (scF (pa0 U y) y 0) y) hk2 ⟨0, 0, rlkF_D (Dok_Df pa0_D tkS_Df)⟩ (fun _ => by omega)
  have a1 : X xtab sx 88 0 [some (.ref (adr s0 (8, 0, 0))), some (.int (Int32.ofNat y)), none] [] (hp s0 S, m) = X xtab sx 88 30 [some (.ref (adr s0 (8, 0, 0))), some (.int (Int32.ofNat y)), some (.int 0)] [] (hp s0 U, m) := by
    simp [e_88_0, e_88_1, e_88_2, e_88_3, e_88_4, e_88_5, e_88_8, e_88_9, e_88_12, e_88_15, e_88_16, e_88_19, e_88_20, e_88_23, e_88_26, e_88_27, e_88_28, e_88_29, xentry, xent, Value.category, kB1_some, kB1_ite, kB_some, kB_ite, kB3_some, kX_some, kX_ite, kC_ite, kR_ret, kR_thr, kR_ite, kR0_ret, kR0_ite, kW_some, xretv, xst1, xst2, xcl, xsum, upI_1, upI_2, upJ_1, upJ_2, upJ_3, rwI_1, rwI_2, rwJ_1, rwJ_2, rwJ_3, upD_1, upD_2, upI_upI, upJ_upJ, x_mmin, x_mmax, x_objInit, List.length_cons, xmL, k1_iconst, k1_bipush, k1_sipush, k1_lconst, k1_dconst0, k1_dconst1, k1_fconst0, k1_fconst1, k1_iload, k1_lload, k1_aload, k1_dload, k1_fload, k1_istore, k1_lstore, k1_astore, k1_dstore, k1_fstore, k1_iinc, k1_iadd, k1_isub, k1_imul, k1_iand, k1_ixor, k1_ishr, k1_ladd, k1_lsub, k1_lmul, k1_land, k1_lor, k1_lcmp, k1_lshl, k1_lshr, k1_idiv, k1_irem, k1_ldiv, k1_lrem, k1_fdiv, k1_ddiv, k1_f2d, k1_i2l, k1_l2i, k1_i2b, k1_l2d, k1_l2f, k1_dcmpl, k1_dcmpg, k1_fcmpl, k1_fcmpg, k1_dup, k1_pop, k1_dup2, k1_goto, k1_ifeq, k1_ifne, k1_iflt, k1_ifge, k1_ifgt, k1_ifle, k1_icmpeq, k1_icmpne, k1_icmplt, k1_icmpge, k1_icmpgt, k1_icmple, k3_constI, k3_constJ, k3_constD, gf_5_0, gf_5_1, gf_5_2, gf_5_3, gf_5_4, gf_5_5, pf_5_5, gf_5_6, pf_5_6, gf_5_7, gf_5_8, gf_4_0, gf_4_1, pf_4_1, gf_4_2, pf_4_2, gf_4_3, pf_4_3, gf_4_4, pf_4_4, gf_4_5, pf_4_5, gf_4_6, gf_4_7, pf_4_7, gf_4_8, pf_4_8, gf_4_9, pf_4_9, gf_3_0, gf_3_1, pf_3_1, gf_6_0, gf_6_1, gf_6_2, gf_6_3, gf_6_4, gf_6_5, gf_6_6, gf_6_7, gf_6_8, gf_6_9, gf_6_10, gf_6_11, pf_6_11, gf_6_12, pf_6_12, gf_6_13, gf_6_14, pf_6_14, gf_6_15, pf_6_15, gf_6_16, pf_6_16, gf_6_17, pf_6_17, gf_6_18, pf_6_18, gf_6_19, pf_6_19, gf_6_20, pf_6_20, gf_6_21, pf_6_21, gf_6_22, pf_6_22, gf_6_23, gf_6_24, gf_6_25, gf_6_26, pf_6_26, gf_6_27, gf_6_28, pf_6_28, gf_0_0, pf_0_0, gf_0_1, pf_0_1, gf_0_2, pf_0_2, gf_0_3, pf_0_3, gf_0_4, pf_0_4, gf_2_0, pf_2_0, gf_2_1, pf_2_1, gf_2_2, pf_2_2, gf_2_3, pf_2_3, gf_2_4, pf_2_4, gf_2_5, pf_2_5, gf_2_6, pf_2_6, gf_2_7, pf_2_7, gf_2_8, pf_2_8, gf_2_9, pf_2_9, gf_2_10, pf_2_10, gf_2_11, pf_2_11, gf_2_12, gf_2_13, gf_1_0, pf_1_0, gf_1_1, pf_1_1, gf_1_2, pf_1_2, gf_1_3, pf_1_3, gf_1_4, pf_1_4, gf_1_5, pf_1_5, gf_1_6, pf_1_6, gf_1_7, pf_1_7, gf_1_8, pf_1_8, gf_1_9, pf_1_9, gf_1_10, pf_1_10, gf_1_11, gf_1_12, gf_1_13, al_sl, as_sl, al_ct, as_ct, al_hr, as_hr, al_tx, as_tx, al_rb, as_rb, al_sv, as_sv, al_out, as_out, al_od, al_ha, al_pa, al_ps, al_sn, al_ai, as_ai, al_az, as_az, al_aj, as_aj, ln_hr, kv_rs, kv_tr, kv_rp, kv_md, kv_lk, kv_hh, kv_pg, al_r0, al_r1, al_r2, al_r3, al_r4, al_r5, al_r6, al_r7, al_r8, al_r9, al_r10, al_r11, al_r12, al_r13, al_r14, al_r15, as_r0, as_r1, as_r2, as_r3, as_r4, as_r5, as_r6, as_r7, as_r8, as_r9, as_r10, as_r11, as_r12, as_r13, as_r14, as_r15, gH_sH, gH_sP, gH_sL, gH_sC, gP_sH, gP_sP, gP_sL, gP_sC, gL_sH, gL_sP, gL_sL, gL_sC, gC_sH, gC_sP, gC_sL, gC_sC, rz_sH, rz_sP, rz_sL, ro_sH, ro_sP, ro_sL, rj_sH, rj_sP, rj_sL, gH_upI, gH_upZ, gP_upI, gP_upZ, gL_upI, gL_upZ, rz_sC, gC_upI, x59, x60, x61, x62, x63, x64, x65, x66, x50, x51, hb, hin, x52, hU]
  have a2 : X xtab sx 88 50 [some (.ref (adr s0 (8, 0, 0))), some (.int (Int32.ofNat y)), some (.int 384)] [] (hp s0 (zI U 384), m) = X xtab sx 88 52 [some (.ref (adr s0 (8, 0, 0))), some (.int (Int32.ofNat y)), some (.int 0)] [] (hp s0 (zI U 384), m) := by
    simp [e_88_50, e_88_51, xentry, xent, Value.category, kB1_some, kB1_ite, kB_some, kB_ite, kB3_some, kX_some, kX_ite, kC_ite, kR_ret, kR_thr, kR_ite, kR0_ret, kR0_ite, kW_some, xretv, xst1, xst2, xcl, xsum, upI_1, upI_2, upJ_1, upJ_2, upJ_3, rwI_1, rwI_2, rwJ_1, rwJ_2, rwJ_3, upD_1, upD_2, upI_upI, upJ_upJ, x_mmin, x_mmax, x_objInit, List.length_cons, xmL, k1_iconst, k1_bipush, k1_sipush, k1_lconst, k1_dconst0, k1_dconst1, k1_fconst0, k1_fconst1, k1_iload, k1_lload, k1_aload, k1_dload, k1_fload, k1_istore, k1_lstore, k1_astore, k1_dstore, k1_fstore, k1_iinc, k1_iadd, k1_isub, k1_imul, k1_iand, k1_ixor, k1_ishr, k1_ladd, k1_lsub, k1_lmul, k1_land, k1_lor, k1_lcmp, k1_lshl, k1_lshr, k1_idiv, k1_irem, k1_ldiv, k1_lrem, k1_fdiv, k1_ddiv, k1_f2d, k1_i2l, k1_l2i, k1_i2b, k1_l2d, k1_l2f, k1_dcmpl, k1_dcmpg, k1_fcmpl, k1_fcmpg, k1_dup, k1_pop, k1_dup2, k1_goto, k1_ifeq, k1_ifne, k1_iflt, k1_ifge, k1_ifgt, k1_ifle, k1_icmpeq, k1_icmpne, k1_icmplt, k1_icmpge, k1_icmpgt, k1_icmple, k3_constI, k3_constJ, k3_constD, gf_5_0, gf_5_1, gf_5_2, gf_5_3, gf_5_4, gf_5_5, pf_5_5, gf_5_6, pf_5_6, gf_5_7, gf_5_8, gf_4_0, gf_4_1, pf_4_1, gf_4_2, pf_4_2, gf_4_3, pf_4_3, gf_4_4, pf_4_4, gf_4_5, pf_4_5, gf_4_6, gf_4_7, pf_4_7, gf_4_8, pf_4_8, gf_4_9, pf_4_9, gf_3_0, gf_3_1, pf_3_1, gf_6_0, gf_6_1, gf_6_2, gf_6_3, gf_6_4, gf_6_5, gf_6_6, gf_6_7, gf_6_8, gf_6_9, gf_6_10, gf_6_11, pf_6_11, gf_6_12, pf_6_12, gf_6_13, gf_6_14, pf_6_14, gf_6_15, pf_6_15, gf_6_16, pf_6_16, gf_6_17, pf_6_17, gf_6_18, pf_6_18, gf_6_19, pf_6_19, gf_6_20, pf_6_20, gf_6_21, pf_6_21, gf_6_22, pf_6_22, gf_6_23, gf_6_24, gf_6_25, gf_6_26, pf_6_26, gf_6_27, gf_6_28, pf_6_28, gf_0_0, pf_0_0, gf_0_1, pf_0_1, gf_0_2, pf_0_2, gf_0_3, pf_0_3, gf_0_4, pf_0_4, gf_2_0, pf_2_0, gf_2_1, pf_2_1, gf_2_2, pf_2_2, gf_2_3, pf_2_3, gf_2_4, pf_2_4, gf_2_5, pf_2_5, gf_2_6, pf_2_6, gf_2_7, pf_2_7, gf_2_8, pf_2_8, gf_2_9, pf_2_9, gf_2_10, pf_2_10, gf_2_11, pf_2_11, gf_2_12, gf_2_13, gf_1_0, pf_1_0, gf_1_1, pf_1_1, gf_1_2, pf_1_2, gf_1_3, pf_1_3, gf_1_4, pf_1_4, gf_1_5, pf_1_5, gf_1_6, pf_1_6, gf_1_7, pf_1_7, gf_1_8, pf_1_8, gf_1_9, pf_1_9, gf_1_10, pf_1_10, gf_1_11, gf_1_12, gf_1_13, al_sl, as_sl, al_ct, as_ct, al_hr, as_hr, al_tx, as_tx, al_rb, as_rb, al_sv, as_sv, al_out, as_out, al_od, al_ha, al_pa, al_ps, al_sn, al_ai, as_ai, al_az, as_az, al_aj, as_aj, ln_hr, kv_rs, kv_tr, kv_rp, kv_md, kv_lk, kv_hh, kv_pg, al_r0, al_r1, al_r2, al_r3, al_r4, al_r5, al_r6, al_r7, al_r8, al_r9, al_r10, al_r11, al_r12, al_r13, al_r14, al_r15, as_r0, as_r1, as_r2, as_r3, as_r4, as_r5, as_r6, as_r7, as_r8, as_r9, as_r10, as_r11, as_r12, as_r13, as_r14, as_r15, gH_sH, gH_sP, gH_sL, gH_sC, gP_sH, gP_sP, gP_sL, gP_sC, gL_sH, gL_sP, gL_sL, gL_sC, gC_sH, gC_sP, gC_sL, gC_sC, rz_sH, rz_sP, rz_sL, ro_sH, ro_sP, ro_sL, rj_sH, rj_sP, rj_sL, gH_upI, gH_upZ, gP_upI, gP_upZ, gL_upI, gL_upZ, rz_sC, gC_upI, x59, x60, x61, x62, x63, x64, x65, x66, x50, x51]
  have a3 : X xtab sx 88 71 [some (.ref (adr s0 (8, 0, 0))), some (.int (Int32.ofNat y)), some (.int 114)] [] (hp s0 (zJ (zI U 384) 114), m) = X xtab sx 88 94 [some (.ref (adr s0 (8, 0, 0))), some (.int (Int32.ofNat y)), some (.int 114)] [] (hp s0 (rlkF (scF (pa0 U y) y 0) y), m) := by
    unfold pa0 at *
    generalize zJ (zI U 384) 114 = Z at *
    simp [e_88_71, e_88_72, e_88_73, e_88_76, e_88_77, e_88_78, e_88_81, e_88_82, e_88_83, e_88_86, e_88_87, e_88_90, e_88_91, xentry, xent, Value.category, kB1_some, kB1_ite, kB_some, kB_ite, kB3_some, kX_some, kX_ite, kC_ite, kR_ret, kR_thr, kR_ite, kR0_ret, kR0_ite, kW_some, xretv, xst1, xst2, xcl, xsum, upI_1, upI_2, upJ_1, upJ_2, upJ_3, rwI_1, rwI_2, rwJ_1, rwJ_2, rwJ_3, upD_1, upD_2, upI_upI, upJ_upJ, x_mmin, x_mmax, x_objInit, List.length_cons, xmL, k1_iconst, k1_bipush, k1_sipush, k1_lconst, k1_dconst0, k1_dconst1, k1_fconst0, k1_fconst1, k1_iload, k1_lload, k1_aload, k1_dload, k1_fload, k1_istore, k1_lstore, k1_astore, k1_dstore, k1_fstore, k1_iinc, k1_iadd, k1_isub, k1_imul, k1_iand, k1_ixor, k1_ishr, k1_ladd, k1_lsub, k1_lmul, k1_land, k1_lor, k1_lcmp, k1_lshl, k1_lshr, k1_idiv, k1_irem, k1_ldiv, k1_lrem, k1_fdiv, k1_ddiv, k1_f2d, k1_i2l, k1_l2i, k1_i2b, k1_l2d, k1_l2f, k1_dcmpl, k1_dcmpg, k1_fcmpl, k1_fcmpg, k1_dup, k1_pop, k1_dup2, k1_goto, k1_ifeq, k1_ifne, k1_iflt, k1_ifge, k1_ifgt, k1_ifle, k1_icmpeq, k1_icmpne, k1_icmplt, k1_icmpge, k1_icmpgt, k1_icmple, k3_constI, k3_constJ, k3_constD, gf_5_0, gf_5_1, gf_5_2, gf_5_3, gf_5_4, gf_5_5, pf_5_5, gf_5_6, pf_5_6, gf_5_7, gf_5_8, gf_4_0, gf_4_1, pf_4_1, gf_4_2, pf_4_2, gf_4_3, pf_4_3, gf_4_4, pf_4_4, gf_4_5, pf_4_5, gf_4_6, gf_4_7, pf_4_7, gf_4_8, pf_4_8, gf_4_9, pf_4_9, gf_3_0, gf_3_1, pf_3_1, gf_6_0, gf_6_1, gf_6_2, gf_6_3, gf_6_4, gf_6_5, gf_6_6, gf_6_7, gf_6_8, gf_6_9, gf_6_10, gf_6_11, pf_6_11, gf_6_12, pf_6_12, gf_6_13, gf_6_14, pf_6_14, gf_6_15, pf_6_15, gf_6_16, pf_6_16, gf_6_17, pf_6_17, gf_6_18, pf_6_18, gf_6_19, pf_6_19, gf_6_20, pf_6_20, gf_6_21, pf_6_21, gf_6_22, pf_6_22, gf_6_23, gf_6_24, gf_6_25, gf_6_26, pf_6_26, gf_6_27, gf_6_28, pf_6_28, gf_0_0, pf_0_0, gf_0_1, pf_0_1, gf_0_2, pf_0_2, gf_0_3, pf_0_3, gf_0_4, pf_0_4, gf_2_0, pf_2_0, gf_2_1, pf_2_1, gf_2_2, pf_2_2, gf_2_3, pf_2_3, gf_2_4, pf_2_4, gf_2_5, pf_2_5, gf_2_6, pf_2_6, gf_2_7, pf_2_7, gf_2_8, pf_2_8, gf_2_9, pf_2_9, gf_2_10, pf_2_10, gf_2_11, pf_2_11, gf_2_12, gf_2_13, gf_1_0, pf_1_0, gf_1_1, pf_1_1, gf_1_2, pf_1_2, gf_1_3, pf_1_3, gf_1_4, pf_1_4, gf_1_5, pf_1_5, gf_1_6, pf_1_6, gf_1_7, pf_1_7, gf_1_8, pf_1_8, gf_1_9, pf_1_9, gf_1_10, pf_1_10, gf_1_11, gf_1_12, gf_1_13, al_sl, as_sl, al_ct, as_ct, al_hr, as_hr, al_tx, as_tx, al_rb, as_rb, al_sv, as_sv, al_out, as_out, al_od, al_ha, al_pa, al_ps, al_sn, al_ai, as_ai, al_az, as_az, al_aj, as_aj, ln_hr, kv_rs, kv_tr, kv_rp, kv_md, kv_lk, kv_hh, kv_pg, al_r0, al_r1, al_r2, al_r3, al_r4, al_r5, al_r6, al_r7, al_r8, al_r9, al_r10, al_r11, al_r12, al_r13, al_r14, al_r15, as_r0, as_r1, as_r2, as_r3, as_r4, as_r5, as_r6, as_r7, as_r8, as_r9, as_r10, as_r11, as_r12, as_r13, as_r14, as_r15, gH_sH, gH_sP, gH_sL, gH_sC, gP_sH, gP_sP, gP_sL, gP_sC, gL_sH, gL_sP, gL_sL, gL_sC, gC_sH, gC_sP, gC_sL, gC_sC, rz_sH, rz_sP, rz_sL, ro_sH, ro_sP, ro_sL, rj_sH, rj_sP, rj_sL, gH_upI, gH_upZ, gP_upI, gP_upZ, gL_upI, gL_upZ, rz_sC, gC_upI, x59, x60, x61, x62, x63, x64, x65, x66, x50, x51, h3, h4]
  rw [a1, h1, a2, h2, a3, h5]
  rw [show psL y (y + 1) (rlkF (scF (pa0 U y) y 0) y) = pa1 U y from rfl]
  unfold paV paF pa2
  generalize pa1 U y = P at *
  have g1 : X xtab sx 75 0 [some (.ref (adr s0 (8, 0, 0)))] [] (hp s0 (upI P (8, 0, 0) 14 0), m) = some (.inl (some (.int (b32 (decide (P.1 (8, 0, 0) 20 = 0))))), (hp s0 (upI P (8, 0, 0) 14 0), m)) := by
    have h := x75 (sx := sx) (s0 := s0) (S := upI P (8, 0, 0) 14 0) (m := m)
    rw [show (upI P (8, 0, 0) 14 0).1 (8, 0, 0) 20 = P.1 (8, 0, 0) 20 by rw [upI_1, if_neg (by simp)]] at h
    exact h
  by_cases hg : gd P
  · rw [decide_eq_true (gdE hg), show b32 true = 1 from rfl] at g1
    rw [if_pos hg, if_pos hg]
    have c1 := x54 (sx := sx) (s0 := s0) (S := upI P (8, 0, 0) 14 0) (m := m) (p := 4) (a := 0) (j := 0) (b := 0) (by decide) (by decide) rfl rfl (by decide) (by decide) (by decide) (Or.inl (by decide))
    have c2 := x55 (sx := sx) (s0 := s0) (S := cpI (upI P (8, 0, 0) 14 0) 4 0 0 0) (m := m) (p := 9) (a := 0) (j := 5) (b := 0) (by decide) (by decide) rfl rfl (by decide) (by decide) (by decide) (Or.inl (by decide))
    rw [show Int32.ofNat 0 = 0 from rfl] at c1 c2
    have c3 : (cpJ (cpI (upI P (8, 0, 0) 14 0) 4 0 0 0) 9 0 5 0).1 (11, 0, 0) 1 = P.1 (11, 4, 0) 1 := by
      unfold cpJ cpI
      rw [rwJ_1, rwI_1, if_pos rfl]
      unfold va_cpy
      rw [if_pos (by decide), upI_1, if_neg (by simp)]
    unfold pa3
    generalize cpJ (cpI (upI P (8, 0, 0) 14 0) 4 0 0 0) 9 0 5 0 = C at *
    simp [e_88_115, e_88_116, e_88_117, e_88_120, e_88_121, e_88_124, e_88_127, e_88_129, e_88_131, e_88_132, e_88_135, e_88_136, e_88_137, e_88_140, e_88_141, e_88_142, e_88_143, e_88_144, e_88_147, e_88_148, e_88_149, e_88_152, e_88_153, e_88_156, e_88_157, e_88_160, e_88_161, e_88_162, e_88_165, e_88_166, e_88_169, e_88_170, e_88_171, e_88_174, e_88_175, e_88_178, e_88_179, e_88_180, e_88_181, e_88_182, e_88_185, e_88_186, e_88_187, e_88_188, e_88_189, e_88_192, e_88_193, e_88_194, xentry, xent, Value.category, kB1_some, kB1_ite, kB_some, kB_ite, kB3_some, kX_some, kX_ite, kC_ite, kR_ret, kR_thr, kR_ite, kR0_ret, kR0_ite, kW_some, xretv, xst1, xst2, xcl, xsum, upI_1, upI_2, upJ_1, upJ_2, upJ_3, rwI_1, rwI_2, rwJ_1, rwJ_2, rwJ_3, upD_1, upD_2, upI_upI, upJ_upJ, x_mmin, x_mmax, x_objInit, List.length_cons, xmL, k1_iconst, k1_bipush, k1_sipush, k1_lconst, k1_dconst0, k1_dconst1, k1_fconst0, k1_fconst1, k1_iload, k1_lload, k1_aload, k1_dload, k1_fload, k1_istore, k1_lstore, k1_astore, k1_dstore, k1_fstore, k1_iinc, k1_iadd, k1_isub, k1_imul, k1_iand, k1_ixor, k1_ishr, k1_ladd, k1_lsub, k1_lmul, k1_land, k1_lor, k1_lcmp, k1_lshl, k1_lshr, k1_idiv, k1_irem, k1_ldiv, k1_lrem, k1_fdiv, k1_ddiv, k1_f2d, k1_i2l, k1_l2i, k1_i2b, k1_l2d, k1_l2f, k1_dcmpl, k1_dcmpg, k1_fcmpl, k1_fcmpg, k1_dup, k1_pop, k1_dup2, k1_goto, k1_ifeq, k1_ifne, k1_iflt, k1_ifge, k1_ifgt, k1_ifle, k1_icmpeq, k1_icmpne, k1_icmplt, k1_icmpge, k1_icmpgt, k1_icmple, k3_constI, k3_constJ, k3_constD, gf_5_0, gf_5_1, gf_5_2, gf_5_3, gf_5_4, gf_5_5, pf_5_5, gf_5_6, pf_5_6, gf_5_7, gf_5_8, gf_4_0, gf_4_1, pf_4_1, gf_4_2, pf_4_2, gf_4_3, pf_4_3, gf_4_4, pf_4_4, gf_4_5, pf_4_5, gf_4_6, gf_4_7, pf_4_7, gf_4_8, pf_4_8, gf_4_9, pf_4_9, gf_3_0, gf_3_1, pf_3_1, gf_6_0, gf_6_1, gf_6_2, gf_6_3, gf_6_4, gf_6_5, gf_6_6, gf_6_7, gf_6_8, gf_6_9, gf_6_10, gf_6_11, pf_6_11, gf_6_12, pf_6_12, gf_6_13, gf_6_14, pf_6_14, gf_6_15, pf_6_15, gf_6_16, pf_6_16, gf_6_17, pf_6_17, gf_6_18, pf_6_18, gf_6_19, pf_6_19, gf_6_20, pf_6_20, gf_6_21, pf_6_21, gf_6_22, pf_6_22, gf_6_23, gf_6_24, gf_6_25, gf_6_26, pf_6_26, gf_6_27, gf_6_28, pf_6_28, gf_0_0, pf_0_0, gf_0_1, pf_0_1, gf_0_2, pf_0_2, gf_0_3, pf_0_3, gf_0_4, pf_0_4, gf_2_0, pf_2_0, gf_2_1, pf_2_1, gf_2_2, pf_2_2, gf_2_3, pf_2_3, gf_2_4, pf_2_4, gf_2_5, pf_2_5, gf_2_6, pf_2_6, gf_2_7, pf_2_7, gf_2_8, pf_2_8, gf_2_9, pf_2_9, gf_2_10, pf_2_10, gf_2_11, pf_2_11, gf_2_12, gf_2_13, gf_1_0, pf_1_0, gf_1_1, pf_1_1, gf_1_2, pf_1_2, gf_1_3, pf_1_3, gf_1_4, pf_1_4, gf_1_5, pf_1_5, gf_1_6, pf_1_6, gf_1_7, pf_1_7, gf_1_8, pf_1_8, gf_1_9, pf_1_9, gf_1_10, pf_1_10, gf_1_11, gf_1_12, gf_1_13, al_sl, as_sl, al_ct, as_ct, al_hr, as_hr, al_tx, as_tx, al_rb, as_rb, al_sv, as_sv, al_out, as_out, al_od, al_ha, al_pa, al_ps, al_sn, al_ai, as_ai, al_az, as_az, al_aj, as_aj, ln_hr, kv_rs, kv_tr, kv_rp, kv_md, kv_lk, kv_hh, kv_pg, al_r0, al_r1, al_r2, al_r3, al_r4, al_r5, al_r6, al_r7, al_r8, al_r9, al_r10, al_r11, al_r12, al_r13, al_r14, al_r15, as_r0, as_r1, as_r2, as_r3, as_r4, as_r5, as_r6, as_r7, as_r8, as_r9, as_r10, as_r11, as_r12, as_r13, as_r14, as_r15, gH_sH, gH_sP, gH_sL, gH_sC, gP_sH, gP_sP, gP_sL, gP_sC, gL_sH, gL_sP, gL_sL, gL_sC, gC_sH, gC_sP, gC_sL, gC_sC, rz_sH, rz_sP, rz_sL, ro_sH, ro_sP, ro_sL, rj_sH, rj_sP, rj_sL, gH_upI, gH_upZ, gP_upI, gP_upZ, gL_upI, gL_upZ, rz_sC, gC_upI, x59, x60, x61, x62, x63, x64, x65, x66, x50, x51, g1, c1, c2, c3, show vp_nar .boolean 0 = 0 from rfl]
  · rw [decide_eq_false (gdN hg), show b32 false = 0 from rfl] at g1
    rw [if_neg hg, if_neg hg]
    simp [e_88_115, e_88_116, e_88_117, e_88_120, e_88_121, e_88_124, e_88_127, e_88_129, e_88_131, e_88_132, e_88_135, e_88_136, e_88_137, e_88_140, e_88_141, e_88_142, xentry, xent, Value.category, kB1_some, kB1_ite, kB_some, kB_ite, kB3_some, kX_some, kX_ite, kC_ite, kR_ret, kR_thr, kR_ite, kR0_ret, kR0_ite, kW_some, xretv, xst1, xst2, xcl, xsum, upI_1, upI_2, upJ_1, upJ_2, upJ_3, rwI_1, rwI_2, rwJ_1, rwJ_2, rwJ_3, upD_1, upD_2, upI_upI, upJ_upJ, x_mmin, x_mmax, x_objInit, List.length_cons, xmL, k1_iconst, k1_bipush, k1_sipush, k1_lconst, k1_dconst0, k1_dconst1, k1_fconst0, k1_fconst1, k1_iload, k1_lload, k1_aload, k1_dload, k1_fload, k1_istore, k1_lstore, k1_astore, k1_dstore, k1_fstore, k1_iinc, k1_iadd, k1_isub, k1_imul, k1_iand, k1_ixor, k1_ishr, k1_ladd, k1_lsub, k1_lmul, k1_land, k1_lor, k1_lcmp, k1_lshl, k1_lshr, k1_idiv, k1_irem, k1_ldiv, k1_lrem, k1_fdiv, k1_ddiv, k1_f2d, k1_i2l, k1_l2i, k1_i2b, k1_l2d, k1_l2f, k1_dcmpl, k1_dcmpg, k1_fcmpl, k1_fcmpg, k1_dup, k1_pop, k1_dup2, k1_goto, k1_ifeq, k1_ifne, k1_iflt, k1_ifge, k1_ifgt, k1_ifle, k1_icmpeq, k1_icmpne, k1_icmplt, k1_icmpge, k1_icmpgt, k1_icmple, k3_constI, k3_constJ, k3_constD, gf_5_0, gf_5_1, gf_5_2, gf_5_3, gf_5_4, gf_5_5, pf_5_5, gf_5_6, pf_5_6, gf_5_7, gf_5_8, gf_4_0, gf_4_1, pf_4_1, gf_4_2, pf_4_2, gf_4_3, pf_4_3, gf_4_4, pf_4_4, gf_4_5, pf_4_5, gf_4_6, gf_4_7, pf_4_7, gf_4_8, pf_4_8, gf_4_9, pf_4_9, gf_3_0, gf_3_1, pf_3_1, gf_6_0, gf_6_1, gf_6_2, gf_6_3, gf_6_4, gf_6_5, gf_6_6, gf_6_7, gf_6_8, gf_6_9, gf_6_10, gf_6_11, pf_6_11, gf_6_12, pf_6_12, gf_6_13, gf_6_14, pf_6_14, gf_6_15, pf_6_15, gf_6_16, pf_6_16, gf_6_17, pf_6_17, gf_6_18, pf_6_18, gf_6_19, pf_6_19, gf_6_20, pf_6_20, gf_6_21, pf_6_21, gf_6_22, pf_6_22, gf_6_23, gf_6_24, gf_6_25, gf_6_26, pf_6_26, gf_6_27, gf_6_28, pf_6_28, gf_0_0, pf_0_0, gf_0_1, pf_0_1, gf_0_2, pf_0_2, gf_0_3, pf_0_3, gf_0_4, pf_0_4, gf_2_0, pf_2_0, gf_2_1, pf_2_1, gf_2_2, pf_2_2, gf_2_3, pf_2_3, gf_2_4, pf_2_4, gf_2_5, pf_2_5, gf_2_6, pf_2_6, gf_2_7, pf_2_7, gf_2_8, pf_2_8, gf_2_9, pf_2_9, gf_2_10, pf_2_10, gf_2_11, pf_2_11, gf_2_12, gf_2_13, gf_1_0, pf_1_0, gf_1_1, pf_1_1, gf_1_2, pf_1_2, gf_1_3, pf_1_3, gf_1_4, pf_1_4, gf_1_5, pf_1_5, gf_1_6, pf_1_6, gf_1_7, pf_1_7, gf_1_8, pf_1_8, gf_1_9, pf_1_9, gf_1_10, pf_1_10, gf_1_11, gf_1_12, gf_1_13, al_sl, as_sl, al_ct, as_ct, al_hr, as_hr, al_tx, as_tx, al_rb, as_rb, al_sv, as_sv, al_out, as_out, al_od, al_ha, al_pa, al_ps, al_sn, al_ai, as_ai, al_az, as_az, al_aj, as_aj, ln_hr, kv_rs, kv_tr, kv_rp, kv_md, kv_lk, kv_hh, kv_pg, al_r0, al_r1, al_r2, al_r3, al_r4, al_r5, al_r6, al_r7, al_r8, al_r9, al_r10, al_r11, al_r12, al_r13, al_r14, al_r15, as_r0, as_r1, as_r2, as_r3, as_r4, as_r5, as_r6, as_r7, as_r8, as_r9, as_r10, as_r11, as_r12, as_r13, as_r14, as_r15, gH_sH, gH_sP, gH_sL, gH_sC, gP_sH, gP_sP, gP_sL, gP_sC, gL_sH, gL_sP, gL_sL, gL_sC, gC_sH, gC_sP, gC_sL, gC_sC, rz_sH, rz_sP, rz_sL, ro_sH, ro_sP, ro_sL, rj_sH, rj_sP, rj_sL, gH_upI, gH_upZ, gP_upI, gP_upZ, gL_upI, gL_upZ, rz_sC, gC_upI, x59, x60, x61, x62, x63, x64, x65, x66, x50, x51, g1]
theorem x88t {bf : Nat} (hb : S.1 (8, 0, 0) 14 = Int32.ofNat bf) (hv : v < 0 ∨ Int32.ofNat bf < v) : X xtab sx 88 0 [some (.ref (adr s0 (8, 0, 0))), some (.int v), none] [] (hp s0 S, m) = some (.inl (some (.int 0)), (hp s0 (upI S (8, 0, 0) 12 1), m)) := by
  have hin := inT (v := v) (a := 0) (b := Int32.ofNat bf) hv
  rw [show (0 : Int32).toInt64 = 0 from rfl] at hin
  simp [e_88_0, e_88_1, e_88_2, e_88_3, e_88_4, e_88_5, e_88_8, e_88_9, e_88_12, e_88_15, e_88_16, e_88_19, e_88_20, e_88_23, e_88_26, e_88_27, xentry, xent, Value.category, kB1_some, kB1_ite, kB_some, kB_ite, kB3_some, kX_some, kX_ite, kC_ite, kR_ret, kR_thr, kR_ite, kR0_ret, kR0_ite, kW_some, xretv, xst1, xst2, xcl, xsum, upI_1, upI_2, upJ_1, upJ_2, upJ_3, rwI_1, rwI_2, rwJ_1, rwJ_2, rwJ_3, upD_1, upD_2, upI_upI, upJ_upJ, x_mmin, x_mmax, x_objInit, List.length_cons, xmL, k1_iconst, k1_bipush, k1_sipush, k1_lconst, k1_dconst0, k1_dconst1, k1_fconst0, k1_fconst1, k1_iload, k1_lload, k1_aload, k1_dload, k1_fload, k1_istore, k1_lstore, k1_astore, k1_dstore, k1_fstore, k1_iinc, k1_iadd, k1_isub, k1_imul, k1_iand, k1_ixor, k1_ishr, k1_ladd, k1_lsub, k1_lmul, k1_land, k1_lor, k1_lcmp, k1_lshl, k1_lshr, k1_idiv, k1_irem, k1_ldiv, k1_lrem, k1_fdiv, k1_ddiv, k1_f2d, k1_i2l, k1_l2i, k1_i2b, k1_l2d, k1_l2f, k1_dcmpl, k1_dcmpg, k1_fcmpl, k1_fcmpg, k1_dup, k1_pop, k1_dup2, k1_goto, k1_ifeq, k1_ifne, k1_iflt, k1_ifge, k1_ifgt, k1_ifle, k1_icmpeq, k1_icmpne, k1_icmplt, k1_icmpge, k1_icmpgt, k1_icmple, k3_constI, k3_constJ, k3_constD, gf_5_0, gf_5_1, gf_5_2, gf_5_3, gf_5_4, gf_5_5, pf_5_5, gf_5_6, pf_5_6, gf_5_7, gf_5_8, gf_4_0, gf_4_1, pf_4_1, gf_4_2, pf_4_2, gf_4_3, pf_4_3, gf_4_4, pf_4_4, gf_4_5, pf_4_5, gf_4_6, gf_4_7, pf_4_7, gf_4_8, pf_4_8, gf_4_9, pf_4_9, gf_3_0, gf_3_1, pf_3_1, gf_6_0, gf_6_1, gf_6_2, gf_6_3, gf_6_4, gf_6_5, gf_6_6, gf_6_7, gf_6_8, gf_6_9, gf_6_10, gf_6_11, pf_6_11, gf_6_12, pf_6_12, gf_6_13, gf_6_14, pf_6_14, gf_6_15, pf_6_15, gf_6_16, pf_6_16, gf_6_17, pf_6_17, gf_6_18, pf_6_18, gf_6_19, pf_6_19, gf_6_20, pf_6_20, gf_6_21, pf_6_21, gf_6_22, pf_6_22, gf_6_23, gf_6_24, gf_6_25, gf_6_26, pf_6_26, gf_6_27, gf_6_28, pf_6_28, gf_0_0, pf_0_0, gf_0_1, pf_0_1, gf_0_2, pf_0_2, gf_0_3, pf_0_3, gf_0_4, pf_0_4, gf_2_0, pf_2_0, gf_2_1, pf_2_1, gf_2_2, pf_2_2, gf_2_3, pf_2_3, gf_2_4, pf_2_4, gf_2_5, pf_2_5, gf_2_6, pf_2_6, gf_2_7, pf_2_7, gf_2_8, pf_2_8, gf_2_9, pf_2_9, gf_2_10, pf_2_10, gf_2_11, pf_2_11, gf_2_12, gf_2_13, gf_1_0, pf_1_0, gf_1_1, pf_1_1, gf_1_2, pf_1_2, gf_1_3, pf_1_3, gf_1_4, pf_1_4, gf_1_5, pf_1_5, gf_1_6, pf_1_6, gf_1_7, pf_1_7, gf_1_8, pf_1_8, gf_1_9, pf_1_9, gf_1_10, pf_1_10, gf_1_11, gf_1_12, gf_1_13, al_sl, as_sl, al_ct, as_ct, al_hr, as_hr, al_tx, as_tx, al_rb, as_rb, al_sv, as_sv, al_out, as_out, al_od, al_ha, al_pa, al_ps, al_sn, al_ai, as_ai, al_az, as_az, al_aj, as_aj, ln_hr, kv_rs, kv_tr, kv_rp, kv_md, kv_lk, kv_hh, kv_pg, al_r0, al_r1, al_r2, al_r3, al_r4, al_r5, al_r6, al_r7, al_r8, al_r9, al_r10, al_r11, al_r12, al_r13, al_r14, al_r15, as_r0, as_r1, as_r2, as_r3, as_r4, as_r5, as_r6, as_r7, as_r8, as_r9, as_r10, as_r11, as_r12, as_r13, as_r14, as_r15, gH_sH, gH_sP, gH_sL, gH_sC, gP_sH, gP_sP, gP_sL, gP_sC, gL_sH, gL_sP, gL_sL, gL_sC, gC_sH, gC_sP, gC_sL, gC_sC, rz_sH, rz_sP, rz_sL, ro_sH, ro_sP, ro_sL, rj_sH, rj_sP, rj_sL, gH_upI, gH_upZ, gP_upI, gP_upZ, gL_upI, gL_upZ, rz_sC, gC_upI, x59, x60, x61, x62, x63, x64, x65, x66, x50, x51, hb, hin, x52]
end R19
