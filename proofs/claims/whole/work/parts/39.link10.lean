section P14
variable {sx : xSx} {s0 k k' p' g : Nat} {S : St} {m : Nat × Nat × Nat} {v2 : Option Value} {dr : Int32}
def ylL (S : St) (k : Nat) : Nat → St
  | 0 => S
  | j + 1 => yldF (ylL S k j) k j (hisF S k j) (S.1 (12, k, 0) 3)
theorem ylL_lk : ∀ j, (ylL S k j).1 (12, k', 0) g = S.1 (12, k', 0) g := by
  intro j
  induction j with
  | zero => rfl
  | succ j ih =>
    unfold ylL yldF
    simp [upI_1, ih]
theorem ylL_pg : ∀ j, (ylL S k j).1 (17, k', p') g = S.1 (17, k', p') g := by
  intro j
  induction j with
  | zero => rfl
  | succ j ih =>
    unfold ylL yldF
    simp [upI_1, ih]
theorem x170_b (hk : k < 13) {n : Nat} (hn : n ≤ 12) (hnp : S.1 (12, k, 0) 10 = Int32.ofNat n) (hhs : ∀ p, p < n → (¬ S.1 (17, k, p) 1 < 0 ∧ hisF S k p < 6)) {R : Option xR} : ∀ (j i : Nat), i + j = n → (X xtab sx 170 90 [some (.ref (adr s0 (12, k, 0))), some (.int (Int32.ofNat n)), v2] [] (hp s0 (ylL S k n), m) = R) → X xtab sx 170 90 [some (.ref (adr s0 (12, k, 0))), some (.int (Int32.ofNat i)), v2] [] (hp s0 (ylL S k i), m) = R := by
  intro j
  induction j with
  | zero =>
    intro i h hR
    have hi : i = n := by omega
    subst hi
    exact hR
  | succ j ih =>
    intro i h hR
    have hi : i < 12 := by omega
    have hc := oN_clamp (i := i) (by omega)
    have hg := oN_neg (i := i) (by omega)
    have hl := oN_le (i := i) (n := n) (by omega) (by omega)
    have hf : ¬ n ≤ i := by omega
    have ih2 := ih (i + 1) (by omega) hR
    obtain ⟨h0, h1⟩ := hhs i (by omega)
    have h0' : 0 ≤ S.1 (17, k, i) 1 := Int32.not_lt.mp h0
    have h1' : ¬ 6 ≤ (S.1 (17, k, i) 1).toNatClampNeg := Nat.not_le.mpr h1
    have hnp2 := (ylL_lk (S := S) (k := k) (k' := k) (g := 10) i).trans hnp
    have hpr := ylL_lk (S := S) (k := k) (k' := k) (g := 3) i
    have hpg := ylL_pg (S := S) (k := k) (k' := k) (p' := i) (g := 1) i
    have hx := x183 (sx := sx) (s0 := s0) (S := ylL S k i) (m := m) hk hi h1 (refund := S.1 (12, k, 0) 3)
    rw [hisF] at hx
    rw [inc_ofNat, show ylL S k (i + 1) = yldF (ylL S k i) k i (hisF S k i) (S.1 (12, k, 0) 3) from rfl, hisF] at ih2
    rw [e_170_90]
    have h1'' : (S.1 (17, k, i) 1).toNatClampNeg < 6 := h1
    simp [e_170_0, e_170_1, e_170_2, e_170_3, e_170_4, e_170_7, e_170_10, e_170_11, e_170_14, e_170_15, e_170_16, e_170_17, e_170_20, e_170_21, e_170_24, e_170_25, e_170_26, e_170_29, e_170_30, e_170_31, e_170_34, e_170_37, e_170_40, e_170_43, e_170_44, e_170_46, e_170_47, e_170_50, e_170_51, e_170_52, e_170_55, e_170_56, e_170_59, e_170_60, e_170_63, e_170_64, e_170_67, e_170_68, e_170_71, e_170_72, e_170_75, e_170_78, e_170_79, e_170_80, e_170_83, e_170_84, e_170_85, e_170_88, e_170_89, e_170_91, e_170_92, e_170_95, e_170_98, e_170_99, e_170_102, e_170_103, e_170_104, e_170_105, e_170_108, e_170_109, e_170_112, e_170_113, e_170_114, e_170_117, e_170_118, e_170_119, e_170_122, e_170_125, e_170_128, e_170_131, e_170_132, e_170_135, e_170_136, e_170_137, e_170_140, e_170_141, e_170_142, e_170_145, e_170_146, e_170_147, e_170_150, e_170_151, e_170_152, e_170_153, e_170_154, e_170_157, e_170_160, e_170_161, e_170_164, e_170_165, e_170_166, e_170_167, e_170_170, e_170_171, e_170_174, e_170_175, e_170_176, e_170_179, e_170_180, e_170_181, e_170_184, e_170_185, e_170_188, e_170_191, e_170_194, e_170_197, e_170_198, e_170_201, e_170_202, e_170_205, e_170_206, xentry, xent, Value.category, kB1_some, kB1_ite, kB_some, kB_ite, kB3_some, kX_some, kX_ite, kC_ite, kR_ret, kR_thr, kR_ite, kR0_ret, kR0_ite, kW_some, xretv, xst1, xst2, xcl, xsum, upI_1, upI_2, upJ_1, upJ_2, upJ_3, rwI_1, rwI_2, rwJ_1, rwJ_2, rwJ_3, upD_1, upD_2, upI_upI, upJ_upJ, x_mmin, x_mmax, x_objInit, List.length_cons, xmL, k1_iconst, k1_bipush, k1_sipush, k1_lconst, k1_dconst0, k1_dconst1, k1_fconst0, k1_fconst1, k1_iload, k1_lload, k1_aload, k1_dload, k1_fload, k1_istore, k1_lstore, k1_astore, k1_dstore, k1_fstore, k1_iinc, k1_iadd, k1_isub, k1_imul, k1_iand, k1_ixor, k1_ishr, k1_ladd, k1_lsub, k1_lmul, k1_land, k1_lor, k1_lcmp, k1_lshl, k1_lshr, k1_idiv, k1_irem, k1_ldiv, k1_lrem, k1_fdiv, k1_ddiv, k1_f2d, k1_i2l, k1_l2i, k1_i2b, k1_l2d, k1_l2f, k1_dcmpl, k1_dcmpg, k1_fcmpl, k1_fcmpg, k1_dup, k1_pop, k1_dup2, k1_goto, k1_ifeq, k1_ifne, k1_iflt, k1_ifge, k1_ifgt, k1_ifle, k1_icmpeq, k1_icmpne, k1_icmplt, k1_icmpge, k1_icmpgt, k1_icmple, k3_constI, k3_constJ, k3_constD, gf_5_0, gf_5_1, gf_5_2, gf_5_3, gf_5_4, gf_5_5, pf_5_5, gf_5_6, pf_5_6, gf_5_7, gf_5_8, gf_4_0, gf_4_1, pf_4_1, gf_4_2, pf_4_2, gf_4_3, pf_4_3, gf_4_4, pf_4_4, gf_4_5, pf_4_5, gf_4_6, gf_4_7, pf_4_7, gf_4_8, pf_4_8, gf_4_9, pf_4_9, gf_3_0, gf_3_1, pf_3_1, gf_6_0, gf_6_1, gf_6_2, gf_6_3, gf_6_4, gf_6_5, gf_6_6, gf_6_7, gf_6_8, gf_6_9, gf_6_10, gf_6_11, pf_6_11, gf_6_12, pf_6_12, gf_6_13, gf_6_14, pf_6_14, gf_6_15, pf_6_15, gf_6_16, pf_6_16, gf_6_17, pf_6_17, gf_6_18, pf_6_18, gf_6_19, pf_6_19, gf_6_20, pf_6_20, gf_6_21, pf_6_21, gf_6_22, pf_6_22, gf_6_23, gf_6_24, gf_6_25, gf_6_26, pf_6_26, gf_6_27, gf_6_28, pf_6_28, gf_0_0, pf_0_0, gf_0_1, pf_0_1, gf_0_2, pf_0_2, gf_0_3, pf_0_3, gf_0_4, pf_0_4, gf_2_0, pf_2_0, gf_2_1, pf_2_1, gf_2_2, pf_2_2, gf_2_3, pf_2_3, gf_2_4, pf_2_4, gf_2_5, pf_2_5, gf_2_6, pf_2_6, gf_2_7, pf_2_7, gf_2_8, pf_2_8, gf_2_9, pf_2_9, gf_2_10, pf_2_10, gf_2_11, pf_2_11, gf_2_12, gf_2_13, gf_1_0, pf_1_0, gf_1_1, pf_1_1, gf_1_2, pf_1_2, gf_1_3, pf_1_3, gf_1_4, pf_1_4, gf_1_5, pf_1_5, gf_1_6, pf_1_6, gf_1_7, pf_1_7, gf_1_8, pf_1_8, gf_1_9, pf_1_9, gf_1_10, pf_1_10, gf_1_11, gf_1_12, gf_1_13, al_sl, as_sl, al_ct, as_ct, al_hr, as_hr, al_tx, as_tx, al_rb, as_rb, al_sv, as_sv, al_out, as_out, al_od, al_ha, al_pa, al_ps, al_sn, al_ai, as_ai, al_az, as_az, al_aj, as_aj, ln_hr, kv_rs, kv_tr, kv_rp, kv_md, kv_lk, kv_hh, kv_pg, hk, hnp2, hi, hc, hg, hl, hf, h0, h0', h1', h1'', hpr, hpg, hx, Nat.not_le.mpr hi]
    exact ih2
def dvL (S : St) (k : Nat) : Nat → St
  | 0 => S
  | j + 1 => dlvF (dvL S k j) k j (hisF S k j) (S.1 (12, k, 0) 2) (S.1 (12, k, 0) 3)
theorem dvL_lk : ∀ j, (dvL S k j).1 (12, k', 0) g = S.1 (12, k', 0) g := by
  intro j
  induction j with
  | zero => rfl
  | succ j ih =>
    unfold dvL dlvF
    simp [upI_1, upJ_1, ih]
theorem dvL_pg : ∀ j, (dvL S k j).1 (17, k', p') g = S.1 (17, k', p') g := by
  intro j
  induction j with
  | zero => rfl
  | succ j ih =>
    unfold dvL dlvF
    simp [upI_1, upJ_1, ih]
theorem x170_c (hk : k < 13) {n : Nat} (hn : n ≤ 12) (hnp : S.1 (12, k, 0) 10 = Int32.ofNat n) (hhs : ∀ p, p < n → (¬ S.1 (17, k, p) 1 < 0 ∧ hisF S k p < 6)) {R : Option xR} : ∀ (j i : Nat), i + j = n → (X xtab sx 170 152 [some (.ref (adr s0 (12, k, 0))), some (.int dr), some (.int (Int32.ofNat n))] [] (hp s0 (dvL S k n), m) = R) → X xtab sx 170 152 [some (.ref (adr s0 (12, k, 0))), some (.int dr), some (.int (Int32.ofNat i))] [] (hp s0 (dvL S k i), m) = R := by
  intro j
  induction j with
  | zero =>
    intro i h hR
    have hi : i = n := by omega
    subst hi
    exact hR
  | succ j ih =>
    intro i h hR
    have hi : i < 12 := by omega
    have hc := oN_clamp (i := i) (by omega)
    have hg := oN_neg (i := i) (by omega)
    have hl := oN_le (i := i) (n := n) (by omega) (by omega)
    have hf : ¬ n ≤ i := by omega
    have ih2 := ih (i + 1) (by omega) hR
    obtain ⟨h0, h1⟩ := hhs i (by omega)
    have h0' : 0 ≤ S.1 (17, k, i) 1 := Int32.not_lt.mp h0
    have h1' : ¬ 6 ≤ (S.1 (17, k, i) 1).toNatClampNeg := Nat.not_le.mpr h1
    have hnp2 := (dvL_lk (S := S) (k := k) (k' := k) (g := 10) i).trans hnp
    have hpr := dvL_lk (S := S) (k := k) (k' := k) (g := 2) i
    have hrf := dvL_lk (S := S) (k := k) (k' := k) (g := 3) i
    have hpg := dvL_pg (S := S) (k := k) (k' := k) (p' := i) (g := 1) i
    have hx := x187 (sx := sx) (s0 := s0) (S := dvL S k i) (m := m) hk hi h1 (price := S.1 (12, k, 0) 2) (refund := S.1 (12, k, 0) 3)
    rw [hisF] at hx
    rw [inc_ofNat, show dvL S k (i + 1) = dlvF (dvL S k i) k i (hisF S k i) (S.1 (12, k, 0) 2) (S.1 (12, k, 0) 3) from rfl, hisF] at ih2
    rw [e_170_152]
    have h1'' : (S.1 (17, k, i) 1).toNatClampNeg < 6 := h1
    simp [e_170_0, e_170_1, e_170_2, e_170_3, e_170_4, e_170_7, e_170_10, e_170_11, e_170_14, e_170_15, e_170_16, e_170_17, e_170_20, e_170_21, e_170_24, e_170_25, e_170_26, e_170_29, e_170_30, e_170_31, e_170_34, e_170_37, e_170_40, e_170_43, e_170_44, e_170_46, e_170_47, e_170_50, e_170_51, e_170_52, e_170_55, e_170_56, e_170_59, e_170_60, e_170_63, e_170_64, e_170_67, e_170_68, e_170_71, e_170_72, e_170_75, e_170_78, e_170_79, e_170_80, e_170_83, e_170_84, e_170_85, e_170_88, e_170_89, e_170_90, e_170_91, e_170_92, e_170_95, e_170_98, e_170_99, e_170_102, e_170_103, e_170_104, e_170_105, e_170_108, e_170_109, e_170_112, e_170_113, e_170_114, e_170_117, e_170_118, e_170_119, e_170_122, e_170_125, e_170_128, e_170_131, e_170_132, e_170_135, e_170_136, e_170_137, e_170_140, e_170_141, e_170_142, e_170_145, e_170_146, e_170_147, e_170_150, e_170_151, e_170_153, e_170_154, e_170_157, e_170_160, e_170_161, e_170_164, e_170_165, e_170_166, e_170_167, e_170_170, e_170_171, e_170_174, e_170_175, e_170_176, e_170_179, e_170_180, e_170_181, e_170_184, e_170_185, e_170_188, e_170_191, e_170_194, e_170_197, e_170_198, e_170_201, e_170_202, e_170_205, e_170_206, xentry, xent, Value.category, kB1_some, kB1_ite, kB_some, kB_ite, kB3_some, kX_some, kX_ite, kC_ite, kR_ret, kR_thr, kR_ite, kR0_ret, kR0_ite, kW_some, xretv, xst1, xst2, xcl, xsum, upI_1, upI_2, upJ_1, upJ_2, upJ_3, rwI_1, rwI_2, rwJ_1, rwJ_2, rwJ_3, upD_1, upD_2, upI_upI, upJ_upJ, x_mmin, x_mmax, x_objInit, List.length_cons, xmL, k1_iconst, k1_bipush, k1_sipush, k1_lconst, k1_dconst0, k1_dconst1, k1_fconst0, k1_fconst1, k1_iload, k1_lload, k1_aload, k1_dload, k1_fload, k1_istore, k1_lstore, k1_astore, k1_dstore, k1_fstore, k1_iinc, k1_iadd, k1_isub, k1_imul, k1_iand, k1_ixor, k1_ishr, k1_ladd, k1_lsub, k1_lmul, k1_land, k1_lor, k1_lcmp, k1_lshl, k1_lshr, k1_idiv, k1_irem, k1_ldiv, k1_lrem, k1_fdiv, k1_ddiv, k1_f2d, k1_i2l, k1_l2i, k1_i2b, k1_l2d, k1_l2f, k1_dcmpl, k1_dcmpg, k1_fcmpl, k1_fcmpg, k1_dup, k1_pop, k1_dup2, k1_goto, k1_ifeq, k1_ifne, k1_iflt, k1_ifge, k1_ifgt, k1_ifle, k1_icmpeq, k1_icmpne, k1_icmplt, k1_icmpge, k1_icmpgt, k1_icmple, k3_constI, k3_constJ, k3_constD, gf_5_0, gf_5_1, gf_5_2, gf_5_3, gf_5_4, gf_5_5, pf_5_5, gf_5_6, pf_5_6, gf_5_7, gf_5_8, gf_4_0, gf_4_1, pf_4_1, gf_4_2, pf_4_2, gf_4_3, pf_4_3, gf_4_4, pf_4_4, gf_4_5, pf_4_5, gf_4_6, gf_4_7, pf_4_7, gf_4_8, pf_4_8, gf_4_9, pf_4_9, gf_3_0, gf_3_1, pf_3_1, gf_6_0, gf_6_1, gf_6_2, gf_6_3, gf_6_4, gf_6_5, gf_6_6, gf_6_7, gf_6_8, gf_6_9, gf_6_10, gf_6_11, pf_6_11, gf_6_12, pf_6_12, gf_6_13, gf_6_14, pf_6_14, gf_6_15, pf_6_15, gf_6_16, pf_6_16, gf_6_17, pf_6_17, gf_6_18, pf_6_18, gf_6_19, pf_6_19, gf_6_20, pf_6_20, gf_6_21, pf_6_21, gf_6_22, pf_6_22, gf_6_23, gf_6_24, gf_6_25, gf_6_26, pf_6_26, gf_6_27, gf_6_28, pf_6_28, gf_0_0, pf_0_0, gf_0_1, pf_0_1, gf_0_2, pf_0_2, gf_0_3, pf_0_3, gf_0_4, pf_0_4, gf_2_0, pf_2_0, gf_2_1, pf_2_1, gf_2_2, pf_2_2, gf_2_3, pf_2_3, gf_2_4, pf_2_4, gf_2_5, pf_2_5, gf_2_6, pf_2_6, gf_2_7, pf_2_7, gf_2_8, pf_2_8, gf_2_9, pf_2_9, gf_2_10, pf_2_10, gf_2_11, pf_2_11, gf_2_12, gf_2_13, gf_1_0, pf_1_0, gf_1_1, pf_1_1, gf_1_2, pf_1_2, gf_1_3, pf_1_3, gf_1_4, pf_1_4, gf_1_5, pf_1_5, gf_1_6, pf_1_6, gf_1_7, pf_1_7, gf_1_8, pf_1_8, gf_1_9, pf_1_9, gf_1_10, pf_1_10, gf_1_11, gf_1_12, gf_1_13, al_sl, as_sl, al_ct, as_ct, al_hr, as_hr, al_tx, as_tx, al_rb, as_rb, al_sv, as_sv, al_out, as_out, al_od, al_ha, al_pa, al_ps, al_sn, al_ai, as_ai, al_az, as_az, al_aj, as_aj, ln_hr, kv_rs, kv_tr, kv_rp, kv_md, kv_lk, kv_hh, kv_pg, hk, hnp2, hi, hc, hg, hl, hf, h0, h0', h1', h1'', hpr, hrf, hpg, hx, Nat.not_le.mpr hi]
    exact ih2
end P14
