section R5
variable {sx : xSx} {s0 i h : Nat} {S T U : St} {m : Nat × Nat × Nat} {y u a : Int32}
/-- the model's endsHour -/
def reL (S : St) (at_ : Nat) : Nat → St
  | 0 => S
  | j + 1 => sH (sH (upI (reL S at_ j) (11, 0, 0) (at_ + j) (gH (reL S at_ j) j 3)) j 2 0) j 3 0
theorem x100_l {n : Nat} (hn : n ≤ 6) (hn6 : Int32.ofNat n = 6) {at_ : Nat} (hat : 240 ≤ at_ ∧ at_ + 6 ≤ 384) : ∀ (j i : Nat), i + j = n → X xtab sx 100 25 [some (.ref (adr s0 (8, 0, 0))), some (.int (Int32.ofNat at_)), some (.int (Int32.ofNat i))] [] (hp s0 (reL S at_ i), m) = some (.inl none, (hp s0 (reL S at_ n), m)) := by
  intro j
  induction j with
  | zero =>
    intro i h
    have hi : i = n := by omega
    subst hi
    simp [e_100_0, e_100_3, e_100_5, e_100_6, e_100_9, e_100_11, e_100_12, e_100_14, e_100_15, e_100_16, e_100_17, e_100_19, e_100_20, e_100_21, e_100_22, e_100_23, e_100_24, e_100_25, e_100_26, e_100_28, e_100_31, e_100_32, e_100_35, e_100_36, e_100_37, e_100_38, e_100_39, e_100_40, e_100_41, e_100_44, e_100_45, e_100_46, e_100_47, e_100_48, e_100_49, e_100_52, e_100_53, e_100_54, e_100_55, e_100_56, e_100_59, e_100_62, e_100_65, xentry, xent, Value.category, kB1_some, kB1_ite, kB_some, kB_ite, kB3_some, kX_some, kX_ite, kC_ite, kR_ret, kR_thr, kR_ite, kR0_ret, kR0_ite, kW_some, xretv, xst1, xst2, xcl, xsum, upI_1, upI_2, upJ_1, upJ_2, upJ_3, rwI_1, rwI_2, rwJ_1, rwJ_2, rwJ_3, upD_1, upD_2, upI_upI, upJ_upJ, x_mmin, x_mmax, x_objInit, List.length_cons, xmL, k1_iconst, k1_bipush, k1_sipush, k1_lconst, k1_dconst0, k1_dconst1, k1_fconst0, k1_fconst1, k1_iload, k1_lload, k1_aload, k1_dload, k1_fload, k1_istore, k1_lstore, k1_astore, k1_dstore, k1_fstore, k1_iinc, k1_iadd, k1_isub, k1_imul, k1_iand, k1_ixor, k1_ishr, k1_ladd, k1_lsub, k1_lmul, k1_land, k1_lor, k1_lcmp, k1_lshl, k1_lshr, k1_idiv, k1_irem, k1_ldiv, k1_lrem, k1_fdiv, k1_ddiv, k1_f2d, k1_i2l, k1_l2i, k1_i2b, k1_l2d, k1_l2f, k1_dcmpl, k1_dcmpg, k1_fcmpl, k1_fcmpg, k1_dup, k1_pop, k1_dup2, k1_goto, k1_ifeq, k1_ifne, k1_iflt, k1_ifge, k1_ifgt, k1_ifle, k1_icmpeq, k1_icmpne, k1_icmplt, k1_icmpge, k1_icmpgt, k1_icmple, k3_constI, k3_constJ, k3_constD, gf_5_0, gf_5_1, gf_5_2, gf_5_3, gf_5_4, gf_5_5, pf_5_5, gf_5_6, pf_5_6, gf_5_7, gf_5_8, gf_4_0, gf_4_1, pf_4_1, gf_4_2, pf_4_2, gf_4_3, pf_4_3, gf_4_4, pf_4_4, gf_4_5, pf_4_5, gf_4_6, gf_4_7, pf_4_7, gf_4_8, pf_4_8, gf_4_9, pf_4_9, gf_3_0, gf_3_1, pf_3_1, gf_6_0, gf_6_1, gf_6_2, gf_6_3, gf_6_4, gf_6_5, gf_6_6, gf_6_7, gf_6_8, gf_6_9, gf_6_10, gf_6_11, pf_6_11, gf_6_12, pf_6_12, gf_6_13, gf_6_14, pf_6_14, gf_6_15, pf_6_15, gf_6_16, pf_6_16, gf_6_17, pf_6_17, gf_6_18, pf_6_18, gf_6_19, pf_6_19, gf_6_20, pf_6_20, gf_6_21, pf_6_21, gf_6_22, pf_6_22, gf_6_23, gf_6_24, gf_6_25, gf_6_26, pf_6_26, gf_6_27, gf_6_28, pf_6_28, gf_0_0, pf_0_0, gf_0_1, pf_0_1, gf_0_2, pf_0_2, gf_0_3, pf_0_3, gf_0_4, pf_0_4, gf_2_0, pf_2_0, gf_2_1, pf_2_1, gf_2_2, pf_2_2, gf_2_3, pf_2_3, gf_2_4, pf_2_4, gf_2_5, pf_2_5, gf_2_6, pf_2_6, gf_2_7, pf_2_7, gf_2_8, pf_2_8, gf_2_9, pf_2_9, gf_2_10, pf_2_10, gf_2_11, pf_2_11, gf_2_12, gf_2_13, gf_1_0, pf_1_0, gf_1_1, pf_1_1, gf_1_2, pf_1_2, gf_1_3, pf_1_3, gf_1_4, pf_1_4, gf_1_5, pf_1_5, gf_1_6, pf_1_6, gf_1_7, pf_1_7, gf_1_8, pf_1_8, gf_1_9, pf_1_9, gf_1_10, pf_1_10, gf_1_11, gf_1_12, gf_1_13, al_sl, as_sl, al_ct, as_ct, al_hr, as_hr, al_tx, as_tx, al_rb, as_rb, al_sv, as_sv, al_out, as_out, al_od, al_ha, al_pa, al_ps, al_sn, al_ai, as_ai, al_az, as_az, al_aj, as_aj, ln_hr, kv_rs, kv_tr, kv_rp, kv_md, kv_lk, kv_hh, kv_pg, lg_cmp_ge, lg_cmp_le, lg_cmp_gt, lg_cmp_lt, lg_cmp_eq, hn6]
  | succ j ih =>
    intro i h
    have hi : i < 6 := by omega
    have hc := oN_clamp (i := i) (by omega)
    have hg := oN_neg (i := i) (by omega)
    have hl := oN_le (i := i) (n := n) (by omega) (by omega)
    have hf : ¬ n ≤ i := by omega
    have ih2 := ih (i + 1) (by omega)
    rw [inc_ofNat] at ih2
    rw [e_100_25]
    rw [hn6] at hl
    have ha : Int32.ofNat at_ + Int32.ofNat i = Int32.ofNat (at_ + i) := oN_add
    have hca := oN_clamp (i := at_ + i) (by omega)
    have hga := oN_neg (i := at_ + i) (by omega)
    have hla : ¬ 384 ≤ at_ + i := by omega
    have hza : 36 ≤ at_ + i := by omega
    rw [show reL S at_ (i + 1) = sH (sH (upI (reL S at_ i) (11, 0, 0) (at_ + i) (gH (reL S at_ i) i 3)) i 2 0) i 3 0 from rfl] at ih2
    generalize Int32.ofNat (at_ + i) = z at ha hca hga
    simp [e_100_0, e_100_3, e_100_5, e_100_6, e_100_9, e_100_11, e_100_12, e_100_14, e_100_15, e_100_16, e_100_17, e_100_19, e_100_20, e_100_21, e_100_22, e_100_23, e_100_24, e_100_26, e_100_28, e_100_31, e_100_32, e_100_35, e_100_36, e_100_37, e_100_38, e_100_39, e_100_40, e_100_41, e_100_44, e_100_45, e_100_46, e_100_47, e_100_48, e_100_49, e_100_52, e_100_53, e_100_54, e_100_55, e_100_56, e_100_59, e_100_62, e_100_65, xentry, xent, Value.category, kB1_some, kB1_ite, kB_some, kB_ite, kB3_some, kX_some, kX_ite, kC_ite, kR_ret, kR_thr, kR_ite, kR0_ret, kR0_ite, kW_some, xretv, xst1, xst2, xcl, xsum, upI_1, upI_2, upJ_1, upJ_2, upJ_3, rwI_1, rwI_2, rwJ_1, rwJ_2, rwJ_3, upD_1, upD_2, upI_upI, upJ_upJ, x_mmin, x_mmax, x_objInit, List.length_cons, xmL, k1_iconst, k1_bipush, k1_sipush, k1_lconst, k1_dconst0, k1_dconst1, k1_fconst0, k1_fconst1, k1_iload, k1_lload, k1_aload, k1_dload, k1_fload, k1_istore, k1_lstore, k1_astore, k1_dstore, k1_fstore, k1_iinc, k1_iadd, k1_isub, k1_imul, k1_iand, k1_ixor, k1_ishr, k1_ladd, k1_lsub, k1_lmul, k1_land, k1_lor, k1_lcmp, k1_lshl, k1_lshr, k1_idiv, k1_irem, k1_ldiv, k1_lrem, k1_fdiv, k1_ddiv, k1_f2d, k1_i2l, k1_l2i, k1_i2b, k1_l2d, k1_l2f, k1_dcmpl, k1_dcmpg, k1_fcmpl, k1_fcmpg, k1_dup, k1_pop, k1_dup2, k1_goto, k1_ifeq, k1_ifne, k1_iflt, k1_ifge, k1_ifgt, k1_ifle, k1_icmpeq, k1_icmpne, k1_icmplt, k1_icmpge, k1_icmpgt, k1_icmple, k3_constI, k3_constJ, k3_constD, gf_5_0, gf_5_1, gf_5_2, gf_5_3, gf_5_4, gf_5_5, pf_5_5, gf_5_6, pf_5_6, gf_5_7, gf_5_8, gf_4_0, gf_4_1, pf_4_1, gf_4_2, pf_4_2, gf_4_3, pf_4_3, gf_4_4, pf_4_4, gf_4_5, pf_4_5, gf_4_6, gf_4_7, pf_4_7, gf_4_8, pf_4_8, gf_4_9, pf_4_9, gf_3_0, gf_3_1, pf_3_1, gf_6_0, gf_6_1, gf_6_2, gf_6_3, gf_6_4, gf_6_5, gf_6_6, gf_6_7, gf_6_8, gf_6_9, gf_6_10, gf_6_11, pf_6_11, gf_6_12, pf_6_12, gf_6_13, gf_6_14, pf_6_14, gf_6_15, pf_6_15, gf_6_16, pf_6_16, gf_6_17, pf_6_17, gf_6_18, pf_6_18, gf_6_19, pf_6_19, gf_6_20, pf_6_20, gf_6_21, pf_6_21, gf_6_22, pf_6_22, gf_6_23, gf_6_24, gf_6_25, gf_6_26, pf_6_26, gf_6_27, gf_6_28, pf_6_28, gf_0_0, pf_0_0, gf_0_1, pf_0_1, gf_0_2, pf_0_2, gf_0_3, pf_0_3, gf_0_4, pf_0_4, gf_2_0, pf_2_0, gf_2_1, pf_2_1, gf_2_2, pf_2_2, gf_2_3, pf_2_3, gf_2_4, pf_2_4, gf_2_5, pf_2_5, gf_2_6, pf_2_6, gf_2_7, pf_2_7, gf_2_8, pf_2_8, gf_2_9, pf_2_9, gf_2_10, pf_2_10, gf_2_11, pf_2_11, gf_2_12, gf_2_13, gf_1_0, pf_1_0, gf_1_1, pf_1_1, gf_1_2, pf_1_2, gf_1_3, pf_1_3, gf_1_4, pf_1_4, gf_1_5, pf_1_5, gf_1_6, pf_1_6, gf_1_7, pf_1_7, gf_1_8, pf_1_8, gf_1_9, pf_1_9, gf_1_10, pf_1_10, gf_1_11, gf_1_12, gf_1_13, al_sl, as_sl, al_ct, as_ct, al_hr, as_hr, al_tx, as_tx, al_rb, as_rb, al_sv, as_sv, al_out, as_out, al_od, al_ha, al_pa, al_ps, al_sn, al_ai, as_ai, al_az, as_az, al_aj, as_aj, ln_hr, kv_rs, kv_tr, kv_rp, kv_md, kv_lk, kv_hh, kv_pg, lg_cmp_ge, lg_cmp_le, lg_cmp_gt, lg_cmp_lt, lg_cmp_eq, hi, hc, hg, hl, hf, Nat.not_le.mpr hi, al_r0, al_r1, al_r2, al_r3, al_r4, al_r5, al_r6, al_r7, al_r8, al_r9, al_r10, al_r11, al_r12, al_r13, al_r14, al_r15, as_r0, as_r1, as_r2, as_r3, as_r4, as_r5, as_r6, as_r7, as_r8, as_r9, as_r10, as_r11, as_r12, as_r13, as_r14, as_r15, gH_sH, gH_sP, gH_sL, gH_sC, gP_sH, gP_sP, gP_sL, gP_sC, gL_sH, gL_sP, gL_sL, gL_sC, gC_sH, gC_sP, gC_sL, gC_sC, rz_sH, rz_sP, rz_sL, ro_sH, ro_sP, ro_sL, rj_sH, rj_sP, rj_sL, gH_upI, gH_upZ, gP_upI, gP_upZ, gL_upI, gL_upZ, rz_sC, gC_upI, x59, x60, x61, x62, x63, x64, x65, x66, x50, x51, ha, hca, hga, hla]
    exact ih2
def reF (S : St) (t : Nat) : St := reL S (240 + 6 * ((t / 12 - 1) % 24)) 6
theorem x100 {t : Nat} (ht : S.1 (11, 0, 0) 7 = Int32.ofNat t) (h12 : 12 ≤ t) (h20 : t < 2 ^ 30) : X xtab sx 100 0 [some (.ref (adr s0 (8, 0, 0))), none, none] [] (hp s0 S, m) = some (.inl none, (hp s0 (reF S t), m)) := by
  have hl := x100_l (sx := sx) (s0 := s0) (S := S) (m := m) (n := 6) (by decide) rfl (at_ := 240 + 6 * ((t / 12 - 1) % 24)) (by omega) 6 0 (by omega)
  rw [show reL S (240 + 6 * ((t / 12 - 1) % 24)) 0 = S from rfl, show Int32.ofNat 0 = 0 from rfl] at hl
  have e : (240 : Int32) + 6 * (Int32.ofNat t / 12 - 1 - (Int32.ofNat t / 12 - 1) / 24 * 24) = Int32.ofNat (240 + 6 * ((t / 12 - 1) % 24)) := by
    rw [i12 (by omega), show (1 : Int32) = Int32.ofNat 1 from rfl, oN_sub (by omega), i24 (by omega), show (24 : Int32) = Int32.ofNat 24 from rfl, oN_mul, oN_sub (by omega), show (6 : Int32) = Int32.ofNat 6 from rfl, oN_mul, show (240 : Int32) = Int32.ofNat 240 from rfl, oN_add]
    congr 3
    omega
  unfold reF
  generalize Int32.ofNat (240 + 6 * ((t / 12 - 1) % 24)) = z at e hl
  simp [e_100_0, e_100_3, e_100_5, e_100_6, e_100_9, e_100_11, e_100_12, e_100_14, e_100_15, e_100_16, e_100_17, e_100_19, e_100_20, e_100_21, e_100_22, e_100_23, e_100_24, xentry, xent, Value.category, kB1_some, kB1_ite, kB_some, kB_ite, kB3_some, kX_some, kX_ite, kC_ite, kR_ret, kR_thr, kR_ite, kR0_ret, kR0_ite, kW_some, xretv, xst1, xst2, xcl, xsum, upI_1, upI_2, upJ_1, upJ_2, upJ_3, rwI_1, rwI_2, rwJ_1, rwJ_2, rwJ_3, upD_1, upD_2, upI_upI, upJ_upJ, x_mmin, x_mmax, x_objInit, List.length_cons, xmL, k1_iconst, k1_bipush, k1_sipush, k1_lconst, k1_dconst0, k1_dconst1, k1_fconst0, k1_fconst1, k1_iload, k1_lload, k1_aload, k1_dload, k1_fload, k1_istore, k1_lstore, k1_astore, k1_dstore, k1_fstore, k1_iinc, k1_iadd, k1_isub, k1_imul, k1_iand, k1_ixor, k1_ishr, k1_ladd, k1_lsub, k1_lmul, k1_land, k1_lor, k1_lcmp, k1_lshl, k1_lshr, k1_idiv, k1_irem, k1_ldiv, k1_lrem, k1_fdiv, k1_ddiv, k1_f2d, k1_i2l, k1_l2i, k1_i2b, k1_l2d, k1_l2f, k1_dcmpl, k1_dcmpg, k1_fcmpl, k1_fcmpg, k1_dup, k1_pop, k1_dup2, k1_goto, k1_ifeq, k1_ifne, k1_iflt, k1_ifge, k1_ifgt, k1_ifle, k1_icmpeq, k1_icmpne, k1_icmplt, k1_icmpge, k1_icmpgt, k1_icmple, k3_constI, k3_constJ, k3_constD, gf_5_0, gf_5_1, gf_5_2, gf_5_3, gf_5_4, gf_5_5, pf_5_5, gf_5_6, pf_5_6, gf_5_7, gf_5_8, gf_4_0, gf_4_1, pf_4_1, gf_4_2, pf_4_2, gf_4_3, pf_4_3, gf_4_4, pf_4_4, gf_4_5, pf_4_5, gf_4_6, gf_4_7, pf_4_7, gf_4_8, pf_4_8, gf_4_9, pf_4_9, gf_3_0, gf_3_1, pf_3_1, gf_6_0, gf_6_1, gf_6_2, gf_6_3, gf_6_4, gf_6_5, gf_6_6, gf_6_7, gf_6_8, gf_6_9, gf_6_10, gf_6_11, pf_6_11, gf_6_12, pf_6_12, gf_6_13, gf_6_14, pf_6_14, gf_6_15, pf_6_15, gf_6_16, pf_6_16, gf_6_17, pf_6_17, gf_6_18, pf_6_18, gf_6_19, pf_6_19, gf_6_20, pf_6_20, gf_6_21, pf_6_21, gf_6_22, pf_6_22, gf_6_23, gf_6_24, gf_6_25, gf_6_26, pf_6_26, gf_6_27, gf_6_28, pf_6_28, gf_0_0, pf_0_0, gf_0_1, pf_0_1, gf_0_2, pf_0_2, gf_0_3, pf_0_3, gf_0_4, pf_0_4, gf_2_0, pf_2_0, gf_2_1, pf_2_1, gf_2_2, pf_2_2, gf_2_3, pf_2_3, gf_2_4, pf_2_4, gf_2_5, pf_2_5, gf_2_6, pf_2_6, gf_2_7, pf_2_7, gf_2_8, pf_2_8, gf_2_9, pf_2_9, gf_2_10, pf_2_10, gf_2_11, pf_2_11, gf_2_12, gf_2_13, gf_1_0, pf_1_0, gf_1_1, pf_1_1, gf_1_2, pf_1_2, gf_1_3, pf_1_3, gf_1_4, pf_1_4, gf_1_5, pf_1_5, gf_1_6, pf_1_6, gf_1_7, pf_1_7, gf_1_8, pf_1_8, gf_1_9, pf_1_9, gf_1_10, pf_1_10, gf_1_11, gf_1_12, gf_1_13, al_sl, as_sl, al_ct, as_ct, al_hr, as_hr, al_tx, as_tx, al_rb, as_rb, al_sv, as_sv, al_out, as_out, al_od, al_ha, al_pa, al_ps, al_sn, al_ai, as_ai, al_az, as_az, al_aj, as_aj, ln_hr, kv_rs, kv_tr, kv_rp, kv_md, kv_lk, kv_hh, kv_pg, al_r0, al_r1, al_r2, al_r3, al_r4, al_r5, al_r6, al_r7, al_r8, al_r9, al_r10, al_r11, al_r12, al_r13, al_r14, al_r15, as_r0, as_r1, as_r2, as_r3, as_r4, as_r5, as_r6, as_r7, as_r8, as_r9, as_r10, as_r11, as_r12, as_r13, as_r14, as_r15, gH_sH, gH_sP, gH_sL, gH_sC, gP_sH, gP_sP, gP_sL, gP_sC, gL_sH, gL_sP, gL_sL, gL_sC, gC_sH, gC_sP, gC_sL, gC_sC, rz_sH, rz_sP, rz_sL, ro_sH, ro_sP, ro_sL, rj_sH, rj_sP, rj_sL, gH_upI, gH_upZ, gP_upI, gP_upZ, gL_upI, gL_upZ, rz_sC, gC_upI, x59, x60, x61, x62, x63, x64, x65, x66, x50, x51, ht, e]
  exact hl
/-! what a slot of the model leaves: the number of programs, their households and kinds, the time -/
def Rf (S T : St) : Prop := T.1 (11, 0, 0) 1 = S.1 (11, 0, 0) 1 ∧ T.1 (11, 0, 0) 7 = S.1 (11, 0, 0) 7 ∧ ∀ p, p < 12 → gP T p 0 = gP S p 0 ∧ gP T p 1 = gP S p 1
theorem Rf.refl : Rf S S := ⟨rfl, rfl, fun _ _ => ⟨rfl, rfl⟩⟩
theorem Rf.trans (h1 : Rf S T) (h2 : Rf T U) : Rf S U := ⟨h2.1.trans h1.1, h2.2.1.trans h1.2.1, fun p hp => ⟨((h2.2.2 p hp).1).trans (h1.2.2 p hp).1, ((h2.2.2 p hp).2).trans (h1.2.2 p hp).2⟩⟩
theorem Rf_raw (h : Rf S T) {f : Nat} {v : Int32} (hf : f ≠ 1 ∧ f ≠ 7 ∧ ∀ p, p < 12 → f ≠ 36 + 11 * p ∧ f ≠ 36 + 11 * p + 1) : Rf S (upI T (11, 0, 0) f v) := by
  refine h.trans ⟨?_, ?_, fun p hp => ⟨?_, ?_⟩⟩
  · rw [upI_1, if_neg (by rintro ⟨_, h2⟩; exact hf.1 h2.symm)]
  · rw [upI_1, if_neg (by rintro ⟨_, h2⟩; exact hf.2.1 h2.symm)]
  · unfold gP; rw [upI_1, if_neg (by rintro ⟨_, h2⟩; exact (hf.2.2 p hp).1 (by omega))]
  · unfold gP; rw [upI_1, if_neg (by rintro ⟨_, h2⟩; exact (hf.2.2 p hp).2 (by omega))]
theorem Rf_sH (h : Rf S T) {j x : Nat} {v : Int32} (hj : j < 6) (hx : x < 4) : Rf S (sH T j x v) := Rf_raw h ⟨by omega, by omega, fun p hp => ⟨by omega, by omega⟩⟩
theorem Rf_sL (h : Rf S T) {j x : Nat} {v : Int32} (hj : j < 12) (hx : x < 6) : Rf S (sL T j x v) := Rf_raw h ⟨by omega, by omega, fun p hp => ⟨by omega, by omega⟩⟩
theorem Rf_sP (h : Rf S T) {j x : Nat} {v : Int32} (hj : j < 12) (hx : 1 < x ∧ x < 11) : Rf S (sP T j x v) := Rf_raw h ⟨by omega, by omega, fun p hp => ⟨by omega, by omega⟩⟩
theorem Rf_sC (h : Rf S T) {j x : Nat} {v : Int64} : Rf S (sC T j x v) := h.trans ⟨rfl, rfl, fun _ _ => ⟨rfl, rfl⟩⟩
theorem Rf_o (h : Rf S T) {o : Ob} {f : Nat} {v : Int32} (ho : o ≠ (11, 0, 0)) : Rf S (upI T o f v) := by
  refine h.trans ⟨?_, ?_, fun p hp => ⟨gP_upI ho, gP_upI ho⟩⟩
  · rw [upI_1, if_neg (by rintro ⟨h2, _⟩; exact ho h2.symm)]
  · rw [upI_1, if_neg (by rintro ⟨h2, _⟩; exact ho h2.symm)]
theorem roF_Rf (hi : i < 12) (hh : h < 6) : Rf S (roF S i h) := Rf_o (Rf_o (Rf_sC (Rf_sH (Rf_sH (Rf_sL (Rf_sL (Rf_sL (Rf_sL (Rf_sL Rf.refl hi (by decide)) hi (by decide)) hi (by decide)) hi (by decide)) hi (by decide)) hh (by decide)) hh (by decide))) (by simp)) (by simp)
theorem ryF_Rf (hi : i < 12) (hh : h < 6) : Rf S (ryF S i h) := Rf_sC (Rf_sH (Rf_o (Rf_sL Rf.refl hi (by decide)) (by simp)) hh (by decide))
theorem rvF_Rf (hi : i < 12) (hh : h < 6) : Rf S (rvF S i h) := Rf_o (Rf_sC (Rf_sC (Rf_sC (Rf_sC (Rf_sC (Rf_sC (Rf_sH (Rf_sL Rf.refl hi (by decide)) hh (by decide)))))))) (by simp)
theorem rlF_Rf {o : Option Nat} (hi : i < 12) : Rf S (rlF S i o) := by
  unfold rlF
  split
  · exact Rf_sP (Rf_sP (Rf_sP Rf.refl hi (by decide)) hi (by decide)) hi (by decide)
  · split
    · exact Rf_sP (Rf_sP Rf.refl hi (by decide)) hi (by decide)
    · exact Rf_sP (Rf_sP (Rf_sP Rf.refl hi (by decide)) hi (by decide)) hi (by decide)
theorem rdA_Rf {j : Nat} : j ≤ 12 → Rf S (rdA S y u a j).1 := by
  induction j with
  | zero => intro _; exact Rf.refl
  | succ j ih =>
    intro hj
    exact Rf_sL (ih (by omega)) (by omega) (by decide)
theorem rdB_Rf {j : Nat} : j ≤ 12 → Rf S (rdB S y u j).1 := by
  induction j with
  | zero => intro _; exact Rf.refl
  | succ j ih =>
    intro hj
    unfold rdB
    split
    · exact Rf_sL (ih (by omega)) (by omega) (by decide)
    · exact ih (by omega)
theorem rdF_Rf {n : Nat} (hn : n ≤ 12) : Rf S (rdF S n u y).1 := by
  unfold rdF
  split
  · exact (rdA_Rf hn).trans (rdB_Rf hn)
  · exact rdB_Rf hn
theorem rxF_Rf {n : Nat} (hn : n ≤ 12) : Rf S (rxF S n) := by
  unfold rxF
  split
  · exact (rdF_Rf hn).trans (rdF_Rf hn)
  · exact Rf.refl
theorem reL_Rf {at_ : Nat} (hat : 240 ≤ at_) {j : Nat} : j ≤ 6 → Rf S (reL S at_ j) := by
  induction j with
  | zero => intro _; exact Rf.refl
  | succ j ih =>
    intro hj
    exact Rf_sH (Rf_sH (Rf_raw (ih (by omega)) ⟨by omega, by omega, fun p hp => ⟨by omega, by omega⟩⟩) (by omega) (by decide)) (by omega) (by decide)
/-- what a slot of the model needs -/
def rh (S : St) (p : Nat) : Nat := (gP S p 0).toNatClampNeg
def Rok (S : St) (n t : Nat) : Prop := n ≤ 12 ∧ t < 2 ^ 20 ∧ S.1 (11, 0, 0) 1 = Int32.ofNat n ∧ S.1 (11, 0, 0) 7 = Int32.ofNat t ∧ (∀ p, p < n → (¬ gP S p 0 < 0 ∧ rh S p < 6)) ∧ (∀ p, p < n → (gP S p 1 = 0 ∨ gP S p 1 = 1 ∨ gP S p 1 = 2 ∨ gP S p 1 = 3))
theorem Rok_Rf {n t : Nat} (h : Rok S n t) (hf : Rf S T) : Rok T n t := by
  obtain ⟨a, b, c, d, e, f⟩ := h
  refine ⟨a, b, hf.1.trans c, hf.2.1.trans d, ?_, ?_⟩
  · intro p hp; unfold rh; rw [(hf.2.2 p (by omega)).1]; exact e p hp
  · intro p hp; rw [(hf.2.2 p (by omega)).2]; exact f p hp
theorem rh_Rf (hf : Rf S T) {p : Nat} (hp : p < 12) : rh T p = rh S p := by unfold rh; rw [(hf.2.2 p hp).1]
theorem Rok_h {n t p : Nat} (h : Rok S n t) (hp : p < n) : gP S p 0 = Int32.ofNat (rh S p) ∧ rh S p < 6 := ⟨(cl_eq (h.2.2.2.2.1 p hp).1).symm, (h.2.2.2.2.1 p hp).2⟩
/-- the loops of a slot -/
def rpO (S : St) : Nat → St
  | 0 => S
  | j + 1 => upI (roF (rpO S j) j (rh S j)) (11, 14, 0) j (gP (roF (rpO S j) j (rh S j)) j 6)
def rpY (S : St) : Nat → St
  | 0 => S
  | j + 1 => ryF (rpY S j) j (rh S j)
def rpD (S : St) : Nat → St
  | 0 => S
  | j + 1 => rvF (rpD S j) j (rh S j)
def rpL (S : St) (o : Option Nat) : Nat → St
  | 0 => S
  | j + 1 => if gP (rpL S o j) j 10 = 1 then rlF (rpL S o j) j o else rpL S o j
theorem rpO_Rf {n t j : Nat} (h : Rok S n t) : j ≤ n → Rf S (rpO S j) := by
  induction j with
  | zero => intro _; exact Rf.refl
  | succ j ih =>
    intro hj
    have hn := h.1
    exact Rf_o ((ih (by omega)).trans (roF_Rf (by omega) (Rok_h h (by omega)).2)) (by simp)
theorem rpY_Rf {n t j : Nat} (h : Rok S n t) : j ≤ n → Rf S (rpY S j) := by
  induction j with
  | zero => intro _; exact Rf.refl
  | succ j ih =>
    intro hj
    have hn := h.1
    exact (ih (by omega)).trans (ryF_Rf (by omega) (Rok_h h (by omega)).2)
theorem rpD_Rf {n t j : Nat} (h : Rok S n t) : j ≤ n → Rf S (rpD S j) := by
  induction j with
  | zero => intro _; exact Rf.refl
  | succ j ih =>
    intro hj
    have hn := h.1
    exact (ih (by omega)).trans (rvF_Rf (by omega) (Rok_h h (by omega)).2)
theorem rpL_Rf {n t j : Nat} {o : Option Nat} (h : Rok S n t) : j ≤ n → Rf S (rpL S o j) := by
  induction j with
  | zero => intro _; exact Rf.refl
  | succ j ih =>
    intro hj
    have hn := h.1
    unfold rpL
    split
    · exact (ih (by omega)).trans (rlF_Rf (by omega))
    · exact ih (by omega)
theorem x101_o {n : Nat} (hn : n ≤ 12) {t : Nat} (hR : Rok S n t) : ∀ (j i : Nat), i + j = n → X xtab sx 101 9 [some (.ref (adr s0 (8, 0, 0))), some (.int (Int32.ofNat n)), some (.int (Int32.ofNat i)), none, none] [] (hp s0 (rpO S i), m) = X xtab sx 101 9 [some (.ref (adr s0 (8, 0, 0))), some (.int (Int32.ofNat n)), some (.int (Int32.ofNat n)), none, none] [] (hp s0 (rpO S n), m) := by
  intro j
  induction j with
  | zero =>
    intro i h
    have hi : i = n := by omega
    subst hi
    rfl
  | succ j ih =>
    intro i h
    have hi : i < 12 := by omega
    have hc := oN_clamp (i := i) (by omega)
    have hg := oN_neg (i := i) (by omega)
    have hl := oN_le (i := i) (n := n) (by omega) (by omega)
    have hf : ¬ n ≤ i := by omega
    have ih2 := ih (i + 1) (by omega)
    rw [inc_ofNat] at ih2
    rw [e_101_9]
    have hf1 := rpO_Rf hR (j := i) (by omega)
    have hk := Rok_h (Rok_Rf hR hf1) (p := i) (by omega)
    rw [rh_Rf hf1 hi] at hk
    have hx := x89 (sx := sx) (s0 := s0) (m := m) hi hk.1 hk.2
    rw [show rpO S (i + 1) = upI (roF (rpO S i) i (rh S i)) (11, 14, 0) i (gP (roF (rpO S i) i (rh S i)) i 6) from rfl] at ih2
    simp [e_101_0, e_101_1, e_101_4, e_101_5, e_101_6, e_101_7, e_101_8, e_101_10, e_101_11, e_101_14, e_101_15, e_101_16, e_101_19, e_101_20, e_101_23, e_101_24, e_101_25, e_101_26, e_101_28, e_101_31, e_101_32, e_101_35, e_101_38, e_101_40, e_101_41, e_101_44, e_101_45, e_101_46, e_101_49, e_101_50, e_101_51, e_101_52, e_101_55, e_101_56, e_101_57, e_101_58, e_101_61, e_101_62, e_101_65, e_101_66, e_101_67, e_101_68, e_101_69, e_101_70, e_101_71, e_101_74, e_101_75, e_101_78, e_101_79, e_101_80, e_101_83, e_101_86, e_101_89, e_101_90, e_101_93, e_101_95, e_101_96, e_101_99, e_101_100, e_101_103, e_101_104, e_101_105, e_101_106, e_101_109, e_101_111, e_101_112, e_101_113, e_101_114, e_101_117, e_101_118, e_101_121, e_101_122, e_101_123, e_101_124, e_101_125, e_101_128, e_101_129, e_101_130, e_101_133, e_101_134, e_101_135, e_101_136, e_101_137, e_101_140, e_101_141, e_101_142, e_101_145, e_101_148, e_101_151, e_101_152, e_101_155, e_101_157, e_101_158, e_101_159, e_101_160, e_101_163, e_101_166, e_101_167, e_101_170, e_101_171, e_101_172, e_101_173, e_101_174, e_101_177, e_101_178, e_101_179, e_101_181, e_101_183, e_101_184, e_101_187, e_101_188, e_101_190, e_101_192, e_101_195, e_101_196, e_101_199, e_101_200, e_101_202, e_101_203, e_101_206, e_101_209, e_101_212, e_101_213, e_101_216, e_101_218, e_101_219, e_101_220, e_101_221, e_101_222, e_101_223, e_101_224, e_101_227, e_101_229, e_101_230, e_101_232, e_101_233, e_101_236, e_101_237, e_101_240, e_101_241, e_101_244, xentry, xent, Value.category, kB1_some, kB1_ite, kB_some, kB_ite, kB3_some, kX_some, kX_ite, kC_ite, kR_ret, kR_thr, kR_ite, kR0_ret, kR0_ite, kW_some, xretv, xst1, xst2, xcl, xsum, upI_1, upI_2, upJ_1, upJ_2, upJ_3, rwI_1, rwI_2, rwJ_1, rwJ_2, rwJ_3, upD_1, upD_2, upI_upI, upJ_upJ, x_mmin, x_mmax, x_objInit, List.length_cons, xmL, k1_iconst, k1_bipush, k1_sipush, k1_lconst, k1_dconst0, k1_dconst1, k1_fconst0, k1_fconst1, k1_iload, k1_lload, k1_aload, k1_dload, k1_fload, k1_istore, k1_lstore, k1_astore, k1_dstore, k1_fstore, k1_iinc, k1_iadd, k1_isub, k1_imul, k1_iand, k1_ixor, k1_ishr, k1_ladd, k1_lsub, k1_lmul, k1_land, k1_lor, k1_lcmp, k1_lshl, k1_lshr, k1_idiv, k1_irem, k1_ldiv, k1_lrem, k1_fdiv, k1_ddiv, k1_f2d, k1_i2l, k1_l2i, k1_i2b, k1_l2d, k1_l2f, k1_dcmpl, k1_dcmpg, k1_fcmpl, k1_fcmpg, k1_dup, k1_pop, k1_dup2, k1_goto, k1_ifeq, k1_ifne, k1_iflt, k1_ifge, k1_ifgt, k1_ifle, k1_icmpeq, k1_icmpne, k1_icmplt, k1_icmpge, k1_icmpgt, k1_icmple, k3_constI, k3_constJ, k3_constD, gf_5_0, gf_5_1, gf_5_2, gf_5_3, gf_5_4, gf_5_5, pf_5_5, gf_5_6, pf_5_6, gf_5_7, gf_5_8, gf_4_0, gf_4_1, pf_4_1, gf_4_2, pf_4_2, gf_4_3, pf_4_3, gf_4_4, pf_4_4, gf_4_5, pf_4_5, gf_4_6, gf_4_7, pf_4_7, gf_4_8, pf_4_8, gf_4_9, pf_4_9, gf_3_0, gf_3_1, pf_3_1, gf_6_0, gf_6_1, gf_6_2, gf_6_3, gf_6_4, gf_6_5, gf_6_6, gf_6_7, gf_6_8, gf_6_9, gf_6_10, gf_6_11, pf_6_11, gf_6_12, pf_6_12, gf_6_13, gf_6_14, pf_6_14, gf_6_15, pf_6_15, gf_6_16, pf_6_16, gf_6_17, pf_6_17, gf_6_18, pf_6_18, gf_6_19, pf_6_19, gf_6_20, pf_6_20, gf_6_21, pf_6_21, gf_6_22, pf_6_22, gf_6_23, gf_6_24, gf_6_25, gf_6_26, pf_6_26, gf_6_27, gf_6_28, pf_6_28, gf_0_0, pf_0_0, gf_0_1, pf_0_1, gf_0_2, pf_0_2, gf_0_3, pf_0_3, gf_0_4, pf_0_4, gf_2_0, pf_2_0, gf_2_1, pf_2_1, gf_2_2, pf_2_2, gf_2_3, pf_2_3, gf_2_4, pf_2_4, gf_2_5, pf_2_5, gf_2_6, pf_2_6, gf_2_7, pf_2_7, gf_2_8, pf_2_8, gf_2_9, pf_2_9, gf_2_10, pf_2_10, gf_2_11, pf_2_11, gf_2_12, gf_2_13, gf_1_0, pf_1_0, gf_1_1, pf_1_1, gf_1_2, pf_1_2, gf_1_3, pf_1_3, gf_1_4, pf_1_4, gf_1_5, pf_1_5, gf_1_6, pf_1_6, gf_1_7, pf_1_7, gf_1_8, pf_1_8, gf_1_9, pf_1_9, gf_1_10, pf_1_10, gf_1_11, gf_1_12, gf_1_13, al_sl, as_sl, al_ct, as_ct, al_hr, as_hr, al_tx, as_tx, al_rb, as_rb, al_sv, as_sv, al_out, as_out, al_od, al_ha, al_pa, al_ps, al_sn, al_ai, as_ai, al_az, as_az, al_aj, as_aj, ln_hr, kv_rs, kv_tr, kv_rp, kv_md, kv_lk, kv_hh, kv_pg, lg_cmp_ge, lg_cmp_le, lg_cmp_gt, lg_cmp_lt, lg_cmp_eq, hi, hc, hg, hl, hf, Nat.not_le.mpr hi, al_r0, al_r1, al_r2, al_r3, al_r4, al_r5, al_r6, al_r7, al_r8, al_r9, al_r10, al_r11, al_r12, al_r13, al_r14, al_r15, as_r0, as_r1, as_r2, as_r3, as_r4, as_r5, as_r6, as_r7, as_r8, as_r9, as_r10, as_r11, as_r12, as_r13, as_r14, as_r15, gH_sH, gH_sP, gH_sL, gH_sC, gP_sH, gP_sP, gP_sL, gP_sC, gL_sH, gL_sP, gL_sL, gL_sC, gC_sH, gC_sP, gC_sL, gC_sC, rz_sH, rz_sP, rz_sL, ro_sH, ro_sP, ro_sL, rj_sH, rj_sP, rj_sL, gH_upI, gH_upZ, gP_upI, gP_upZ, gL_upI, gL_upZ, rz_sC, gC_upI, x59, x60, x61, x62, x63, x64, x65, x66, x50, x51, hx]
    exact ih2
theorem x101_y {n : Nat} (hn : n ≤ 12) {t : Nat} (hR : Rok S n t) {l4 : Option Value} : ∀ (j i : Nat), i + j = n → X xtab sx 101 69 [some (.ref (adr s0 (8, 0, 0))), some (.int (Int32.ofNat n)), some (.int 1), some (.int (Int32.ofNat i)), l4] [] (hp s0 (rpY S i), m) = X xtab sx 101 69 [some (.ref (adr s0 (8, 0, 0))), some (.int (Int32.ofNat n)), some (.int 1), some (.int (Int32.ofNat n)), l4] [] (hp s0 (rpY S n), m) := by
  intro j
  induction j with
  | zero =>
    intro i h
    have hi : i = n := by omega
    subst hi
    rfl
  | succ j ih =>
    intro i h
    have hi : i < 12 := by omega
    have hc := oN_clamp (i := i) (by omega)
    have hg := oN_neg (i := i) (by omega)
    have hl := oN_le (i := i) (n := n) (by omega) (by omega)
    have hf : ¬ n ≤ i := by omega
    have ih2 := ih (i + 1) (by omega)
    rw [inc_ofNat] at ih2
    rw [e_101_69]
    have hf1 := rpY_Rf hR (j := i) (by omega)
    have hk := Rok_h (Rok_Rf hR hf1) (p := i) (by omega)
    rw [rh_Rf hf1 hi] at hk
    have hx := x90 (sx := sx) (s0 := s0) (m := m) hi hk.1 hk.2
    rw [show rpY S (i + 1) = ryF (rpY S i) i (rh S i) from rfl] at ih2
    simp [e_101_0, e_101_1, e_101_4, e_101_5, e_101_6, e_101_7, e_101_8, e_101_9, e_101_10, e_101_11, e_101_14, e_101_15, e_101_16, e_101_19, e_101_20, e_101_23, e_101_24, e_101_25, e_101_26, e_101_28, e_101_31, e_101_32, e_101_35, e_101_38, e_101_40, e_101_41, e_101_44, e_101_45, e_101_46, e_101_49, e_101_50, e_101_51, e_101_52, e_101_55, e_101_56, e_101_57, e_101_58, e_101_61, e_101_62, e_101_65, e_101_66, e_101_67, e_101_68, e_101_70, e_101_71, e_101_74, e_101_75, e_101_78, e_101_79, e_101_80, e_101_83, e_101_86, e_101_89, e_101_90, e_101_93, e_101_95, e_101_96, e_101_99, e_101_100, e_101_103, e_101_104, e_101_105, e_101_106, e_101_109, e_101_111, e_101_112, e_101_113, e_101_114, e_101_117, e_101_118, e_101_121, e_101_122, e_101_123, e_101_124, e_101_125, e_101_128, e_101_129, e_101_130, e_101_133, e_101_134, e_101_135, e_101_136, e_101_137, e_101_140, e_101_141, e_101_142, e_101_145, e_101_148, e_101_151, e_101_152, e_101_155, e_101_157, e_101_158, e_101_159, e_101_160, e_101_163, e_101_166, e_101_167, e_101_170, e_101_171, e_101_172, e_101_173, e_101_174, e_101_177, e_101_178, e_101_179, e_101_181, e_101_183, e_101_184, e_101_187, e_101_188, e_101_190, e_101_192, e_101_195, e_101_196, e_101_199, e_101_200, e_101_202, e_101_203, e_101_206, e_101_209, e_101_212, e_101_213, e_101_216, e_101_218, e_101_219, e_101_220, e_101_221, e_101_222, e_101_223, e_101_224, e_101_227, e_101_229, e_101_230, e_101_232, e_101_233, e_101_236, e_101_237, e_101_240, e_101_241, e_101_244, xentry, xent, Value.category, kB1_some, kB1_ite, kB_some, kB_ite, kB3_some, kX_some, kX_ite, kC_ite, kR_ret, kR_thr, kR_ite, kR0_ret, kR0_ite, kW_some, xretv, xst1, xst2, xcl, xsum, upI_1, upI_2, upJ_1, upJ_2, upJ_3, rwI_1, rwI_2, rwJ_1, rwJ_2, rwJ_3, upD_1, upD_2, upI_upI, upJ_upJ, x_mmin, x_mmax, x_objInit, List.length_cons, xmL, k1_iconst, k1_bipush, k1_sipush, k1_lconst, k1_dconst0, k1_dconst1, k1_fconst0, k1_fconst1, k1_iload, k1_lload, k1_aload, k1_dload, k1_fload, k1_istore, k1_lstore, k1_astore, k1_dstore, k1_fstore, k1_iinc, k1_iadd, k1_isub, k1_imul, k1_iand, k1_ixor, k1_ishr, k1_ladd, k1_lsub, k1_lmul, k1_land, k1_lor, k1_lcmp, k1_lshl, k1_lshr, k1_idiv, k1_irem, k1_ldiv, k1_lrem, k1_fdiv, k1_ddiv, k1_f2d, k1_i2l, k1_l2i, k1_i2b, k1_l2d, k1_l2f, k1_dcmpl, k1_dcmpg, k1_fcmpl, k1_fcmpg, k1_dup, k1_pop, k1_dup2, k1_goto, k1_ifeq, k1_ifne, k1_iflt, k1_ifge, k1_ifgt, k1_ifle, k1_icmpeq, k1_icmpne, k1_icmplt, k1_icmpge, k1_icmpgt, k1_icmple, k3_constI, k3_constJ, k3_constD, gf_5_0, gf_5_1, gf_5_2, gf_5_3, gf_5_4, gf_5_5, pf_5_5, gf_5_6, pf_5_6, gf_5_7, gf_5_8, gf_4_0, gf_4_1, pf_4_1, gf_4_2, pf_4_2, gf_4_3, pf_4_3, gf_4_4, pf_4_4, gf_4_5, pf_4_5, gf_4_6, gf_4_7, pf_4_7, gf_4_8, pf_4_8, gf_4_9, pf_4_9, gf_3_0, gf_3_1, pf_3_1, gf_6_0, gf_6_1, gf_6_2, gf_6_3, gf_6_4, gf_6_5, gf_6_6, gf_6_7, gf_6_8, gf_6_9, gf_6_10, gf_6_11, pf_6_11, gf_6_12, pf_6_12, gf_6_13, gf_6_14, pf_6_14, gf_6_15, pf_6_15, gf_6_16, pf_6_16, gf_6_17, pf_6_17, gf_6_18, pf_6_18, gf_6_19, pf_6_19, gf_6_20, pf_6_20, gf_6_21, pf_6_21, gf_6_22, pf_6_22, gf_6_23, gf_6_24, gf_6_25, gf_6_26, pf_6_26, gf_6_27, gf_6_28, pf_6_28, gf_0_0, pf_0_0, gf_0_1, pf_0_1, gf_0_2, pf_0_2, gf_0_3, pf_0_3, gf_0_4, pf_0_4, gf_2_0, pf_2_0, gf_2_1, pf_2_1, gf_2_2, pf_2_2, gf_2_3, pf_2_3, gf_2_4, pf_2_4, gf_2_5, pf_2_5, gf_2_6, pf_2_6, gf_2_7, pf_2_7, gf_2_8, pf_2_8, gf_2_9, pf_2_9, gf_2_10, pf_2_10, gf_2_11, pf_2_11, gf_2_12, gf_2_13, gf_1_0, pf_1_0, gf_1_1, pf_1_1, gf_1_2, pf_1_2, gf_1_3, pf_1_3, gf_1_4, pf_1_4, gf_1_5, pf_1_5, gf_1_6, pf_1_6, gf_1_7, pf_1_7, gf_1_8, pf_1_8, gf_1_9, pf_1_9, gf_1_10, pf_1_10, gf_1_11, gf_1_12, gf_1_13, al_sl, as_sl, al_ct, as_ct, al_hr, as_hr, al_tx, as_tx, al_rb, as_rb, al_sv, as_sv, al_out, as_out, al_od, al_ha, al_pa, al_ps, al_sn, al_ai, as_ai, al_az, as_az, al_aj, as_aj, ln_hr, kv_rs, kv_tr, kv_rp, kv_md, kv_lk, kv_hh, kv_pg, lg_cmp_ge, lg_cmp_le, lg_cmp_gt, lg_cmp_lt, lg_cmp_eq, hi, hc, hg, hl, hf, Nat.not_le.mpr hi, al_r0, al_r1, al_r2, al_r3, al_r4, al_r5, al_r6, al_r7, al_r8, al_r9, al_r10, al_r11, al_r12, al_r13, al_r14, al_r15, as_r0, as_r1, as_r2, as_r3, as_r4, as_r5, as_r6, as_r7, as_r8, as_r9, as_r10, as_r11, as_r12, as_r13, as_r14, as_r15, gH_sH, gH_sP, gH_sL, gH_sC, gP_sH, gP_sP, gP_sL, gP_sC, gL_sH, gL_sP, gL_sL, gL_sC, gC_sH, gC_sP, gC_sL, gC_sC, rz_sH, rz_sP, rz_sL, ro_sH, ro_sP, ro_sL, rj_sH, rj_sP, rj_sL, gH_upI, gH_upZ, gP_upI, gP_upZ, gL_upI, gL_upZ, rz_sC, gC_upI, x59, x60, x61, x62, x63, x64, x65, x66, x50, x51, hx]
    exact ih2
theorem x101_d {n : Nat} (hn : n ≤ 12) {t : Nat} (hR : Rok S n t) {v2 : Int32} {l4 : Option Value} : ∀ (j i : Nat), i + j = n → X xtab sx 101 135 [some (.ref (adr s0 (8, 0, 0))), some (.int (Int32.ofNat n)), some (.int v2), some (.int (Int32.ofNat i)), l4] [] (hp s0 (rpD S i), m) = X xtab sx 101 135 [some (.ref (adr s0 (8, 0, 0))), some (.int (Int32.ofNat n)), some (.int v2), some (.int (Int32.ofNat n)), l4] [] (hp s0 (rpD S n), m) := by
  intro j
  induction j with
  | zero =>
    intro i h
    have hi : i = n := by omega
    subst hi
    rfl
  | succ j ih =>
    intro i h
    have hi : i < 12 := by omega
    have hc := oN_clamp (i := i) (by omega)
    have hg := oN_neg (i := i) (by omega)
    have hl := oN_le (i := i) (n := n) (by omega) (by omega)
    have hf : ¬ n ≤ i := by omega
    have ih2 := ih (i + 1) (by omega)
    rw [inc_ofNat] at ih2
    rw [e_101_135]
    have hf1 := rpD_Rf hR (j := i) (by omega)
    have hk := Rok_h (Rok_Rf hR hf1) (p := i) (by omega)
    rw [rh_Rf hf1 hi] at hk
    have hx := x96 (sx := sx) (s0 := s0) (m := m) hi hk.1 hk.2
    rw [show rpD S (i + 1) = rvF (rpD S i) i (rh S i) from rfl] at ih2
    simp [e_101_0, e_101_1, e_101_4, e_101_5, e_101_6, e_101_7, e_101_8, e_101_9, e_101_10, e_101_11, e_101_14, e_101_15, e_101_16, e_101_19, e_101_20, e_101_23, e_101_24, e_101_25, e_101_26, e_101_28, e_101_31, e_101_32, e_101_35, e_101_38, e_101_40, e_101_41, e_101_44, e_101_45, e_101_46, e_101_49, e_101_50, e_101_51, e_101_52, e_101_55, e_101_56, e_101_57, e_101_58, e_101_61, e_101_62, e_101_65, e_101_66, e_101_67, e_101_68, e_101_69, e_101_70, e_101_71, e_101_74, e_101_75, e_101_78, e_101_79, e_101_80, e_101_83, e_101_86, e_101_89, e_101_90, e_101_93, e_101_95, e_101_96, e_101_99, e_101_100, e_101_103, e_101_104, e_101_105, e_101_106, e_101_109, e_101_111, e_101_112, e_101_113, e_101_114, e_101_117, e_101_118, e_101_121, e_101_122, e_101_123, e_101_124, e_101_125, e_101_128, e_101_129, e_101_130, e_101_133, e_101_134, e_101_136, e_101_137, e_101_140, e_101_141, e_101_142, e_101_145, e_101_148, e_101_151, e_101_152, e_101_155, e_101_157, e_101_158, e_101_159, e_101_160, e_101_163, e_101_166, e_101_167, e_101_170, e_101_171, e_101_172, e_101_173, e_101_174, e_101_177, e_101_178, e_101_179, e_101_181, e_101_183, e_101_184, e_101_187, e_101_188, e_101_190, e_101_192, e_101_195, e_101_196, e_101_199, e_101_200, e_101_202, e_101_203, e_101_206, e_101_209, e_101_212, e_101_213, e_101_216, e_101_218, e_101_219, e_101_220, e_101_221, e_101_222, e_101_223, e_101_224, e_101_227, e_101_229, e_101_230, e_101_232, e_101_233, e_101_236, e_101_237, e_101_240, e_101_241, e_101_244, xentry, xent, Value.category, kB1_some, kB1_ite, kB_some, kB_ite, kB3_some, kX_some, kX_ite, kC_ite, kR_ret, kR_thr, kR_ite, kR0_ret, kR0_ite, kW_some, xretv, xst1, xst2, xcl, xsum, upI_1, upI_2, upJ_1, upJ_2, upJ_3, rwI_1, rwI_2, rwJ_1, rwJ_2, rwJ_3, upD_1, upD_2, upI_upI, upJ_upJ, x_mmin, x_mmax, x_objInit, List.length_cons, xmL, k1_iconst, k1_bipush, k1_sipush, k1_lconst, k1_dconst0, k1_dconst1, k1_fconst0, k1_fconst1, k1_iload, k1_lload, k1_aload, k1_dload, k1_fload, k1_istore, k1_lstore, k1_astore, k1_dstore, k1_fstore, k1_iinc, k1_iadd, k1_isub, k1_imul, k1_iand, k1_ixor, k1_ishr, k1_ladd, k1_lsub, k1_lmul, k1_land, k1_lor, k1_lcmp, k1_lshl, k1_lshr, k1_idiv, k1_irem, k1_ldiv, k1_lrem, k1_fdiv, k1_ddiv, k1_f2d, k1_i2l, k1_l2i, k1_i2b, k1_l2d, k1_l2f, k1_dcmpl, k1_dcmpg, k1_fcmpl, k1_fcmpg, k1_dup, k1_pop, k1_dup2, k1_goto, k1_ifeq, k1_ifne, k1_iflt, k1_ifge, k1_ifgt, k1_ifle, k1_icmpeq, k1_icmpne, k1_icmplt, k1_icmpge, k1_icmpgt, k1_icmple, k3_constI, k3_constJ, k3_constD, gf_5_0, gf_5_1, gf_5_2, gf_5_3, gf_5_4, gf_5_5, pf_5_5, gf_5_6, pf_5_6, gf_5_7, gf_5_8, gf_4_0, gf_4_1, pf_4_1, gf_4_2, pf_4_2, gf_4_3, pf_4_3, gf_4_4, pf_4_4, gf_4_5, pf_4_5, gf_4_6, gf_4_7, pf_4_7, gf_4_8, pf_4_8, gf_4_9, pf_4_9, gf_3_0, gf_3_1, pf_3_1, gf_6_0, gf_6_1, gf_6_2, gf_6_3, gf_6_4, gf_6_5, gf_6_6, gf_6_7, gf_6_8, gf_6_9, gf_6_10, gf_6_11, pf_6_11, gf_6_12, pf_6_12, gf_6_13, gf_6_14, pf_6_14, gf_6_15, pf_6_15, gf_6_16, pf_6_16, gf_6_17, pf_6_17, gf_6_18, pf_6_18, gf_6_19, pf_6_19, gf_6_20, pf_6_20, gf_6_21, pf_6_21, gf_6_22, pf_6_22, gf_6_23, gf_6_24, gf_6_25, gf_6_26, pf_6_26, gf_6_27, gf_6_28, pf_6_28, gf_0_0, pf_0_0, gf_0_1, pf_0_1, gf_0_2, pf_0_2, gf_0_3, pf_0_3, gf_0_4, pf_0_4, gf_2_0, pf_2_0, gf_2_1, pf_2_1, gf_2_2, pf_2_2, gf_2_3, pf_2_3, gf_2_4, pf_2_4, gf_2_5, pf_2_5, gf_2_6, pf_2_6, gf_2_7, pf_2_7, gf_2_8, pf_2_8, gf_2_9, pf_2_9, gf_2_10, pf_2_10, gf_2_11, pf_2_11, gf_2_12, gf_2_13, gf_1_0, pf_1_0, gf_1_1, pf_1_1, gf_1_2, pf_1_2, gf_1_3, pf_1_3, gf_1_4, pf_1_4, gf_1_5, pf_1_5, gf_1_6, pf_1_6, gf_1_7, pf_1_7, gf_1_8, pf_1_8, gf_1_9, pf_1_9, gf_1_10, pf_1_10, gf_1_11, gf_1_12, gf_1_13, al_sl, as_sl, al_ct, as_ct, al_hr, as_hr, al_tx, as_tx, al_rb, as_rb, al_sv, as_sv, al_out, as_out, al_od, al_ha, al_pa, al_ps, al_sn, al_ai, as_ai, al_az, as_az, al_aj, as_aj, ln_hr, kv_rs, kv_tr, kv_rp, kv_md, kv_lk, kv_hh, kv_pg, lg_cmp_ge, lg_cmp_le, lg_cmp_gt, lg_cmp_lt, lg_cmp_eq, hi, hc, hg, hl, hf, Nat.not_le.mpr hi, al_r0, al_r1, al_r2, al_r3, al_r4, al_r5, al_r6, al_r7, al_r8, al_r9, al_r10, al_r11, al_r12, al_r13, al_r14, al_r15, as_r0, as_r1, as_r2, as_r3, as_r4, as_r5, as_r6, as_r7, as_r8, as_r9, as_r10, as_r11, as_r12, as_r13, as_r14, as_r15, gH_sH, gH_sP, gH_sL, gH_sC, gP_sH, gP_sP, gP_sL, gP_sC, gL_sH, gL_sP, gL_sL, gL_sC, gC_sH, gC_sP, gC_sL, gC_sC, rz_sH, rz_sP, rz_sL, ro_sH, ro_sP, ro_sL, rj_sH, rj_sP, rj_sL, gH_upI, gH_upZ, gP_upI, gP_upZ, gL_upI, gL_upZ, rz_sC, gC_upI, x59, x60, x61, x62, x63, x64, x65, x66, x50, x51, hx]
    exact ih2
theorem x101_l {n : Nat} (hn : n ≤ 12) {t : Nat} (hR : Rok S n t) {v2 : Int32} {o : Option Nat} (ho : ∀ j, o = some j → j < 12) : ∀ (j i : Nat), i + j = n → X xtab sx 101 181 [some (.ref (adr s0 (8, 0, 0))), some (.int (Int32.ofNat n)), some (.int v2), some (.int (lrV o)), some (.int (Int32.ofNat i))] [] (hp s0 (rpL S o i), m) = X xtab sx 101 181 [some (.ref (adr s0 (8, 0, 0))), some (.int (Int32.ofNat n)), some (.int v2), some (.int (lrV o)), some (.int (Int32.ofNat n))] [] (hp s0 (rpL S o n), m) := by
  intro j
  induction j with
  | zero =>
    intro i h
    have hi : i = n := by omega
    subst hi
    rfl
  | succ j ih =>
    intro i h
    have hi : i < 12 := by omega
    have hc := oN_clamp (i := i) (by omega)
    have hg := oN_neg (i := i) (by omega)
    have hl := oN_le (i := i) (n := n) (by omega) (by omega)
    have hf : ¬ n ≤ i := by omega
    have ih2 := ih (i + 1) (by omega)
    rw [inc_ofNat] at ih2
    rw [e_101_181]
    have hf1 := rpL_Rf hR (j := i) (o := o) (by omega)
    have hx := x99 (sx := sx) (s0 := s0) (S := rpL S o i) (m := m) hi ho ((Rok_Rf hR hf1).2.2.2.2.2 i (by omega))
    by_cases hy : gP (rpL S o i) i 10 = 1
    · rw [show rpL S o (i + 1) = rlF (rpL S o i) i o from if_pos hy] at ih2
      simp [e_101_0, e_101_1, e_101_4, e_101_5, e_101_6, e_101_7, e_101_8, e_101_9, e_101_10, e_101_11, e_101_14, e_101_15, e_101_16, e_101_19, e_101_20, e_101_23, e_101_24, e_101_25, e_101_26, e_101_28, e_101_31, e_101_32, e_101_35, e_101_38, e_101_40, e_101_41, e_101_44, e_101_45, e_101_46, e_101_49, e_101_50, e_101_51, e_101_52, e_101_55, e_101_56, e_101_57, e_101_58, e_101_61, e_101_62, e_101_65, e_101_66, e_101_67, e_101_68, e_101_69, e_101_70, e_101_71, e_101_74, e_101_75, e_101_78, e_101_79, e_101_80, e_101_83, e_101_86, e_101_89, e_101_90, e_101_93, e_101_95, e_101_96, e_101_99, e_101_100, e_101_103, e_101_104, e_101_105, e_101_106, e_101_109, e_101_111, e_101_112, e_101_113, e_101_114, e_101_117, e_101_118, e_101_121, e_101_122, e_101_123, e_101_124, e_101_125, e_101_128, e_101_129, e_101_130, e_101_133, e_101_134, e_101_135, e_101_136, e_101_137, e_101_140, e_101_141, e_101_142, e_101_145, e_101_148, e_101_151, e_101_152, e_101_155, e_101_157, e_101_158, e_101_159, e_101_160, e_101_163, e_101_166, e_101_167, e_101_170, e_101_171, e_101_172, e_101_173, e_101_174, e_101_177, e_101_178, e_101_179, e_101_183, e_101_184, e_101_187, e_101_188, e_101_190, e_101_192, e_101_195, e_101_196, e_101_199, e_101_200, e_101_202, e_101_203, e_101_206, e_101_209, e_101_212, e_101_213, e_101_216, e_101_218, e_101_219, e_101_220, e_101_221, e_101_222, e_101_223, e_101_224, e_101_227, e_101_229, e_101_230, e_101_232, e_101_233, e_101_236, e_101_237, e_101_240, e_101_241, e_101_244, xentry, xent, Value.category, kB1_some, kB1_ite, kB_some, kB_ite, kB3_some, kX_some, kX_ite, kC_ite, kR_ret, kR_thr, kR_ite, kR0_ret, kR0_ite, kW_some, xretv, xst1, xst2, xcl, xsum, upI_1, upI_2, upJ_1, upJ_2, upJ_3, rwI_1, rwI_2, rwJ_1, rwJ_2, rwJ_3, upD_1, upD_2, upI_upI, upJ_upJ, x_mmin, x_mmax, x_objInit, List.length_cons, xmL, k1_iconst, k1_bipush, k1_sipush, k1_lconst, k1_dconst0, k1_dconst1, k1_fconst0, k1_fconst1, k1_iload, k1_lload, k1_aload, k1_dload, k1_fload, k1_istore, k1_lstore, k1_astore, k1_dstore, k1_fstore, k1_iinc, k1_iadd, k1_isub, k1_imul, k1_iand, k1_ixor, k1_ishr, k1_ladd, k1_lsub, k1_lmul, k1_land, k1_lor, k1_lcmp, k1_lshl, k1_lshr, k1_idiv, k1_irem, k1_ldiv, k1_lrem, k1_fdiv, k1_ddiv, k1_f2d, k1_i2l, k1_l2i, k1_i2b, k1_l2d, k1_l2f, k1_dcmpl, k1_dcmpg, k1_fcmpl, k1_fcmpg, k1_dup, k1_pop, k1_dup2, k1_goto, k1_ifeq, k1_ifne, k1_iflt, k1_ifge, k1_ifgt, k1_ifle, k1_icmpeq, k1_icmpne, k1_icmplt, k1_icmpge, k1_icmpgt, k1_icmple, k3_constI, k3_constJ, k3_constD, gf_5_0, gf_5_1, gf_5_2, gf_5_3, gf_5_4, gf_5_5, pf_5_5, gf_5_6, pf_5_6, gf_5_7, gf_5_8, gf_4_0, gf_4_1, pf_4_1, gf_4_2, pf_4_2, gf_4_3, pf_4_3, gf_4_4, pf_4_4, gf_4_5, pf_4_5, gf_4_6, gf_4_7, pf_4_7, gf_4_8, pf_4_8, gf_4_9, pf_4_9, gf_3_0, gf_3_1, pf_3_1, gf_6_0, gf_6_1, gf_6_2, gf_6_3, gf_6_4, gf_6_5, gf_6_6, gf_6_7, gf_6_8, gf_6_9, gf_6_10, gf_6_11, pf_6_11, gf_6_12, pf_6_12, gf_6_13, gf_6_14, pf_6_14, gf_6_15, pf_6_15, gf_6_16, pf_6_16, gf_6_17, pf_6_17, gf_6_18, pf_6_18, gf_6_19, pf_6_19, gf_6_20, pf_6_20, gf_6_21, pf_6_21, gf_6_22, pf_6_22, gf_6_23, gf_6_24, gf_6_25, gf_6_26, pf_6_26, gf_6_27, gf_6_28, pf_6_28, gf_0_0, pf_0_0, gf_0_1, pf_0_1, gf_0_2, pf_0_2, gf_0_3, pf_0_3, gf_0_4, pf_0_4, gf_2_0, pf_2_0, gf_2_1, pf_2_1, gf_2_2, pf_2_2, gf_2_3, pf_2_3, gf_2_4, pf_2_4, gf_2_5, pf_2_5, gf_2_6, pf_2_6, gf_2_7, pf_2_7, gf_2_8, pf_2_8, gf_2_9, pf_2_9, gf_2_10, pf_2_10, gf_2_11, pf_2_11, gf_2_12, gf_2_13, gf_1_0, pf_1_0, gf_1_1, pf_1_1, gf_1_2, pf_1_2, gf_1_3, pf_1_3, gf_1_4, pf_1_4, gf_1_5, pf_1_5, gf_1_6, pf_1_6, gf_1_7, pf_1_7, gf_1_8, pf_1_8, gf_1_9, pf_1_9, gf_1_10, pf_1_10, gf_1_11, gf_1_12, gf_1_13, al_sl, as_sl, al_ct, as_ct, al_hr, as_hr, al_tx, as_tx, al_rb, as_rb, al_sv, as_sv, al_out, as_out, al_od, al_ha, al_pa, al_ps, al_sn, al_ai, as_ai, al_az, as_az, al_aj, as_aj, ln_hr, kv_rs, kv_tr, kv_rp, kv_md, kv_lk, kv_hh, kv_pg, lg_cmp_ge, lg_cmp_le, lg_cmp_gt, lg_cmp_lt, lg_cmp_eq, hi, hc, hg, hl, hf, Nat.not_le.mpr hi, al_r0, al_r1, al_r2, al_r3, al_r4, al_r5, al_r6, al_r7, al_r8, al_r9, al_r10, al_r11, al_r12, al_r13, al_r14, al_r15, as_r0, as_r1, as_r2, as_r3, as_r4, as_r5, as_r6, as_r7, as_r8, as_r9, as_r10, as_r11, as_r12, as_r13, as_r14, as_r15, gH_sH, gH_sP, gH_sL, gH_sC, gP_sH, gP_sP, gP_sL, gP_sC, gL_sH, gL_sP, gL_sL, gL_sC, gC_sH, gC_sP, gC_sL, gC_sC, rz_sH, rz_sP, rz_sL, ro_sH, ro_sP, ro_sL, rj_sH, rj_sP, rj_sL, gH_upI, gH_upZ, gP_upI, gP_upZ, gL_upI, gL_upZ, rz_sC, gC_upI, x59, x60, x61, x62, x63, x64, x65, x66, x50, x51, hx, hy]
      exact ih2
    · rw [show rpL S o (i + 1) = rpL S o i from if_neg hy] at ih2
      simp [e_101_0, e_101_1, e_101_4, e_101_5, e_101_6, e_101_7, e_101_8, e_101_9, e_101_10, e_101_11, e_101_14, e_101_15, e_101_16, e_101_19, e_101_20, e_101_23, e_101_24, e_101_25, e_101_26, e_101_28, e_101_31, e_101_32, e_101_35, e_101_38, e_101_40, e_101_41, e_101_44, e_101_45, e_101_46, e_101_49, e_101_50, e_101_51, e_101_52, e_101_55, e_101_56, e_101_57, e_101_58, e_101_61, e_101_62, e_101_65, e_101_66, e_101_67, e_101_68, e_101_69, e_101_70, e_101_71, e_101_74, e_101_75, e_101_78, e_101_79, e_101_80, e_101_83, e_101_86, e_101_89, e_101_90, e_101_93, e_101_95, e_101_96, e_101_99, e_101_100, e_101_103, e_101_104, e_101_105, e_101_106, e_101_109, e_101_111, e_101_112, e_101_113, e_101_114, e_101_117, e_101_118, e_101_121, e_101_122, e_101_123, e_101_124, e_101_125, e_101_128, e_101_129, e_101_130, e_101_133, e_101_134, e_101_135, e_101_136, e_101_137, e_101_140, e_101_141, e_101_142, e_101_145, e_101_148, e_101_151, e_101_152, e_101_155, e_101_157, e_101_158, e_101_159, e_101_160, e_101_163, e_101_166, e_101_167, e_101_170, e_101_171, e_101_172, e_101_173, e_101_174, e_101_177, e_101_178, e_101_179, e_101_183, e_101_184, e_101_187, e_101_188, e_101_190, e_101_192, e_101_195, e_101_196, e_101_199, e_101_200, e_101_202, e_101_203, e_101_206, e_101_209, e_101_212, e_101_213, e_101_216, e_101_218, e_101_219, e_101_220, e_101_221, e_101_222, e_101_223, e_101_224, e_101_227, e_101_229, e_101_230, e_101_232, e_101_233, e_101_236, e_101_237, e_101_240, e_101_241, e_101_244, xentry, xent, Value.category, kB1_some, kB1_ite, kB_some, kB_ite, kB3_some, kX_some, kX_ite, kC_ite, kR_ret, kR_thr, kR_ite, kR0_ret, kR0_ite, kW_some, xretv, xst1, xst2, xcl, xsum, upI_1, upI_2, upJ_1, upJ_2, upJ_3, rwI_1, rwI_2, rwJ_1, rwJ_2, rwJ_3, upD_1, upD_2, upI_upI, upJ_upJ, x_mmin, x_mmax, x_objInit, List.length_cons, xmL, k1_iconst, k1_bipush, k1_sipush, k1_lconst, k1_dconst0, k1_dconst1, k1_fconst0, k1_fconst1, k1_iload, k1_lload, k1_aload, k1_dload, k1_fload, k1_istore, k1_lstore, k1_astore, k1_dstore, k1_fstore, k1_iinc, k1_iadd, k1_isub, k1_imul, k1_iand, k1_ixor, k1_ishr, k1_ladd, k1_lsub, k1_lmul, k1_land, k1_lor, k1_lcmp, k1_lshl, k1_lshr, k1_idiv, k1_irem, k1_ldiv, k1_lrem, k1_fdiv, k1_ddiv, k1_f2d, k1_i2l, k1_l2i, k1_i2b, k1_l2d, k1_l2f, k1_dcmpl, k1_dcmpg, k1_fcmpl, k1_fcmpg, k1_dup, k1_pop, k1_dup2, k1_goto, k1_ifeq, k1_ifne, k1_iflt, k1_ifge, k1_ifgt, k1_ifle, k1_icmpeq, k1_icmpne, k1_icmplt, k1_icmpge, k1_icmpgt, k1_icmple, k3_constI, k3_constJ, k3_constD, gf_5_0, gf_5_1, gf_5_2, gf_5_3, gf_5_4, gf_5_5, pf_5_5, gf_5_6, pf_5_6, gf_5_7, gf_5_8, gf_4_0, gf_4_1, pf_4_1, gf_4_2, pf_4_2, gf_4_3, pf_4_3, gf_4_4, pf_4_4, gf_4_5, pf_4_5, gf_4_6, gf_4_7, pf_4_7, gf_4_8, pf_4_8, gf_4_9, pf_4_9, gf_3_0, gf_3_1, pf_3_1, gf_6_0, gf_6_1, gf_6_2, gf_6_3, gf_6_4, gf_6_5, gf_6_6, gf_6_7, gf_6_8, gf_6_9, gf_6_10, gf_6_11, pf_6_11, gf_6_12, pf_6_12, gf_6_13, gf_6_14, pf_6_14, gf_6_15, pf_6_15, gf_6_16, pf_6_16, gf_6_17, pf_6_17, gf_6_18, pf_6_18, gf_6_19, pf_6_19, gf_6_20, pf_6_20, gf_6_21, pf_6_21, gf_6_22, pf_6_22, gf_6_23, gf_6_24, gf_6_25, gf_6_26, pf_6_26, gf_6_27, gf_6_28, pf_6_28, gf_0_0, pf_0_0, gf_0_1, pf_0_1, gf_0_2, pf_0_2, gf_0_3, pf_0_3, gf_0_4, pf_0_4, gf_2_0, pf_2_0, gf_2_1, pf_2_1, gf_2_2, pf_2_2, gf_2_3, pf_2_3, gf_2_4, pf_2_4, gf_2_5, pf_2_5, gf_2_6, pf_2_6, gf_2_7, pf_2_7, gf_2_8, pf_2_8, gf_2_9, pf_2_9, gf_2_10, pf_2_10, gf_2_11, pf_2_11, gf_2_12, gf_2_13, gf_1_0, pf_1_0, gf_1_1, pf_1_1, gf_1_2, pf_1_2, gf_1_3, pf_1_3, gf_1_4, pf_1_4, gf_1_5, pf_1_5, gf_1_6, pf_1_6, gf_1_7, pf_1_7, gf_1_8, pf_1_8, gf_1_9, pf_1_9, gf_1_10, pf_1_10, gf_1_11, gf_1_12, gf_1_13, al_sl, as_sl, al_ct, as_ct, al_hr, as_hr, al_tx, as_tx, al_rb, as_rb, al_sv, as_sv, al_out, as_out, al_od, al_ha, al_pa, al_ps, al_sn, al_ai, as_ai, al_az, as_az, al_aj, as_aj, ln_hr, kv_rs, kv_tr, kv_rp, kv_md, kv_lk, kv_hh, kv_pg, lg_cmp_ge, lg_cmp_le, lg_cmp_gt, lg_cmp_lt, lg_cmp_eq, hi, hc, hg, hl, hf, Nat.not_le.mpr hi, al_r0, al_r1, al_r2, al_r3, al_r4, al_r5, al_r6, al_r7, al_r8, al_r9, al_r10, al_r11, al_r12, al_r13, al_r14, al_r15, as_r0, as_r1, as_r2, as_r3, as_r4, as_r5, as_r6, as_r7, as_r8, as_r9, as_r10, as_r11, as_r12, as_r13, as_r14, as_r15, gH_sH, gH_sP, gH_sL, gH_sC, gP_sH, gP_sP, gP_sL, gP_sC, gL_sH, gL_sP, gL_sL, gL_sC, gC_sH, gC_sP, gC_sL, gC_sC, rz_sH, rz_sP, rz_sL, ro_sH, ro_sP, ro_sL, rj_sH, rj_sP, rj_sL, gH_upI, gH_upZ, gP_upI, gP_upZ, gL_upI, gL_upZ, rz_sC, gC_upI, x59, x60, x61, x62, x63, x64, x65, x66, x50, x51, hx, hy]
      exact ih2
end R5
