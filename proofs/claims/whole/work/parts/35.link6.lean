section P10
variable {sx : xSx} {s0 k k' p' g i' : Nat} {S : St} {m : Nat × Nat × Nat}
/-- Link.passTime: the loop at an hour's end -/
def phR (S : St) (k j : Nat) : St := upI (upI (upI S (15, k, 0) (phF (ehF S k - 1) (Int32.ofNat j)).toNatClampNeg (S.1 (16, k, j) 4)) (16, k, j) 3 0) (16, k, j) 4 0
def ptL (S : St) (k : Nat) : Nat → St
  | 0 => S
  | j + 1 => phR (ptL S k j) k j
theorem ptL_lk : ∀ j, (ptL S k j).1 (12, k', 0) g = S.1 (12, k', 0) g := by
  intro j
  induction j with
  | zero => rfl
  | succ j ih =>
    unfold ptL phR
    simp [upI_1, ih]
theorem x179_l (hk : k < 13) {n : Nat} (hn : n ≤ 6) (hnp : S.1 (12, k, 0) 9 = Int32.ofNat n) (hpl : ∀ i, i < n → (¬ phF (ehF S k - 1) (Int32.ofNat i) < 0 ∧ (phF (ehF S k - 1) (Int32.ofNat i)).toNatClampNeg < 144)) : ∀ (j i : Nat), i + j = n → X xtab sx 179 22 [some (.ref (adr s0 (12, k, 0))), some (.int (Int32.ofNat i))] [] (hp s0 (ptL S k i), m) = some (.inl none, (hp s0 (ptL S k n), m)) := by
  intro j
  induction j with
  | zero =>
    intro i h
    have hi : i = n := by omega
    subst hi
    simp [e_179_0, e_179_1, e_179_2, e_179_5, e_179_6, e_179_7, e_179_10, e_179_11, e_179_14, e_179_16, e_179_17, e_179_20, e_179_21, e_179_22, e_179_23, e_179_24, e_179_27, e_179_30, e_179_31, e_179_34, e_179_35, e_179_36, e_179_39, e_179_40, e_179_41, e_179_42, e_179_45, e_179_46, e_179_49, e_179_50, e_179_51, e_179_54, e_179_55, e_179_56, e_179_59, e_179_60, e_179_61, e_179_62, e_179_65, e_179_66, e_179_69, e_179_70, e_179_71, e_179_72, e_179_75, e_179_78, e_179_81, xentry, xent, Value.category, kB1_some, kB1_ite, kB_some, kB_ite, kB3_some, kX_some, kX_ite, kC_ite, kR_ret, kR_thr, kR_ite, kR0_ret, kR0_ite, kW_some, xretv, xst1, xst2, xcl, xsum, upI_1, upI_2, upJ_1, upJ_2, upJ_3, rwI_1, rwI_2, rwJ_1, rwJ_2, rwJ_3, upD_1, upD_2, upI_upI, upJ_upJ, x_mmin, x_mmax, x_objInit, List.length_cons, xmL, k1_iconst, k1_bipush, k1_sipush, k1_lconst, k1_dconst0, k1_dconst1, k1_fconst0, k1_fconst1, k1_iload, k1_lload, k1_aload, k1_dload, k1_fload, k1_istore, k1_lstore, k1_astore, k1_dstore, k1_fstore, k1_iinc, k1_iadd, k1_isub, k1_imul, k1_iand, k1_ixor, k1_ishr, k1_ladd, k1_lsub, k1_lmul, k1_land, k1_lor, k1_lcmp, k1_lshl, k1_lshr, k1_idiv, k1_irem, k1_ldiv, k1_lrem, k1_fdiv, k1_ddiv, k1_f2d, k1_i2l, k1_l2i, k1_i2b, k1_l2d, k1_l2f, k1_dcmpl, k1_dcmpg, k1_fcmpl, k1_fcmpg, k1_dup, k1_pop, k1_dup2, k1_goto, k1_ifeq, k1_ifne, k1_iflt, k1_ifge, k1_ifgt, k1_ifle, k1_icmpeq, k1_icmpne, k1_icmplt, k1_icmpge, k1_icmpgt, k1_icmple, k3_constI, k3_constJ, k3_constD, gf_5_0, gf_5_1, gf_5_2, gf_5_3, gf_5_4, gf_5_5, pf_5_5, gf_5_6, pf_5_6, gf_5_7, gf_5_8, gf_4_0, gf_4_1, pf_4_1, gf_4_2, pf_4_2, gf_4_3, pf_4_3, gf_4_4, pf_4_4, gf_4_5, pf_4_5, gf_4_6, gf_4_7, pf_4_7, gf_4_8, pf_4_8, gf_4_9, pf_4_9, gf_3_0, gf_3_1, pf_3_1, gf_6_0, gf_6_1, gf_6_2, gf_6_3, gf_6_4, gf_6_5, gf_6_6, gf_6_7, gf_6_8, gf_6_9, gf_6_10, gf_6_11, pf_6_11, gf_6_12, pf_6_12, gf_6_13, gf_6_14, pf_6_14, gf_6_15, pf_6_15, gf_6_16, pf_6_16, gf_6_17, pf_6_17, gf_6_18, pf_6_18, gf_6_19, pf_6_19, gf_6_20, pf_6_20, gf_6_21, pf_6_21, gf_6_22, pf_6_22, gf_6_23, gf_6_24, gf_6_25, gf_6_26, pf_6_26, gf_6_27, gf_6_28, pf_6_28, gf_0_0, pf_0_0, gf_0_1, pf_0_1, gf_0_2, pf_0_2, gf_0_3, pf_0_3, gf_0_4, pf_0_4, gf_2_0, pf_2_0, gf_2_1, pf_2_1, gf_2_2, pf_2_2, gf_2_3, pf_2_3, gf_2_4, pf_2_4, gf_2_5, pf_2_5, gf_2_6, pf_2_6, gf_2_7, pf_2_7, gf_2_8, pf_2_8, gf_2_9, pf_2_9, gf_2_10, pf_2_10, gf_2_11, pf_2_11, gf_2_12, gf_2_13, gf_1_0, pf_1_0, gf_1_1, pf_1_1, gf_1_2, pf_1_2, gf_1_3, pf_1_3, gf_1_4, pf_1_4, gf_1_5, pf_1_5, gf_1_6, pf_1_6, gf_1_7, pf_1_7, gf_1_8, pf_1_8, gf_1_9, pf_1_9, gf_1_10, pf_1_10, gf_1_11, gf_1_12, gf_1_13, al_sl, as_sl, al_ct, as_ct, al_hr, as_hr, al_tx, as_tx, al_rb, as_rb, al_sv, as_sv, al_out, as_out, al_od, al_ha, al_pa, al_ps, al_sn, al_ai, as_ai, al_az, as_az, al_aj, as_aj, ln_hr, kv_rs, kv_tr, kv_rp, kv_md, kv_lk, kv_hh, kv_pg, hk, hnp, ptL_lk]
  | succ j ih =>
    intro i h
    have hi : i < 6 := by omega
    have hc := oN_clamp (i := i) (by omega)
    have hg := oN_neg (i := i) (by omega)
    have hl := oN_le (i := i) (n := n) (by omega) (by omega)
    have hf : ¬ n ≤ i := by omega
    have ih2 := ih (i + 1) (by omega)
    obtain ⟨h0, h1⟩ := hpl i (by omega)
    have he : ehF (ptL S k i) k = ehF S k := by unfold ehF; rw [ptL_lk]
    rw [← he] at h0 h1
    have h2 : 0 ≤ phF (ehF (ptL S k i) k - 1) (Int32.ofNat i) := Int32.not_lt.mp h0
    have hnp2 := (ptL_lk (S := S) (k := k) (k' := k) (g := 9) i).trans hnp
    rw [inc_ofNat, show ptL S k (i + 1) = phR (ptL S k i) k i from rfl, phR] at ih2
    rw [e_179_22]
    simp [e_179_0, e_179_1, e_179_2, e_179_5, e_179_6, e_179_7, e_179_10, e_179_11, e_179_14, e_179_16, e_179_17, e_179_20, e_179_21, e_179_23, e_179_24, e_179_27, e_179_30, e_179_31, e_179_34, e_179_35, e_179_36, e_179_39, e_179_40, e_179_41, e_179_42, e_179_45, e_179_46, e_179_49, e_179_50, e_179_51, e_179_54, e_179_55, e_179_56, e_179_59, e_179_60, e_179_61, e_179_62, e_179_65, e_179_66, e_179_69, e_179_70, e_179_71, e_179_72, e_179_75, e_179_78, e_179_81, xentry, xent, Value.category, kB1_some, kB1_ite, kB_some, kB_ite, kB3_some, kX_some, kX_ite, kC_ite, kR_ret, kR_thr, kR_ite, kR0_ret, kR0_ite, kW_some, xretv, xst1, xst2, xcl, xsum, upI_1, upI_2, upJ_1, upJ_2, upJ_3, rwI_1, rwI_2, rwJ_1, rwJ_2, rwJ_3, upD_1, upD_2, upI_upI, upJ_upJ, x_mmin, x_mmax, x_objInit, List.length_cons, xmL, k1_iconst, k1_bipush, k1_sipush, k1_lconst, k1_dconst0, k1_dconst1, k1_fconst0, k1_fconst1, k1_iload, k1_lload, k1_aload, k1_dload, k1_fload, k1_istore, k1_lstore, k1_astore, k1_dstore, k1_fstore, k1_iinc, k1_iadd, k1_isub, k1_imul, k1_iand, k1_ixor, k1_ishr, k1_ladd, k1_lsub, k1_lmul, k1_land, k1_lor, k1_lcmp, k1_lshl, k1_lshr, k1_idiv, k1_irem, k1_ldiv, k1_lrem, k1_fdiv, k1_ddiv, k1_f2d, k1_i2l, k1_l2i, k1_i2b, k1_l2d, k1_l2f, k1_dcmpl, k1_dcmpg, k1_fcmpl, k1_fcmpg, k1_dup, k1_pop, k1_dup2, k1_goto, k1_ifeq, k1_ifne, k1_iflt, k1_ifge, k1_ifgt, k1_ifle, k1_icmpeq, k1_icmpne, k1_icmplt, k1_icmpge, k1_icmpgt, k1_icmple, k3_constI, k3_constJ, k3_constD, gf_5_0, gf_5_1, gf_5_2, gf_5_3, gf_5_4, gf_5_5, pf_5_5, gf_5_6, pf_5_6, gf_5_7, gf_5_8, gf_4_0, gf_4_1, pf_4_1, gf_4_2, pf_4_2, gf_4_3, pf_4_3, gf_4_4, pf_4_4, gf_4_5, pf_4_5, gf_4_6, gf_4_7, pf_4_7, gf_4_8, pf_4_8, gf_4_9, pf_4_9, gf_3_0, gf_3_1, pf_3_1, gf_6_0, gf_6_1, gf_6_2, gf_6_3, gf_6_4, gf_6_5, gf_6_6, gf_6_7, gf_6_8, gf_6_9, gf_6_10, gf_6_11, pf_6_11, gf_6_12, pf_6_12, gf_6_13, gf_6_14, pf_6_14, gf_6_15, pf_6_15, gf_6_16, pf_6_16, gf_6_17, pf_6_17, gf_6_18, pf_6_18, gf_6_19, pf_6_19, gf_6_20, pf_6_20, gf_6_21, pf_6_21, gf_6_22, pf_6_22, gf_6_23, gf_6_24, gf_6_25, gf_6_26, pf_6_26, gf_6_27, gf_6_28, pf_6_28, gf_0_0, pf_0_0, gf_0_1, pf_0_1, gf_0_2, pf_0_2, gf_0_3, pf_0_3, gf_0_4, pf_0_4, gf_2_0, pf_2_0, gf_2_1, pf_2_1, gf_2_2, pf_2_2, gf_2_3, pf_2_3, gf_2_4, pf_2_4, gf_2_5, pf_2_5, gf_2_6, pf_2_6, gf_2_7, pf_2_7, gf_2_8, pf_2_8, gf_2_9, pf_2_9, gf_2_10, pf_2_10, gf_2_11, pf_2_11, gf_2_12, gf_2_13, gf_1_0, pf_1_0, gf_1_1, pf_1_1, gf_1_2, pf_1_2, gf_1_3, pf_1_3, gf_1_4, pf_1_4, gf_1_5, pf_1_5, gf_1_6, pf_1_6, gf_1_7, pf_1_7, gf_1_8, pf_1_8, gf_1_9, pf_1_9, gf_1_10, pf_1_10, gf_1_11, gf_1_12, gf_1_13, al_sl, as_sl, al_ct, as_ct, al_hr, as_hr, al_tx, as_tx, al_rb, as_rb, al_sv, as_sv, al_out, as_out, al_od, al_ha, al_pa, al_ps, al_sn, al_ai, as_ai, al_az, as_az, al_aj, as_aj, ln_hr, kv_rs, kv_tr, kv_rp, kv_md, kv_lk, kv_hh, kv_pg, hk, hnp2, hi, hc, hg, hl, hf, x164, x167, h0, h1, h2, Nat.not_le.mpr hi, Nat.not_le.mpr h1]
    exact ih2
end P10
