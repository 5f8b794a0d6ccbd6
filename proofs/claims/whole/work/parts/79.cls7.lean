section C7
variable {sx : xSx} {s0 n nh t : Nat} {S : St} {m : Nat × Nat × Nat}
/-- checksum -/
def hkC (S : St) (i w : Nat) : Int32 := S.1 (16, 1, i) (w + 1)
def pkF (S : St) (i w : Nat) : Int32 := S.1 (17, 1, i) (w + 1)
def ckK (S : St) (i w : Nat) : Int64 := S.2.1 (19, 1, i) w
theorem x40_p (hL : Lok S 1 n nh t) {s : Int64} : ∀ (j i : Nat) (l4 : Option Value), i + j = n → (l4 = none ∨ ∃ v, l4 = some (.int v)) → X xtab sx 40 108 [some (.ref (adr s0 (0, 0, 0))), some (.long (ckC (pkF S) (ckK S) i s)), none, some (.int (Int32.ofNat i)), l4] [] (hp s0 S, m) = some (.inl (some (.long (ckC (pkF S) (ckK S) n s))), (hp s0 S, m)) := by
  have hn := hL.1
  have h10 := hL.2.2.2.1
  intro j
  induction j with
  | zero =>
    intro i l4 h hl4
    have hi : i = n := by omega
    subst hi
    simp [e_40_0, e_40_1, e_40_2, e_40_3, e_40_4, e_40_5, e_40_7, e_40_10, e_40_13, e_40_14, e_40_15, e_40_16, e_40_17, e_40_20, e_40_21, e_40_22, e_40_23, e_40_26, e_40_29, e_40_32, e_40_33, e_40_34, e_40_35, e_40_37, e_40_40, e_40_41, e_40_42, e_40_43, e_40_46, e_40_47, e_40_48, e_40_49, e_40_51, e_40_54, e_40_55, e_40_56, e_40_57, e_40_58, e_40_59, e_40_60, e_40_61, e_40_64, e_40_67, e_40_70, e_40_71, e_40_73, e_40_75, e_40_76, e_40_79, e_40_82, e_40_83, e_40_84, e_40_85, e_40_86, e_40_88, e_40_91, e_40_92, e_40_93, e_40_94, e_40_97, e_40_100, e_40_103, e_40_106, e_40_107, e_40_108, e_40_109, e_40_110, e_40_113, e_40_116, e_40_119, e_40_122, e_40_123, e_40_124, e_40_125, e_40_126, e_40_127, e_40_130, e_40_131, e_40_132, e_40_133, e_40_136, e_40_137, e_40_138, e_40_139, e_40_140, e_40_142, e_40_145, e_40_146, e_40_147, e_40_148, e_40_151, e_40_152, e_40_153, e_40_154, e_40_155, e_40_157, e_40_160, e_40_161, e_40_162, e_40_163, e_40_164, e_40_166, e_40_168, e_40_170, e_40_173, e_40_176, e_40_177, e_40_178, e_40_179, e_40_180, e_40_182, e_40_185, e_40_186, e_40_187, e_40_190, e_40_193, e_40_196, e_40_199, e_40_200, xentry, xent, Value.category, kB1_some, kB1_ite, kB_some, kB_ite, kB3_some, kX_some, kX_ite, kC_ite, kR_ret, kR_thr, kR_ite, kR0_ret, kR0_ite, kW_some, xretv, xst1, xst2, xcl, xsum, upI_1, upI_2, upJ_1, upJ_2, upJ_3, rwI_1, rwI_2, rwJ_1, rwJ_2, rwJ_3, upD_1, upD_2, upI_upI, upJ_upJ, x_mmin, x_mmax, x_objInit, List.length_cons, xmL, k1_iconst, k1_bipush, k1_sipush, k1_lconst, k1_dconst0, k1_dconst1, k1_fconst0, k1_fconst1, k1_iload, k1_lload, k1_aload, k1_dload, k1_fload, k1_istore, k1_lstore, k1_astore, k1_dstore, k1_fstore, k1_iinc, k1_iadd, k1_isub, k1_imul, k1_iand, k1_ixor, k1_ishr, k1_ladd, k1_lsub, k1_lmul, k1_land, k1_lor, k1_lcmp, k1_lshl, k1_lshr, k1_idiv, k1_irem, k1_ldiv, k1_lrem, k1_fdiv, k1_ddiv, k1_f2d, k1_i2l, k1_l2i, k1_i2b, k1_l2d, k1_l2f, k1_dcmpl, k1_dcmpg, k1_fcmpl, k1_fcmpg, k1_dup, k1_pop, k1_dup2, k1_goto, k1_ifeq, k1_ifne, k1_iflt, k1_ifge, k1_ifgt, k1_ifle, k1_icmpeq, k1_icmpne, k1_icmplt, k1_icmpge, k1_icmpgt, k1_icmple, k3_constI, k3_constJ, k3_constD, gf_5_0, gf_5_1, gf_5_2, gf_5_3, gf_5_4, gf_5_5, pf_5_5, gf_5_6, pf_5_6, gf_5_7, gf_5_8, gf_4_0, gf_4_1, pf_4_1, gf_4_2, pf_4_2, gf_4_3, pf_4_3, gf_4_4, pf_4_4, gf_4_5, pf_4_5, gf_4_6, gf_4_7, pf_4_7, gf_4_8, pf_4_8, gf_4_9, pf_4_9, gf_3_0, gf_3_1, pf_3_1, gf_6_0, gf_6_1, gf_6_2, gf_6_3, gf_6_4, gf_6_5, gf_6_6, gf_6_7, gf_6_8, gf_6_9, gf_6_10, gf_6_11, pf_6_11, gf_6_12, pf_6_12, gf_6_13, gf_6_14, pf_6_14, gf_6_15, pf_6_15, gf_6_16, pf_6_16, gf_6_17, pf_6_17, gf_6_18, pf_6_18, gf_6_19, pf_6_19, gf_6_20, pf_6_20, gf_6_21, pf_6_21, gf_6_22, pf_6_22, gf_6_23, gf_6_24, gf_6_25, gf_6_26, pf_6_26, gf_6_27, gf_6_28, pf_6_28, gf_0_0, pf_0_0, gf_0_1, pf_0_1, gf_0_2, pf_0_2, gf_0_3, pf_0_3, gf_0_4, pf_0_4, gf_2_0, pf_2_0, gf_2_1, pf_2_1, gf_2_2, pf_2_2, gf_2_3, pf_2_3, gf_2_4, pf_2_4, gf_2_5, pf_2_5, gf_2_6, pf_2_6, gf_2_7, pf_2_7, gf_2_8, pf_2_8, gf_2_9, pf_2_9, gf_2_10, pf_2_10, gf_2_11, pf_2_11, gf_2_12, gf_2_13, gf_1_0, pf_1_0, gf_1_1, pf_1_1, gf_1_2, pf_1_2, gf_1_3, pf_1_3, gf_1_4, pf_1_4, gf_1_5, pf_1_5, gf_1_6, pf_1_6, gf_1_7, pf_1_7, gf_1_8, pf_1_8, gf_1_9, pf_1_9, gf_1_10, pf_1_10, gf_1_11, gf_1_12, gf_1_13, al_sl, as_sl, al_ct, as_ct, al_hr, as_hr, al_tx, as_tx, al_rb, as_rb, al_sv, as_sv, al_out, as_out, al_od, al_ha, al_pa, al_ps, al_sn, al_ai, as_ai, al_az, as_az, al_aj, as_aj, ln_hr, kv_rs, kv_tr, kv_rp, kv_md, kv_lk, kv_hh, kv_pg, h10]
  | succ j ih =>
    intro i l4 h hl4
    have hi : i < 12 := by omega
    have hin : i < n := by omega
    have hl := oN_le (i := i) (n := n) (by omega) (by omega)
    have hf : ¬ n ≤ i := by omega
    have p2 := x6n (sx := sx) (s0 := s0) (m := m) hL hin (w := 2) (by decide)
    have p6 := x6n (sx := sx) (s0 := s0) (m := m) hL hin (w := 6) (by decide)
    have p9 := x6n (sx := sx) (s0 := s0) (m := m) hL hin (w := 9) (by decide)
    rw [show pgF S i 2 = pkF S i 2 from rfl] at p2
    rw [show pgF S i 6 = pkF S i 6 from rfl] at p6
    rw [show pgF S i 9 = pkF S i 9 from rfl] at p9
    have c0 := x8n (sx := sx) (s0 := s0) (m := m) hL hin (v := 0) (by decide)
    have c1 := x8n (sx := sx) (s0 := s0) (m := m) hL hin (v := 1) (by decide)
    have c2 := x8n (sx := sx) (s0 := s0) (m := m) hL hin (v := 2) (by decide)
    have c3 := x8n (sx := sx) (s0 := s0) (m := m) hL hin (v := 3) (by decide)
    have c4 := x8n (sx := sx) (s0 := s0) (m := m) hL hin (v := 4) (by decide)
    have c5 := x8n (sx := sx) (s0 := s0) (m := m) hL hin (v := 5) (by decide)
    have c6 := x8n (sx := sx) (s0 := s0) (m := m) hL hin (v := 6) (by decide)
    have c7 := x8n (sx := sx) (s0 := s0) (m := m) hL hin (v := 7) (by decide)
    rw [show Int32.ofNat 0 = 0 from rfl] at c0
    rw [show Int32.ofNat 1 = 1 from rfl] at c1
    rw [show Int32.ofNat 2 = 2 from rfl] at c2
    rw [show Int32.ofNat 3 = 3 from rfl] at c3
    rw [show Int32.ofNat 4 = 4 from rfl] at c4
    rw [show Int32.ofNat 5 = 5 from rfl] at c5
    rw [show Int32.ofNat 6 = 6 from rfl] at c6
    rw [show Int32.ofNat 7 = 7 from rfl] at c7
    have ih2 := ih (i + 1) (some (.int 8)) (by omega) (Or.inr ⟨_, rfl⟩)
    rw [inc_ofNat, show ckC (pkF S) (ckK S) (i + 1) s = ckJ (ckK S i) 8 (31 * (31 * (31 * ckC (pkF S) (ckK S) i s + (pkF S i 2).toInt64) + (pkF S i 6).toInt64) + (pkF S i 9).toInt64) from rfl] at ih2
    simp only [ckJ] at ih2
    unfold ckK at ih2 ⊢
    generalize ckC (pkF S) (fun i w => S.2.1 (19, 1, i) w) n s = W at *
    generalize ckC (pkF S) (fun i w => S.2.1 (19, 1, i) w) i s = V at *
    generalize pkF S i 2 = f2 at *
    generalize pkF S i 6 = f6 at *
    generalize pkF S i 9 = f9 at *
    rw [e_40_108]
    rcases hl4 with hl4 | ⟨v, hl4⟩ <;> subst hl4 <;> simp [e_40_109, e_40_110, e_40_113, e_40_116, e_40_119, e_40_122, e_40_123, e_40_124, e_40_125, e_40_126, e_40_127, e_40_130, e_40_131, e_40_132, e_40_133, e_40_136, e_40_137, e_40_138, e_40_139, e_40_140, e_40_142, e_40_145, e_40_146, e_40_147, e_40_148, e_40_151, e_40_152, e_40_153, e_40_154, e_40_155, e_40_157, e_40_160, e_40_161, e_40_162, e_40_163, e_40_164, e_40_166, e_40_168, e_40_170, e_40_173, e_40_176, e_40_177, e_40_178, e_40_179, e_40_180, e_40_182, e_40_185, e_40_186, e_40_187, e_40_190, e_40_193, e_40_196, e_40_199, e_40_200, xentry, xent, Value.category, kB1_some, kB1_ite, kB_some, kB_ite, kB3_some, kX_some, kX_ite, kC_ite, kR_ret, kR_thr, kR_ite, kR0_ret, kR0_ite, kW_some, xretv, xst1, xst2, xcl, xsum, upI_1, upI_2, upJ_1, upJ_2, upJ_3, rwI_1, rwI_2, rwJ_1, rwJ_2, rwJ_3, upD_1, upD_2, upI_upI, upJ_upJ, x_mmin, x_mmax, x_objInit, List.length_cons, xmL, k1_iconst, k1_bipush, k1_sipush, k1_lconst, k1_dconst0, k1_dconst1, k1_fconst0, k1_fconst1, k1_iload, k1_lload, k1_aload, k1_dload, k1_fload, k1_istore, k1_lstore, k1_astore, k1_dstore, k1_fstore, k1_iinc, k1_iadd, k1_isub, k1_imul, k1_iand, k1_ixor, k1_ishr, k1_ladd, k1_lsub, k1_lmul, k1_land, k1_lor, k1_lcmp, k1_lshl, k1_lshr, k1_idiv, k1_irem, k1_ldiv, k1_lrem, k1_fdiv, k1_ddiv, k1_f2d, k1_i2l, k1_l2i, k1_i2b, k1_l2d, k1_l2f, k1_dcmpl, k1_dcmpg, k1_fcmpl, k1_fcmpg, k1_dup, k1_pop, k1_dup2, k1_goto, k1_ifeq, k1_ifne, k1_iflt, k1_ifge, k1_ifgt, k1_ifle, k1_icmpeq, k1_icmpne, k1_icmplt, k1_icmpge, k1_icmpgt, k1_icmple, k3_constI, k3_constJ, k3_constD, gf_5_0, gf_5_1, gf_5_2, gf_5_3, gf_5_4, gf_5_5, pf_5_5, gf_5_6, pf_5_6, gf_5_7, gf_5_8, gf_4_0, gf_4_1, pf_4_1, gf_4_2, pf_4_2, gf_4_3, pf_4_3, gf_4_4, pf_4_4, gf_4_5, pf_4_5, gf_4_6, gf_4_7, pf_4_7, gf_4_8, pf_4_8, gf_4_9, pf_4_9, gf_3_0, gf_3_1, pf_3_1, gf_6_0, gf_6_1, gf_6_2, gf_6_3, gf_6_4, gf_6_5, gf_6_6, gf_6_7, gf_6_8, gf_6_9, gf_6_10, gf_6_11, pf_6_11, gf_6_12, pf_6_12, gf_6_13, gf_6_14, pf_6_14, gf_6_15, pf_6_15, gf_6_16, pf_6_16, gf_6_17, pf_6_17, gf_6_18, pf_6_18, gf_6_19, pf_6_19, gf_6_20, pf_6_20, gf_6_21, pf_6_21, gf_6_22, pf_6_22, gf_6_23, gf_6_24, gf_6_25, gf_6_26, pf_6_26, gf_6_27, gf_6_28, pf_6_28, gf_0_0, pf_0_0, gf_0_1, pf_0_1, gf_0_2, pf_0_2, gf_0_3, pf_0_3, gf_0_4, pf_0_4, gf_2_0, pf_2_0, gf_2_1, pf_2_1, gf_2_2, pf_2_2, gf_2_3, pf_2_3, gf_2_4, pf_2_4, gf_2_5, pf_2_5, gf_2_6, pf_2_6, gf_2_7, pf_2_7, gf_2_8, pf_2_8, gf_2_9, pf_2_9, gf_2_10, pf_2_10, gf_2_11, pf_2_11, gf_2_12, gf_2_13, gf_1_0, pf_1_0, gf_1_1, pf_1_1, gf_1_2, pf_1_2, gf_1_3, pf_1_3, gf_1_4, pf_1_4, gf_1_5, pf_1_5, gf_1_6, pf_1_6, gf_1_7, pf_1_7, gf_1_8, pf_1_8, gf_1_9, pf_1_9, gf_1_10, pf_1_10, gf_1_11, gf_1_12, gf_1_13, al_sl, as_sl, al_ct, as_ct, al_hr, as_hr, al_tx, as_tx, al_rb, as_rb, al_sv, as_sv, al_out, as_out, al_od, al_ha, al_pa, al_ps, al_sn, al_ai, as_ai, al_az, as_az, al_aj, as_aj, ln_hr, kv_rs, kv_tr, kv_rp, kv_md, kv_lk, kv_hh, kv_pg, h10, hl, hf, hi, p2, p6, p9, c0, c1, c2, c3, c4, c5, c6, c7] <;> exact ih2
theorem x40_h (hL : Lok S 1 n nh t) {s : Int64} : ∀ (j i : Nat) (l4 : Option Value), i + j = nh → (l4 = none ∨ ∃ v, l4 = some (.int v)) → X xtab sx 40 59 [some (.ref (adr s0 (0, 0, 0))), some (.long (ckB (hkC S) i s)), none, some (.int (Int32.ofNat i)), l4] [] (hp s0 S, m) = some (.inl (some (.long (ckC (pkF S) (ckK S) n (ckB (hkC S) nh s)))), (hp s0 S, m)) := by
  have hnh := hL.2.1
  have h9 := hL.2.2.2.2.1
  intro j
  induction j with
  | zero =>
    intro i l4 h hl4
    have hi : i = nh := by omega
    subst hi
    have hp := x40_p (sx := sx) (s0 := s0) (m := m) hL (s := ckB (hkC S) i s) n 0 l4 (by omega) hl4
    rw [show ckC (pkF S) (ckK S) 0 (ckB (hkC S) i s) = ckB (hkC S) i s from rfl, show Int32.ofNat 0 = 0 from rfl] at hp
    rw [e_40_59]
    simp [e_40_60, e_40_61, e_40_64, e_40_67, e_40_70, e_40_71, e_40_73, e_40_75, e_40_76, e_40_79, e_40_82, e_40_83, e_40_84, e_40_85, e_40_86, e_40_88, e_40_91, e_40_92, e_40_93, e_40_94, e_40_97, e_40_100, e_40_103, e_40_106, e_40_107, xentry, xent, Value.category, kB1_some, kB1_ite, kB_some, kB_ite, kB3_some, kX_some, kX_ite, kC_ite, kR_ret, kR_thr, kR_ite, kR0_ret, kR0_ite, kW_some, xretv, xst1, xst2, xcl, xsum, upI_1, upI_2, upJ_1, upJ_2, upJ_3, rwI_1, rwI_2, rwJ_1, rwJ_2, rwJ_3, upD_1, upD_2, upI_upI, upJ_upJ, x_mmin, x_mmax, x_objInit, List.length_cons, xmL, k1_iconst, k1_bipush, k1_sipush, k1_lconst, k1_dconst0, k1_dconst1, k1_fconst0, k1_fconst1, k1_iload, k1_lload, k1_aload, k1_dload, k1_fload, k1_istore, k1_lstore, k1_astore, k1_dstore, k1_fstore, k1_iinc, k1_iadd, k1_isub, k1_imul, k1_iand, k1_ixor, k1_ishr, k1_ladd, k1_lsub, k1_lmul, k1_land, k1_lor, k1_lcmp, k1_lshl, k1_lshr, k1_idiv, k1_irem, k1_ldiv, k1_lrem, k1_fdiv, k1_ddiv, k1_f2d, k1_i2l, k1_l2i, k1_i2b, k1_l2d, k1_l2f, k1_dcmpl, k1_dcmpg, k1_fcmpl, k1_fcmpg, k1_dup, k1_pop, k1_dup2, k1_goto, k1_ifeq, k1_ifne, k1_iflt, k1_ifge, k1_ifgt, k1_ifle, k1_icmpeq, k1_icmpne, k1_icmplt, k1_icmpge, k1_icmpgt, k1_icmple, k3_constI, k3_constJ, k3_constD, gf_5_0, gf_5_1, gf_5_2, gf_5_3, gf_5_4, gf_5_5, pf_5_5, gf_5_6, pf_5_6, gf_5_7, gf_5_8, gf_4_0, gf_4_1, pf_4_1, gf_4_2, pf_4_2, gf_4_3, pf_4_3, gf_4_4, pf_4_4, gf_4_5, pf_4_5, gf_4_6, gf_4_7, pf_4_7, gf_4_8, pf_4_8, gf_4_9, pf_4_9, gf_3_0, gf_3_1, pf_3_1, gf_6_0, gf_6_1, gf_6_2, gf_6_3, gf_6_4, gf_6_5, gf_6_6, gf_6_7, gf_6_8, gf_6_9, gf_6_10, gf_6_11, pf_6_11, gf_6_12, pf_6_12, gf_6_13, gf_6_14, pf_6_14, gf_6_15, pf_6_15, gf_6_16, pf_6_16, gf_6_17, pf_6_17, gf_6_18, pf_6_18, gf_6_19, pf_6_19, gf_6_20, pf_6_20, gf_6_21, pf_6_21, gf_6_22, pf_6_22, gf_6_23, gf_6_24, gf_6_25, gf_6_26, pf_6_26, gf_6_27, gf_6_28, pf_6_28, gf_0_0, pf_0_0, gf_0_1, pf_0_1, gf_0_2, pf_0_2, gf_0_3, pf_0_3, gf_0_4, pf_0_4, gf_2_0, pf_2_0, gf_2_1, pf_2_1, gf_2_2, pf_2_2, gf_2_3, pf_2_3, gf_2_4, pf_2_4, gf_2_5, pf_2_5, gf_2_6, pf_2_6, gf_2_7, pf_2_7, gf_2_8, pf_2_8, gf_2_9, pf_2_9, gf_2_10, pf_2_10, gf_2_11, pf_2_11, gf_2_12, gf_2_13, gf_1_0, pf_1_0, gf_1_1, pf_1_1, gf_1_2, pf_1_2, gf_1_3, pf_1_3, gf_1_4, pf_1_4, gf_1_5, pf_1_5, gf_1_6, pf_1_6, gf_1_7, pf_1_7, gf_1_8, pf_1_8, gf_1_9, pf_1_9, gf_1_10, pf_1_10, gf_1_11, gf_1_12, gf_1_13, al_sl, as_sl, al_ct, as_ct, al_hr, as_hr, al_tx, as_tx, al_rb, as_rb, al_sv, as_sv, al_out, as_out, al_od, al_ha, al_pa, al_ps, al_sn, al_ai, as_ai, al_az, as_az, al_aj, as_aj, ln_hr, kv_rs, kv_tr, kv_rp, kv_md, kv_lk, kv_hh, kv_pg, h9]
    exact hp
  | succ j ih =>
    intro i l4 h hl4
    have hi : i < 6 := by omega
    have hin : i < nh := by omega
    have hl := oN_le (i := i) (n := nh) (by omega) (by omega)
    have hf : ¬ nh ≤ i := by omega
    have p0 := x5n (sx := sx) (s0 := s0) (m := m) hL hin (w := 0) (by decide)
    have p1 := x5n (sx := sx) (s0 := s0) (m := m) hL hin (w := 1) (by decide)
    have p2 := x5n (sx := sx) (s0 := s0) (m := m) hL hin (w := 2) (by decide)
    have p3 := x5n (sx := sx) (s0 := s0) (m := m) hL hin (w := 3) (by decide)
    rw [show hhF S n i 0 = hkC S i 0 from rfl] at p0
    rw [show hhF S n i 1 = hkC S i 1 from rfl] at p1
    rw [show hhF S n i 2 = hkC S i 2 from rfl] at p2
    rw [show hhF S n i 3 = hkC S i 3 from rfl] at p3
    have ih2 := ih (i + 1) (some (.int 4)) (by omega) (Or.inr ⟨_, rfl⟩)
    rw [inc_ofNat, show ckB (hkC S) (i + 1) s = ckA (hkC S i) 4 (ckB (hkC S) i s) from rfl] at ih2
    simp only [ckA] at ih2
    generalize ckC (pkF S) (ckK S) n (ckB (hkC S) nh s) = W at *
    generalize ckB (hkC S) i s = V at *
    generalize hkC S i 0 = f0 at *
    generalize hkC S i 1 = f1 at *
    generalize hkC S i 2 = f2 at *
    generalize hkC S i 3 = f3 at *
    rw [e_40_59]
    rcases hl4 with hl4 | ⟨v, hl4⟩ <;> subst hl4 <;> simp [e_40_60, e_40_61, e_40_64, e_40_67, e_40_70, e_40_71, e_40_73, e_40_75, e_40_76, e_40_79, e_40_82, e_40_83, e_40_84, e_40_85, e_40_86, e_40_88, e_40_91, e_40_92, e_40_93, e_40_94, e_40_97, e_40_100, e_40_103, xentry, xent, Value.category, kB1_some, kB1_ite, kB_some, kB_ite, kB3_some, kX_some, kX_ite, kC_ite, kR_ret, kR_thr, kR_ite, kR0_ret, kR0_ite, kW_some, xretv, xst1, xst2, xcl, xsum, upI_1, upI_2, upJ_1, upJ_2, upJ_3, rwI_1, rwI_2, rwJ_1, rwJ_2, rwJ_3, upD_1, upD_2, upI_upI, upJ_upJ, x_mmin, x_mmax, x_objInit, List.length_cons, xmL, k1_iconst, k1_bipush, k1_sipush, k1_lconst, k1_dconst0, k1_dconst1, k1_fconst0, k1_fconst1, k1_iload, k1_lload, k1_aload, k1_dload, k1_fload, k1_istore, k1_lstore, k1_astore, k1_dstore, k1_fstore, k1_iinc, k1_iadd, k1_isub, k1_imul, k1_iand, k1_ixor, k1_ishr, k1_ladd, k1_lsub, k1_lmul, k1_land, k1_lor, k1_lcmp, k1_lshl, k1_lshr, k1_idiv, k1_irem, k1_ldiv, k1_lrem, k1_fdiv, k1_ddiv, k1_f2d, k1_i2l, k1_l2i, k1_i2b, k1_l2d, k1_l2f, k1_dcmpl, k1_dcmpg, k1_fcmpl, k1_fcmpg, k1_dup, k1_pop, k1_dup2, k1_goto, k1_ifeq, k1_ifne, k1_iflt, k1_ifge, k1_ifgt, k1_ifle, k1_icmpeq, k1_icmpne, k1_icmplt, k1_icmpge, k1_icmpgt, k1_icmple, k3_constI, k3_constJ, k3_constD, gf_5_0, gf_5_1, gf_5_2, gf_5_3, gf_5_4, gf_5_5, pf_5_5, gf_5_6, pf_5_6, gf_5_7, gf_5_8, gf_4_0, gf_4_1, pf_4_1, gf_4_2, pf_4_2, gf_4_3, pf_4_3, gf_4_4, pf_4_4, gf_4_5, pf_4_5, gf_4_6, gf_4_7, pf_4_7, gf_4_8, pf_4_8, gf_4_9, pf_4_9, gf_3_0, gf_3_1, pf_3_1, gf_6_0, gf_6_1, gf_6_2, gf_6_3, gf_6_4, gf_6_5, gf_6_6, gf_6_7, gf_6_8, gf_6_9, gf_6_10, gf_6_11, pf_6_11, gf_6_12, pf_6_12, gf_6_13, gf_6_14, pf_6_14, gf_6_15, pf_6_15, gf_6_16, pf_6_16, gf_6_17, pf_6_17, gf_6_18, pf_6_18, gf_6_19, pf_6_19, gf_6_20, pf_6_20, gf_6_21, pf_6_21, gf_6_22, pf_6_22, gf_6_23, gf_6_24, gf_6_25, gf_6_26, pf_6_26, gf_6_27, gf_6_28, pf_6_28, gf_0_0, pf_0_0, gf_0_1, pf_0_1, gf_0_2, pf_0_2, gf_0_3, pf_0_3, gf_0_4, pf_0_4, gf_2_0, pf_2_0, gf_2_1, pf_2_1, gf_2_2, pf_2_2, gf_2_3, pf_2_3, gf_2_4, pf_2_4, gf_2_5, pf_2_5, gf_2_6, pf_2_6, gf_2_7, pf_2_7, gf_2_8, pf_2_8, gf_2_9, pf_2_9, gf_2_10, pf_2_10, gf_2_11, pf_2_11, gf_2_12, gf_2_13, gf_1_0, pf_1_0, gf_1_1, pf_1_1, gf_1_2, pf_1_2, gf_1_3, pf_1_3, gf_1_4, pf_1_4, gf_1_5, pf_1_5, gf_1_6, pf_1_6, gf_1_7, pf_1_7, gf_1_8, pf_1_8, gf_1_9, pf_1_9, gf_1_10, pf_1_10, gf_1_11, gf_1_12, gf_1_13, al_sl, as_sl, al_ct, as_ct, al_hr, as_hr, al_tx, as_tx, al_rb, as_rb, al_sv, as_sv, al_out, as_out, al_od, al_ha, al_pa, al_ps, al_sn, al_ai, as_ai, al_az, as_az, al_aj, as_aj, ln_hr, kv_rs, kv_tr, kv_rp, kv_md, kv_lk, kv_hh, kv_pg, h9, hl, hf, hi, p0, p1, p2, p3] <;> exact ih2
theorem x40 (hL : Lok S 1 n nh t) : X xtab sx 40 0 [some (.ref (adr s0 (0, 0, 0))), none, none, none, none] [] (hp s0 S, m) = some (.inl (some (.long (ckC (pkF S) (ckK S) n (ckB (hkC S) nh (ckF (fun w => szF S (Int32.ofNat w))))))), (hp s0 S, m)) := by
  have hh := x40_h (sx := sx) (s0 := s0) (m := m) hL (s := ckF (fun w => szF S (Int32.ofNat w))) nh 0 none (by omega) (Or.inl rfl)
  rw [show ckB (hkC S) 0 (ckF (fun w => szF S (Int32.ofNat w))) = ckF (fun w => szF S (Int32.ofNat w)) from rfl, show Int32.ofNat 0 = 0 from rfl] at hh
  have g2 := x4n (sx := sx) (s0 := s0) (S := S) (m := m) (w := 2) (by decide)
  have g3 := x4n (sx := sx) (s0 := s0) (S := S) (m := m) (w := 3) (by decide)
  have g4 := x4n (sx := sx) (s0 := s0) (S := S) (m := m) (w := 4) (by decide)
  have g5 := x4n (sx := sx) (s0 := s0) (S := S) (m := m) (w := 5) (by decide)
  have g6 := x4n (sx := sx) (s0 := s0) (S := S) (m := m) (w := 6) (by decide)
  have g7 := x4n (sx := sx) (s0 := s0) (S := S) (m := m) (w := 7) (by decide)
  have g8 := x4n (sx := sx) (s0 := s0) (S := S) (m := m) (w := 8) (by decide)
  have g11 := x4n (sx := sx) (s0 := s0) (S := S) (m := m) (w := 11) (by decide)
  have g12 := x4n (sx := sx) (s0 := s0) (S := S) (m := m) (w := 12) (by decide)
  generalize ckC (pkF S) (ckK S) n (ckB (hkC S) nh (ckF (fun w => szF S (Int32.ofNat w)))) = W at *
  rw [← hh]
  unfold ckF
  simp only [ckA]
  rw [show Int32.ofNat 11 = 11 from rfl, show Int32.ofNat 12 = 12 from rfl, show Int32.ofNat (0 + 2) = 2 from rfl, show Int32.ofNat (0 + 1 + 2) = 3 from rfl, show Int32.ofNat (0 + 1 + 1 + 2) = 4 from rfl, show Int32.ofNat (0 + 1 + 1 + 1 + 2) = 5 from rfl, show Int32.ofNat (0 + 1 + 1 + 1 + 1 + 2) = 6 from rfl, show Int32.ofNat (0 + 1 + 1 + 1 + 1 + 1 + 2) = 7 from rfl, show Int32.ofNat (0 + 1 + 1 + 1 + 1 + 1 + 1 + 2) = 8 from rfl]
  generalize szF S 2 = a2 at *
  generalize szF S 3 = a3 at *
  generalize szF S 4 = a4 at *
  generalize szF S 5 = a5 at *
  generalize szF S 6 = a6 at *
  generalize szF S 7 = a7 at *
  generalize szF S 8 = a8 at *
  generalize szF S 11 = a11 at *
  generalize szF S 12 = a12 at *
  simp [e_40_0, e_40_1, e_40_2, e_40_3, e_40_4, e_40_5, e_40_7, e_40_10, e_40_13, e_40_14, e_40_15, e_40_16, e_40_17, e_40_20, e_40_21, e_40_22, e_40_23, e_40_26, e_40_29, e_40_32, e_40_33, e_40_34, e_40_35, e_40_37, e_40_40, e_40_41, e_40_42, e_40_43, e_40_46, e_40_47, e_40_48, e_40_49, e_40_51, e_40_54, e_40_55, e_40_56, e_40_57, e_40_58, xentry, xent, Value.category, kB1_some, kB1_ite, kB_some, kB_ite, kB3_some, kX_some, kX_ite, kC_ite, kR_ret, kR_thr, kR_ite, kR0_ret, kR0_ite, kW_some, xretv, xst1, xst2, xcl, xsum, upI_1, upI_2, upJ_1, upJ_2, upJ_3, rwI_1, rwI_2, rwJ_1, rwJ_2, rwJ_3, upD_1, upD_2, upI_upI, upJ_upJ, x_mmin, x_mmax, x_objInit, List.length_cons, xmL, k1_iconst, k1_bipush, k1_sipush, k1_lconst, k1_dconst0, k1_dconst1, k1_fconst0, k1_fconst1, k1_iload, k1_lload, k1_aload, k1_dload, k1_fload, k1_istore, k1_lstore, k1_astore, k1_dstore, k1_fstore, k1_iinc, k1_iadd, k1_isub, k1_imul, k1_iand, k1_ixor, k1_ishr, k1_ladd, k1_lsub, k1_lmul, k1_land, k1_lor, k1_lcmp, k1_lshl, k1_lshr, k1_idiv, k1_irem, k1_ldiv, k1_lrem, k1_fdiv, k1_ddiv, k1_f2d, k1_i2l, k1_l2i, k1_i2b, k1_l2d, k1_l2f, k1_dcmpl, k1_dcmpg, k1_fcmpl, k1_fcmpg, k1_dup, k1_pop, k1_dup2, k1_goto, k1_ifeq, k1_ifne, k1_iflt, k1_ifge, k1_ifgt, k1_ifle, k1_icmpeq, k1_icmpne, k1_icmplt, k1_icmpge, k1_icmpgt, k1_icmple, k3_constI, k3_constJ, k3_constD, gf_5_0, gf_5_1, gf_5_2, gf_5_3, gf_5_4, gf_5_5, pf_5_5, gf_5_6, pf_5_6, gf_5_7, gf_5_8, gf_4_0, gf_4_1, pf_4_1, gf_4_2, pf_4_2, gf_4_3, pf_4_3, gf_4_4, pf_4_4, gf_4_5, pf_4_5, gf_4_6, gf_4_7, pf_4_7, gf_4_8, pf_4_8, gf_4_9, pf_4_9, gf_3_0, gf_3_1, pf_3_1, gf_6_0, gf_6_1, gf_6_2, gf_6_3, gf_6_4, gf_6_5, gf_6_6, gf_6_7, gf_6_8, gf_6_9, gf_6_10, gf_6_11, pf_6_11, gf_6_12, pf_6_12, gf_6_13, gf_6_14, pf_6_14, gf_6_15, pf_6_15, gf_6_16, pf_6_16, gf_6_17, pf_6_17, gf_6_18, pf_6_18, gf_6_19, pf_6_19, gf_6_20, pf_6_20, gf_6_21, pf_6_21, gf_6_22, pf_6_22, gf_6_23, gf_6_24, gf_6_25, gf_6_26, pf_6_26, gf_6_27, gf_6_28, pf_6_28, gf_0_0, pf_0_0, gf_0_1, pf_0_1, gf_0_2, pf_0_2, gf_0_3, pf_0_3, gf_0_4, pf_0_4, gf_2_0, pf_2_0, gf_2_1, pf_2_1, gf_2_2, pf_2_2, gf_2_3, pf_2_3, gf_2_4, pf_2_4, gf_2_5, pf_2_5, gf_2_6, pf_2_6, gf_2_7, pf_2_7, gf_2_8, pf_2_8, gf_2_9, pf_2_9, gf_2_10, pf_2_10, gf_2_11, pf_2_11, gf_2_12, gf_2_13, gf_1_0, pf_1_0, gf_1_1, pf_1_1, gf_1_2, pf_1_2, gf_1_3, pf_1_3, gf_1_4, pf_1_4, gf_1_5, pf_1_5, gf_1_6, pf_1_6, gf_1_7, pf_1_7, gf_1_8, pf_1_8, gf_1_9, pf_1_9, gf_1_10, pf_1_10, gf_1_11, gf_1_12, gf_1_13, al_sl, as_sl, al_ct, as_ct, al_hr, as_hr, al_tx, as_tx, al_rb, as_rb, al_sv, as_sv, al_out, as_out, al_od, al_ha, al_pa, al_ps, al_sn, al_ai, as_ai, al_az, as_az, al_aj, as_aj, ln_hr, kv_rs, kv_tr, kv_rp, kv_md, kv_lk, kv_hh, kv_pg, g2, g3, g4, g5, g6, g7, g8, g11, g12]
end C7
