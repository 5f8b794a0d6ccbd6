section P20
variable {sx : xSx} {s0 k p g : Nat} {S S' : St} {m : Nat × Nat × Nat}
theorem ptL_pg {k' p' : Nat} : ∀ j, (ptL S k j).1 (17, k', p') g = S.1 (17, k', p') g := by
  intro j
  induction j with
  | zero => rfl
  | succ j ih =>
    unfold ptL phR
    simp [upI_1, ih]
theorem ptT_lk (h : g ≠ 5) : (ptT S k).1 (12, k, 0) g = S.1 (12, k, 0) g := by simp [ptT, upI_1, h]
theorem ptF_ok {n nh t n' : Nat} (h : Lok S k n nh t) (ht : t + 1 < 2 ^ 20) : Lok (ptF S k n') k n nh (t + 1) := by
  obtain ⟨a, b, c, d, e, f, i, j⟩ := h
  have hT : Lok (ptT S k) k n nh (t + 1) := by
    refine ⟨a, b, ht, (ptT_lk (by decide)).trans d, (ptT_lk (by decide)).trans e, ?_, ?_, ?_⟩
    · simp [ptT, upI_1, f, inc_ofNat]
    · intro p hp; simpa [ptT, upI_1, hisF] using i p hp
    · intro p hp; simpa [ptT, upI_1] using j p hp
  unfold ptF
  split
  · exact Lok_fr hT (ptL_lk n') (ptL_lk n') (ptL_lk n') (fun p => ptL_pg n') (fun p => ptL_pg n')
  · exact hT
theorem ps4_ok {n nh t n' h' : Nat} (h : Lok S k n nh t) (ht : t + 1 < 2 ^ 20) : Lok (ps4 S k n' h') k n nh (t + 1) := ptF_ok (laF_ok (dvL_ok h)) ht
theorem psF_ok {n nh t n' h' : Nat} (h : Lok S k n nh t) (ht : t + 1 < 2 ^ 20) : Lok (psF S k n' h') k n nh (t + 1) := ps4_ok (ps3_ok (ps2_ok (ofL_ok h))) ht
/-- Link.passSlots -/
def slF (S : St) (k n nh : Nat) (e : Int32) : Nat → St × Int32
  | 0 => (S, 0)
  | j + 1 => if (slF S k n nh e j).2 < e then (psF (slF S k n nh e j).1 k n nh, (slF S k n nh e j).2 + psV (slF S k n nh e j).1 k n) else slF S k n nh e j
theorem slF_ok {n nh t : Nat} {e : Int32} (h : Lok S k n nh t) : ∀ j, t + j < 2 ^ 20 → ∃ t', t' ≤ t + j ∧ Lok (slF S k n nh e j).1 k n nh t' := by
  intro j
  induction j with
  | zero => intro _; exact ⟨t, Nat.le_refl _, h⟩
  | succ j ih =>
    intro hj
    obtain ⟨t', h1, h2⟩ := ih (by omega)
    unfold slF
    split
    · exact ⟨t' + 1, by omega, psF_ok h2 (by omega)⟩
    · exact ⟨t', by omega, h2⟩
theorem slF_done {n nh i : Nat} {e : Int32} (h : ¬ (slF S k n nh e i).2 < e) : ∀ j, slF S k n nh e (i + j) = slF S k n nh e i := by
  intro j
  induction j with
  | zero => rfl
  | succ j ih =>
    rw [← Nat.add_assoc, slF, ih, if_neg h]
theorem x169_l {n : Nat} (hn : n ≤ 1000) (hk : k < 13) {np nh t : Nat} {e : Int32} (hL : Lok S k np nh t) (ht : t + n < 2 ^ 20) : ∀ (j i : Nat), i + j = n → X xtab sx 169 5 [some (.ref (adr s0 (12, k, 0))), some (.int (Int32.ofNat n)), some (.int e), some (.int (slF S k np nh e i).2), some (.int (Int32.ofNat i))] [] (hp s0 ((slF S k np nh e i).1), m) = some (.inl (some (.int (slF S k np nh e n).2)), (hp s0 (slF S k np nh e n).1, m)) := by
  intro j
  induction j with
  | zero =>
    intro i h
    have hi : i = n := by omega
    subst hi
    simp [e_169_0, e_169_1, e_169_2, e_169_3, e_169_5, e_169_7, e_169_8, e_169_11, e_169_12, e_169_13, e_169_16, e_169_17, e_169_18, e_169_21, e_169_22, e_169_23, e_169_26, e_169_29, e_169_30, xentry, xent, Value.category, kB1_some, kB1_ite, kB_some, kB_ite, kB3_some, kX_some, kX_ite, kC_ite, kR_ret, kR_thr, kR_ite, kR0_ret, kR0_ite, kW_some, xretv, xst1, xst2, xcl, xsum, upI_1, upI_2, upJ_1, upJ_2, upJ_3, rwI_1, rwI_2, rwJ_1, rwJ_2, rwJ_3, upD_1, upD_2, upI_upI, upJ_upJ, x_mmin, x_mmax, x_objInit, List.length_cons, xmL, k1_iconst, k1_bipush, k1_sipush, k1_lconst, k1_dconst0, k1_dconst1, k1_fconst0, k1_fconst1, k1_iload, k1_lload, k1_aload, k1_dload, k1_fload, k1_istore, k1_lstore, k1_astore, k1_dstore, k1_fstore, k1_iinc, k1_iadd, k1_isub, k1_imul, k1_iand, k1_ixor, k1_ishr, k1_ladd, k1_lsub, k1_lmul, k1_land, k1_lor, k1_lcmp, k1_lshl, k1_lshr, k1_idiv, k1_irem, k1_ldiv, k1_lrem, k1_fdiv, k1_ddiv, k1_f2d, k1_i2l, k1_l2i, k1_i2b, k1_l2d, k1_l2f, k1_dcmpl, k1_dcmpg, k1_fcmpl, k1_fcmpg, k1_dup, k1_pop, k1_dup2, k1_goto, k1_ifeq, k1_ifne, k1_iflt, k1_ifge, k1_ifgt, k1_ifle, k1_icmpeq, k1_icmpne, k1_icmplt, k1_icmpge, k1_icmpgt, k1_icmple, k3_constI, k3_constJ, k3_constD, gf_5_0, gf_5_1, gf_5_2, gf_5_3, gf_5_4, gf_5_5, pf_5_5, gf_5_6, pf_5_6, gf_5_7, gf_5_8, gf_4_0, gf_4_1, pf_4_1, gf_4_2, pf_4_2, gf_4_3, pf_4_3, gf_4_4, pf_4_4, gf_4_5, pf_4_5, gf_4_6, gf_4_7, pf_4_7, gf_4_8, pf_4_8, gf_4_9, pf_4_9, gf_3_0, gf_3_1, pf_3_1, gf_6_0, gf_6_1, gf_6_2, gf_6_3, gf_6_4, gf_6_5, gf_6_6, gf_6_7, gf_6_8, gf_6_9, gf_6_10, gf_6_11, pf_6_11, gf_6_12, pf_6_12, gf_6_13, gf_6_14, pf_6_14, gf_6_15, pf_6_15, gf_6_16, pf_6_16, gf_6_17, pf_6_17, gf_6_18, pf_6_18, gf_6_19, pf_6_19, gf_6_20, pf_6_20, gf_6_21, pf_6_21, gf_6_22, pf_6_22, gf_6_23, gf_6_24, gf_6_25, gf_6_26, pf_6_26, gf_6_27, gf_6_28, pf_6_28, gf_0_0, pf_0_0, gf_0_1, pf_0_1, gf_0_2, pf_0_2, gf_0_3, pf_0_3, gf_0_4, pf_0_4, gf_2_0, pf_2_0, gf_2_1, pf_2_1, gf_2_2, pf_2_2, gf_2_3, pf_2_3, gf_2_4, pf_2_4, gf_2_5, pf_2_5, gf_2_6, pf_2_6, gf_2_7, pf_2_7, gf_2_8, pf_2_8, gf_2_9, pf_2_9, gf_2_10, pf_2_10, gf_2_11, pf_2_11, gf_2_12, gf_2_13, gf_1_0, pf_1_0, gf_1_1, pf_1_1, gf_1_2, pf_1_2, gf_1_3, pf_1_3, gf_1_4, pf_1_4, gf_1_5, pf_1_5, gf_1_6, pf_1_6, gf_1_7, pf_1_7, gf_1_8, pf_1_8, gf_1_9, pf_1_9, gf_1_10, pf_1_10, gf_1_11, gf_1_12, gf_1_13, al_sl, as_sl, al_ct, as_ct, al_hr, as_hr, al_tx, as_tx, al_rb, as_rb, al_sv, as_sv, al_out, as_out, al_od, al_ha, al_pa, al_ps, al_sn, al_ai, as_ai, al_az, as_az, al_aj, as_aj, ln_hr, kv_rs, kv_tr, kv_rp, kv_md, kv_lk, kv_hh, kv_pg, lg_cmp_ge, lg_cmp_le, lg_cmp_gt, lg_cmp_lt, lg_cmp_eq, ]
  | succ j ih =>
    intro i h
    have hi : i < 1000 := by omega
    have hc := oN_clamp (i := i) (by omega)
    have hg := oN_neg (i := i) (by omega)
    have hl := oN_le (i := i) (n := n) (by omega) (by omega)
    have hf : ¬ n ≤ i := by omega
    have ih2 := ih (i + 1) (by omega)
    rw [inc_ofNat] at ih2
    rw [e_169_5]
    obtain ⟨t', ht', hL'⟩ := slF_ok (e := e) hL i (by omega)
    have hx := x170 (sx := sx) (s0 := s0) (m := m) hk hL'
    by_cases hd : (slF S k np nh e i).2 < e
    · have hd' : ¬ e ≤ (slF S k np nh e i).2 := Int32.not_le.mpr hd
      rw [show slF S k np nh e (i + 1) = (psF (slF S k np nh e i).1 k np nh, (slF S k np nh e i).2 + psV (slF S k np nh e i).1 k np) from if_pos hd] at ih2
      simp [e_169_0, e_169_1, e_169_2, e_169_3, e_169_7, e_169_8, e_169_11, e_169_12, e_169_13, e_169_16, e_169_17, e_169_18, e_169_21, e_169_22, e_169_23, e_169_26, e_169_29, e_169_30, xentry, xent, Value.category, kB1_some, kB1_ite, kB_some, kB_ite, kB3_some, kX_some, kX_ite, kC_ite, kR_ret, kR_thr, kR_ite, kR0_ret, kR0_ite, kW_some, xretv, xst1, xst2, xcl, xsum, upI_1, upI_2, upJ_1, upJ_2, upJ_3, rwI_1, rwI_2, rwJ_1, rwJ_2, rwJ_3, upD_1, upD_2, upI_upI, upJ_upJ, x_mmin, x_mmax, x_objInit, List.length_cons, xmL, k1_iconst, k1_bipush, k1_sipush, k1_lconst, k1_dconst0, k1_dconst1, k1_fconst0, k1_fconst1, k1_iload, k1_lload, k1_aload, k1_dload, k1_fload, k1_istore, k1_lstore, k1_astore, k1_dstore, k1_fstore, k1_iinc, k1_iadd, k1_isub, k1_imul, k1_iand, k1_ixor, k1_ishr, k1_ladd, k1_lsub, k1_lmul, k1_land, k1_lor, k1_lcmp, k1_lshl, k1_lshr, k1_idiv, k1_irem, k1_ldiv, k1_lrem, k1_fdiv, k1_ddiv, k1_f2d, k1_i2l, k1_l2i, k1_i2b, k1_l2d, k1_l2f, k1_dcmpl, k1_dcmpg, k1_fcmpl, k1_fcmpg, k1_dup, k1_pop, k1_dup2, k1_goto, k1_ifeq, k1_ifne, k1_iflt, k1_ifge, k1_ifgt, k1_ifle, k1_icmpeq, k1_icmpne, k1_icmplt, k1_icmpge, k1_icmpgt, k1_icmple, k3_constI, k3_constJ, k3_constD, gf_5_0, gf_5_1, gf_5_2, gf_5_3, gf_5_4, gf_5_5, pf_5_5, gf_5_6, pf_5_6, gf_5_7, gf_5_8, gf_4_0, gf_4_1, pf_4_1, gf_4_2, pf_4_2, gf_4_3, pf_4_3, gf_4_4, pf_4_4, gf_4_5, pf_4_5, gf_4_6, gf_4_7, pf_4_7, gf_4_8, pf_4_8, gf_4_9, pf_4_9, gf_3_0, gf_3_1, pf_3_1, gf_6_0, gf_6_1, gf_6_2, gf_6_3, gf_6_4, gf_6_5, gf_6_6, gf_6_7, gf_6_8, gf_6_9, gf_6_10, gf_6_11, pf_6_11, gf_6_12, pf_6_12, gf_6_13, gf_6_14, pf_6_14, gf_6_15, pf_6_15, gf_6_16, pf_6_16, gf_6_17, pf_6_17, gf_6_18, pf_6_18, gf_6_19, pf_6_19, gf_6_20, pf_6_20, gf_6_21, pf_6_21, gf_6_22, pf_6_22, gf_6_23, gf_6_24, gf_6_25, gf_6_26, pf_6_26, gf_6_27, gf_6_28, pf_6_28, gf_0_0, pf_0_0, gf_0_1, pf_0_1, gf_0_2, pf_0_2, gf_0_3, pf_0_3, gf_0_4, pf_0_4, gf_2_0, pf_2_0, gf_2_1, pf_2_1, gf_2_2, pf_2_2, gf_2_3, pf_2_3, gf_2_4, pf_2_4, gf_2_5, pf_2_5, gf_2_6, pf_2_6, gf_2_7, pf_2_7, gf_2_8, pf_2_8, gf_2_9, pf_2_9, gf_2_10, pf_2_10, gf_2_11, pf_2_11, gf_2_12, gf_2_13, gf_1_0, pf_1_0, gf_1_1, pf_1_1, gf_1_2, pf_1_2, gf_1_3, pf_1_3, gf_1_4, pf_1_4, gf_1_5, pf_1_5, gf_1_6, pf_1_6, gf_1_7, pf_1_7, gf_1_8, pf_1_8, gf_1_9, pf_1_9, gf_1_10, pf_1_10, gf_1_11, gf_1_12, gf_1_13, al_sl, as_sl, al_ct, as_ct, al_hr, as_hr, al_tx, as_tx, al_rb, as_rb, al_sv, as_sv, al_out, as_out, al_od, al_ha, al_pa, al_ps, al_sn, al_ai, as_ai, al_az, as_az, al_aj, as_aj, ln_hr, kv_rs, kv_tr, kv_rp, kv_md, kv_lk, kv_hh, kv_pg, lg_cmp_ge, lg_cmp_le, lg_cmp_gt, lg_cmp_lt, lg_cmp_eq, hi, hc, hg, hl, hf, Nat.not_le.mpr hi, hk, hd, hd', hx]
      exact ih2
    · have hd' : e ≤ (slF S k np nh e i).2 := Int32.not_lt.mp hd
      rw [show n = i + (j + 1) from h.symm, slF_done hd] at *
      simp [e_169_0, e_169_1, e_169_2, e_169_3, e_169_7, e_169_8, e_169_11, e_169_12, e_169_13, e_169_16, e_169_17, e_169_18, e_169_21, e_169_22, e_169_23, e_169_26, e_169_29, e_169_30, xentry, xent, Value.category, kB1_some, kB1_ite, kB_some, kB_ite, kB3_some, kX_some, kX_ite, kC_ite, kR_ret, kR_thr, kR_ite, kR0_ret, kR0_ite, kW_some, xretv, xst1, xst2, xcl, xsum, upI_1, upI_2, upJ_1, upJ_2, upJ_3, rwI_1, rwI_2, rwJ_1, rwJ_2, rwJ_3, upD_1, upD_2, upI_upI, upJ_upJ, x_mmin, x_mmax, x_objInit, List.length_cons, xmL, k1_iconst, k1_bipush, k1_sipush, k1_lconst, k1_dconst0, k1_dconst1, k1_fconst0, k1_fconst1, k1_iload, k1_lload, k1_aload, k1_dload, k1_fload, k1_istore, k1_lstore, k1_astore, k1_dstore, k1_fstore, k1_iinc, k1_iadd, k1_isub, k1_imul, k1_iand, k1_ixor, k1_ishr, k1_ladd, k1_lsub, k1_lmul, k1_land, k1_lor, k1_lcmp, k1_lshl, k1_lshr, k1_idiv, k1_irem, k1_ldiv, k1_lrem, k1_fdiv, k1_ddiv, k1_f2d, k1_i2l, k1_l2i, k1_i2b, k1_l2d, k1_l2f, k1_dcmpl, k1_dcmpg, k1_fcmpl, k1_fcmpg, k1_dup, k1_pop, k1_dup2, k1_goto, k1_ifeq, k1_ifne, k1_iflt, k1_ifge, k1_ifgt, k1_ifle, k1_icmpeq, k1_icmpne, k1_icmplt, k1_icmpge, k1_icmpgt, k1_icmple, k3_constI, k3_constJ, k3_constD, gf_5_0, gf_5_1, gf_5_2, gf_5_3, gf_5_4, gf_5_5, pf_5_5, gf_5_6, pf_5_6, gf_5_7, gf_5_8, gf_4_0, gf_4_1, pf_4_1, gf_4_2, pf_4_2, gf_4_3, pf_4_3, gf_4_4, pf_4_4, gf_4_5, pf_4_5, gf_4_6, gf_4_7, pf_4_7, gf_4_8, pf_4_8, gf_4_9, pf_4_9, gf_3_0, gf_3_1, pf_3_1, gf_6_0, gf_6_1, gf_6_2, gf_6_3, gf_6_4, gf_6_5, gf_6_6, gf_6_7, gf_6_8, gf_6_9, gf_6_10, gf_6_11, pf_6_11, gf_6_12, pf_6_12, gf_6_13, gf_6_14, pf_6_14, gf_6_15, pf_6_15, gf_6_16, pf_6_16, gf_6_17, pf_6_17, gf_6_18, pf_6_18, gf_6_19, pf_6_19, gf_6_20, pf_6_20, gf_6_21, pf_6_21, gf_6_22, pf_6_22, gf_6_23, gf_6_24, gf_6_25, gf_6_26, pf_6_26, gf_6_27, gf_6_28, pf_6_28, gf_0_0, pf_0_0, gf_0_1, pf_0_1, gf_0_2, pf_0_2, gf_0_3, pf_0_3, gf_0_4, pf_0_4, gf_2_0, pf_2_0, gf_2_1, pf_2_1, gf_2_2, pf_2_2, gf_2_3, pf_2_3, gf_2_4, pf_2_4, gf_2_5, pf_2_5, gf_2_6, pf_2_6, gf_2_7, pf_2_7, gf_2_8, pf_2_8, gf_2_9, pf_2_9, gf_2_10, pf_2_10, gf_2_11, pf_2_11, gf_2_12, gf_2_13, gf_1_0, pf_1_0, gf_1_1, pf_1_1, gf_1_2, pf_1_2, gf_1_3, pf_1_3, gf_1_4, pf_1_4, gf_1_5, pf_1_5, gf_1_6, pf_1_6, gf_1_7, pf_1_7, gf_1_8, pf_1_8, gf_1_9, pf_1_9, gf_1_10, pf_1_10, gf_1_11, gf_1_12, gf_1_13, al_sl, as_sl, al_ct, as_ct, al_hr, as_hr, al_tx, as_tx, al_rb, as_rb, al_sv, as_sv, al_out, as_out, al_od, al_ha, al_pa, al_ps, al_sn, al_ai, as_ai, al_az, as_az, al_aj, as_aj, ln_hr, kv_rs, kv_tr, kv_rp, kv_md, kv_lk, kv_hh, kv_pg, lg_cmp_ge, lg_cmp_le, lg_cmp_gt, lg_cmp_lt, lg_cmp_eq, hi, hc, hg, hl, hf, Nat.not_le.mpr hi, hk, hd, hd', hx]
theorem x169 (hk : k < 13) {np nh t q : Nat} {e : Int32} (hL : Lok S k np nh t) (hq : q ≤ 1000) (ht : t + q < 2 ^ 20) : X xtab sx 169 0 [some (.ref (adr s0 (12, k, 0))), some (.int (Int32.ofNat q)), some (.int e), none, none] [] (hp s0 S, m) = some (.inl (some (.int (slF S k np nh e q).2)), (hp s0 (slF S k np nh e q).1, m)) := by
  have h := x169_l (sx := sx) (s0 := s0) (m := m) hq hk (e := e) hL ht q 0 (by omega)
  rw [show slF S k np nh e 0 = (S, 0) from rfl] at h
  simp [e_169_0, e_169_1, e_169_2, e_169_3, e_169_7, e_169_8, e_169_11, e_169_12, e_169_13, e_169_16, e_169_17, e_169_18, e_169_21, e_169_22, e_169_23, e_169_26, e_169_29, e_169_30, xentry, xent, Value.category, kB1_some, kB1_ite, kB_some, kB_ite, kB3_some, kX_some, kX_ite, kC_ite, kR_ret, kR_thr, kR_ite, kR0_ret, kR0_ite, kW_some, xretv, xst1, xst2, xcl, xsum, upI_1, upI_2, upJ_1, upJ_2, upJ_3, rwI_1, rwI_2, rwJ_1, rwJ_2, rwJ_3, upD_1, upD_2, upI_upI, upJ_upJ, x_mmin, x_mmax, x_objInit, List.length_cons, xmL, k1_iconst, k1_bipush, k1_sipush, k1_lconst, k1_dconst0, k1_dconst1, k1_fconst0, k1_fconst1, k1_iload, k1_lload, k1_aload, k1_dload, k1_fload, k1_istore, k1_lstore, k1_astore, k1_dstore, k1_fstore, k1_iinc, k1_iadd, k1_isub, k1_imul, k1_iand, k1_ixor, k1_ishr, k1_ladd, k1_lsub, k1_lmul, k1_land, k1_lor, k1_lcmp, k1_lshl, k1_lshr, k1_idiv, k1_irem, k1_ldiv, k1_lrem, k1_fdiv, k1_ddiv, k1_f2d, k1_i2l, k1_l2i, k1_i2b, k1_l2d, k1_l2f, k1_dcmpl, k1_dcmpg, k1_fcmpl, k1_fcmpg, k1_dup, k1_pop, k1_dup2, k1_goto, k1_ifeq, k1_ifne, k1_iflt, k1_ifge, k1_ifgt, k1_ifle, k1_icmpeq, k1_icmpne, k1_icmplt, k1_icmpge, k1_icmpgt, k1_icmple, k3_constI, k3_constJ, k3_constD, gf_5_0, gf_5_1, gf_5_2, gf_5_3, gf_5_4, gf_5_5, pf_5_5, gf_5_6, pf_5_6, gf_5_7, gf_5_8, gf_4_0, gf_4_1, pf_4_1, gf_4_2, pf_4_2, gf_4_3, pf_4_3, gf_4_4, pf_4_4, gf_4_5, pf_4_5, gf_4_6, gf_4_7, pf_4_7, gf_4_8, pf_4_8, gf_4_9, pf_4_9, gf_3_0, gf_3_1, pf_3_1, gf_6_0, gf_6_1, gf_6_2, gf_6_3, gf_6_4, gf_6_5, gf_6_6, gf_6_7, gf_6_8, gf_6_9, gf_6_10, gf_6_11, pf_6_11, gf_6_12, pf_6_12, gf_6_13, gf_6_14, pf_6_14, gf_6_15, pf_6_15, gf_6_16, pf_6_16, gf_6_17, pf_6_17, gf_6_18, pf_6_18, gf_6_19, pf_6_19, gf_6_20, pf_6_20, gf_6_21, pf_6_21, gf_6_22, pf_6_22, gf_6_23, gf_6_24, gf_6_25, gf_6_26, pf_6_26, gf_6_27, gf_6_28, pf_6_28, gf_0_0, pf_0_0, gf_0_1, pf_0_1, gf_0_2, pf_0_2, gf_0_3, pf_0_3, gf_0_4, pf_0_4, gf_2_0, pf_2_0, gf_2_1, pf_2_1, gf_2_2, pf_2_2, gf_2_3, pf_2_3, gf_2_4, pf_2_4, gf_2_5, pf_2_5, gf_2_6, pf_2_6, gf_2_7, pf_2_7, gf_2_8, pf_2_8, gf_2_9, pf_2_9, gf_2_10, pf_2_10, gf_2_11, pf_2_11, gf_2_12, gf_2_13, gf_1_0, pf_1_0, gf_1_1, pf_1_1, gf_1_2, pf_1_2, gf_1_3, pf_1_3, gf_1_4, pf_1_4, gf_1_5, pf_1_5, gf_1_6, pf_1_6, gf_1_7, pf_1_7, gf_1_8, pf_1_8, gf_1_9, pf_1_9, gf_1_10, pf_1_10, gf_1_11, gf_1_12, gf_1_13, al_sl, as_sl, al_ct, as_ct, al_hr, as_hr, al_tx, as_tx, al_rb, as_rb, al_sv, as_sv, al_out, as_out, al_od, al_ha, al_pa, al_ps, al_sn, al_ai, as_ai, al_az, as_az, al_aj, as_aj, ln_hr, kv_rs, kv_tr, kv_rp, kv_md, kv_lk, kv_hh, kv_pg]
  exact h
end P20
