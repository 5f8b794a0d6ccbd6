section P16
variable {sx : xSx} {s0 k p g : Nat} {S S' : St} {m : Nat × Nat × Nat}
/-- what Link.passSlot needs of a link -/
def Lok (S : St) (k n nh t : Nat) : Prop := n ≤ 12 ∧ nh ≤ 6 ∧ t < 2 ^ 20 ∧ S.1 (12, k, 0) 10 = Int32.ofNat n ∧ S.1 (12, k, 0) 9 = Int32.ofNat nh ∧ S.1 (12, k, 0) 5 = Int32.ofNat t ∧ (∀ p, p < n → (¬ S.1 (17, k, p) 1 < 0 ∧ hisF S k p < 6)) ∧ (∀ p, p < n → (S.1 (17, k, p) 2 = 0 ∨ S.1 (17, k, p) 2 = 1 ∨ S.1 (17, k, p) 2 = 2 ∨ S.1 (17, k, p) 2 = 3))
theorem Lok_fr {n nh t : Nat} (h : Lok S k n nh t) (h10 : S'.1 (12, k, 0) 10 = S.1 (12, k, 0) 10) (h9 : S'.1 (12, k, 0) 9 = S.1 (12, k, 0) 9) (h5 : S'.1 (12, k, 0) 5 = S.1 (12, k, 0) 5) (h1 : ∀ p, S'.1 (17, k, p) 1 = S.1 (17, k, p) 1) (h2 : ∀ p, S'.1 (17, k, p) 2 = S.1 (17, k, p) 2) : Lok S' k n nh t := by
  obtain ⟨a, b, c, d, e, f, i, j⟩ := h
  refine ⟨a, b, c, h10.trans d, h9.trans e, h5.trans f, ?_, ?_⟩
  · intro p hp; unfold hisF; rw [h1]; exact i p hp
  · intro p hp; rw [h2]; exact j p hp
theorem ylL_lk' {j : Nat} : (ylL S k j).1 (12, k, 0) g = S.1 (12, k, 0) g := ylL_lk j
theorem i12 {a : Nat} (h : a < 2 ^ 31) : Int32.ofNat a / 12 = Int32.ofNat (a / 12) := by
  rw [← Int32.toInt_inj, Int32.toInt_div_of_ne_right _ _ (by decide), Int32.toInt_ofNat_small h, Int32.toInt_ofNat_small (by omega)]
  rw [show (12 : Int32).toInt = ((12 : Nat) : Int) by decide]
  rfl
theorem i24 {a : Nat} (h : a < 2 ^ 31) : Int32.ofNat a / 24 = Int32.ofNat (a / 24) := by
  rw [← Int32.toInt_inj, Int32.toInt_div_of_ne_right _ _ (by decide), Int32.toInt_ofNat_small h, Int32.toInt_ofNat_small (by omega)]
  rw [show (24 : Int32).toInt = ((24 : Nat) : Int) by decide]
  rfl
theorem oN_add {a b : Nat} : Int32.ofNat a + Int32.ofNat b = Int32.ofNat (a + b) := (Int32.ofNat_add a b).symm
theorem oN_mul {a b : Nat} : Int32.ofNat a * Int32.ofNat b = Int32.ofNat (a * b) := (Int32.ofNat_mul a b).symm
theorem oN_sub {a b : Nat} (h : b ≤ a) : Int32.ofNat a - Int32.ofNat b = Int32.ofNat (a - b) := (Int32.ofNat_sub a b h).symm
theorem phF_oN {a i : Nat} (h : a < 2 ^ 30) : phF (Int32.ofNat a) (Int32.ofNat i) = Int32.ofNat (a % 24 * 6 + i) := by
  unfold phF
  rw [i24 (by omega), show (24 : Int32) = Int32.ofNat 24 from rfl, oN_mul, oN_sub (by omega), show (6 : Int32) = Int32.ofNat 6 from rfl, oN_mul, oN_add]
  congr 3
  omega
theorem h12 {t : Nat} (h : t < 2 ^ 31) : (Int32.ofNat t - Int32.ofNat t / 12 * 12 = 0) = (t % 12 = 0) := by
  rw [i12 h, show (12 : Int32) = Int32.ofNat 12 from rfl, oN_mul, oN_sub (by omega), show t - t / 12 * 12 = t % 12 by omega]
  apply propext
  constructor
  · intro e
    have := congrArg Int32.toNatClampNeg e
    rwa [oN_clamp (by omega)] at this
  · intro e
    rw [e]; rfl
theorem ehF_t {t : Nat} (h : t < 2 ^ 31) (ht : S.1 (12, k, 0) 5 = Int32.ofNat t) : ehF S k = Int32.ofNat (t / 12) := by
  unfold ehF; rw [ht, i12 h]
theorem x179' (hk : k < 13) {n nh t : Nat} (h : Lok S k n nh t) : X xtab sx 179 0 [some (.ref (adr s0 (12, k, 0))), none] [] (hp s0 S, m) = some (.inl none, (hp s0 (ptF S k nh), m)) := by
  obtain ⟨_, hn, htl, _, hnp, htt, _, _⟩ := h
  have hnp2 : (ptT S k).1 (12, k, 0) 9 = Int32.ofNat nh := by
    rw [← hnp]
    simp [ptT, upI_1]
  have ht : (ptT S k).1 (12, k, 0) 5 = S.1 (12, k, 0) 5 + 1 := by simp [ptT, upI_1]
  have ht1 : (ptT S k).1 (12, k, 0) 5 = Int32.ofNat (t + 1) := by rw [ht, htt, inc_ofNat]
  unfold ptF
  by_cases hy : (ptT S k).1 (12, k, 0) 5 - (ptT S k).1 (12, k, 0) 5 / 12 * 12 = 0
  · have h12' := hy
    rw [ht1, h12 (by omega)] at h12'
    have hpl : ∀ i, i < nh → (¬ phF (ehF (ptT S k) k - 1) (Int32.ofNat i) < 0 ∧ (phF (ehF (ptT S k) k - 1) (Int32.ofNat i)).toNatClampNeg < 144) := by
      intro i hi
      rw [ehF_t (by omega) ht1, show (1 : Int32) = Int32.ofNat 1 from rfl, oN_sub (by omega), phF_oN (by omega), oN_neg (by omega), oN_clamp (by omega)]
      exact ⟨id, by omega⟩
    have h := x179_l (sx := sx) (s0 := s0) (m := m) hk hn hnp2 hpl nh 0 (by omega)
    rw [show ptL (ptT S k) k 0 = ptT S k from rfl] at h
    rw [if_pos hy]
    rw [ht] at hy
    simp [e_179_0, e_179_1, e_179_2, e_179_5, e_179_6, e_179_7, e_179_10, e_179_11, e_179_14, e_179_16, e_179_17, e_179_20, e_179_21, e_179_23, e_179_24, e_179_27, e_179_30, e_179_31, e_179_34, e_179_35, e_179_36, e_179_39, e_179_40, e_179_41, e_179_42, e_179_45, e_179_46, e_179_49, e_179_50, e_179_51, e_179_54, e_179_55, e_179_56, e_179_59, e_179_60, e_179_61, e_179_62, e_179_65, e_179_66, e_179_69, e_179_70, e_179_71, e_179_72, e_179_75, e_179_78, e_179_81, xentry, xent, Value.category, kB1_some, kB1_ite, kB_some, kB_ite, kB3_some, kX_some, kX_ite, kC_ite, kR_ret, kR_thr, kR_ite, kR0_ret, kR0_ite, kW_some, xretv, xst1, xst2, xcl, xsum, upI_1, upI_2, upJ_1, upJ_2, upJ_3, rwI_1, rwI_2, rwJ_1, rwJ_2, rwJ_3, upD_1, upD_2, upI_upI, upJ_upJ, x_mmin, x_mmax, x_objInit, List.length_cons, xmL, k1_iconst, k1_bipush, k1_sipush, k1_lconst, k1_dconst0, k1_dconst1, k1_fconst0, k1_fconst1, k1_iload, k1_lload, k1_aload, k1_dload, k1_fload, k1_istore, k1_lstore, k1_astore, k1_dstore, k1_fstore, k1_iinc, k1_iadd, k1_isub, k1_imul, k1_iand, k1_ixor, k1_ishr, k1_ladd, k1_lsub, k1_lmul, k1_land, k1_lor, k1_lcmp, k1_lshl, k1_lshr, k1_idiv, k1_irem, k1_ldiv, k1_lrem, k1_fdiv, k1_ddiv, k1_f2d, k1_i2l, k1_l2i, k1_i2b, k1_l2d, k1_l2f, k1_dcmpl, k1_dcmpg, k1_fcmpl, k1_fcmpg, k1_dup, k1_pop, k1_dup2, k1_goto, k1_ifeq, k1_ifne, k1_iflt, k1_ifge, k1_ifgt, k1_ifle, k1_icmpeq, k1_icmpne, k1_icmplt, k1_icmpge, k1_icmpgt, k1_icmple, k3_constI, k3_constJ, k3_constD, gf_5_0, gf_5_1, gf_5_2, gf_5_3, gf_5_4, gf_5_5, pf_5_5, gf_5_6, pf_5_6, gf_5_7, gf_5_8, gf_4_0, gf_4_1, pf_4_1, gf_4_2, pf_4_2, gf_4_3, pf_4_3, gf_4_4, pf_4_4, gf_4_5, pf_4_5, gf_4_6, gf_4_7, pf_4_7, gf_4_8, pf_4_8, gf_4_9, pf_4_9, gf_3_0, gf_3_1, pf_3_1, gf_6_0, gf_6_1, gf_6_2, gf_6_3, gf_6_4, gf_6_5, gf_6_6, gf_6_7, gf_6_8, gf_6_9, gf_6_10, gf_6_11, pf_6_11, gf_6_12, pf_6_12, gf_6_13, gf_6_14, pf_6_14, gf_6_15, pf_6_15, gf_6_16, pf_6_16, gf_6_17, pf_6_17, gf_6_18, pf_6_18, gf_6_19, pf_6_19, gf_6_20, pf_6_20, gf_6_21, pf_6_21, gf_6_22, pf_6_22, gf_6_23, gf_6_24, gf_6_25, gf_6_26, pf_6_26, gf_6_27, gf_6_28, pf_6_28, gf_0_0, pf_0_0, gf_0_1, pf_0_1, gf_0_2, pf_0_2, gf_0_3, pf_0_3, gf_0_4, pf_0_4, gf_2_0, pf_2_0, gf_2_1, pf_2_1, gf_2_2, pf_2_2, gf_2_3, pf_2_3, gf_2_4, pf_2_4, gf_2_5, pf_2_5, gf_2_6, pf_2_6, gf_2_7, pf_2_7, gf_2_8, pf_2_8, gf_2_9, pf_2_9, gf_2_10, pf_2_10, gf_2_11, pf_2_11, gf_2_12, gf_2_13, gf_1_0, pf_1_0, gf_1_1, pf_1_1, gf_1_2, pf_1_2, gf_1_3, pf_1_3, gf_1_4, pf_1_4, gf_1_5, pf_1_5, gf_1_6, pf_1_6, gf_1_7, pf_1_7, gf_1_8, pf_1_8, gf_1_9, pf_1_9, gf_1_10, pf_1_10, gf_1_11, gf_1_12, gf_1_13, al_sl, as_sl, al_ct, as_ct, al_hr, as_hr, al_tx, as_tx, al_rb, as_rb, al_sv, as_sv, al_out, as_out, al_od, al_ha, al_pa, al_ps, al_sn, al_ai, as_ai, al_az, as_az, al_aj, as_aj, ln_hr, kv_rs, kv_tr, kv_rp, kv_md, kv_lk, kv_hh, kv_pg, hk, hy]
    exact h
  · rw [if_neg hy]
    rw [ht] at hy
    simp [e_179_0, e_179_1, e_179_2, e_179_5, e_179_6, e_179_7, e_179_10, e_179_11, e_179_14, e_179_16, e_179_17, e_179_20, e_179_21, e_179_23, e_179_24, e_179_27, e_179_30, e_179_31, e_179_34, e_179_35, e_179_36, e_179_39, e_179_40, e_179_41, e_179_42, e_179_45, e_179_46, e_179_49, e_179_50, e_179_51, e_179_54, e_179_55, e_179_56, e_179_59, e_179_60, e_179_61, e_179_62, e_179_65, e_179_66, e_179_69, e_179_70, e_179_71, e_179_72, e_179_75, e_179_78, e_179_81, xentry, xent, Value.category, kB1_some, kB1_ite, kB_some, kB_ite, kB3_some, kX_some, kX_ite, kC_ite, kR_ret, kR_thr, kR_ite, kR0_ret, kR0_ite, kW_some, xretv, xst1, xst2, xcl, xsum, upI_1, upI_2, upJ_1, upJ_2, upJ_3, rwI_1, rwI_2, rwJ_1, rwJ_2, rwJ_3, upD_1, upD_2, upI_upI, upJ_upJ, x_mmin, x_mmax, x_objInit, List.length_cons, xmL, k1_iconst, k1_bipush, k1_sipush, k1_lconst, k1_dconst0, k1_dconst1, k1_fconst0, k1_fconst1, k1_iload, k1_lload, k1_aload, k1_dload, k1_fload, k1_istore, k1_lstore, k1_astore, k1_dstore, k1_fstore, k1_iinc, k1_iadd, k1_isub, k1_imul, k1_iand, k1_ixor, k1_ishr, k1_ladd, k1_lsub, k1_lmul, k1_land, k1_lor, k1_lcmp, k1_lshl, k1_lshr, k1_idiv, k1_irem, k1_ldiv, k1_lrem, k1_fdiv, k1_ddiv, k1_f2d, k1_i2l, k1_l2i, k1_i2b, k1_l2d, k1_l2f, k1_dcmpl, k1_dcmpg, k1_fcmpl, k1_fcmpg, k1_dup, k1_pop, k1_dup2, k1_goto, k1_ifeq, k1_ifne, k1_iflt, k1_ifge, k1_ifgt, k1_ifle, k1_icmpeq, k1_icmpne, k1_icmplt, k1_icmpge, k1_icmpgt, k1_icmple, k3_constI, k3_constJ, k3_constD, gf_5_0, gf_5_1, gf_5_2, gf_5_3, gf_5_4, gf_5_5, pf_5_5, gf_5_6, pf_5_6, gf_5_7, gf_5_8, gf_4_0, gf_4_1, pf_4_1, gf_4_2, pf_4_2, gf_4_3, pf_4_3, gf_4_4, pf_4_4, gf_4_5, pf_4_5, gf_4_6, gf_4_7, pf_4_7, gf_4_8, pf_4_8, gf_4_9, pf_4_9, gf_3_0, gf_3_1, pf_3_1, gf_6_0, gf_6_1, gf_6_2, gf_6_3, gf_6_4, gf_6_5, gf_6_6, gf_6_7, gf_6_8, gf_6_9, gf_6_10, gf_6_11, pf_6_11, gf_6_12, pf_6_12, gf_6_13, gf_6_14, pf_6_14, gf_6_15, pf_6_15, gf_6_16, pf_6_16, gf_6_17, pf_6_17, gf_6_18, pf_6_18, gf_6_19, pf_6_19, gf_6_20, pf_6_20, gf_6_21, pf_6_21, gf_6_22, pf_6_22, gf_6_23, gf_6_24, gf_6_25, gf_6_26, pf_6_26, gf_6_27, gf_6_28, pf_6_28, gf_0_0, pf_0_0, gf_0_1, pf_0_1, gf_0_2, pf_0_2, gf_0_3, pf_0_3, gf_0_4, pf_0_4, gf_2_0, pf_2_0, gf_2_1, pf_2_1, gf_2_2, pf_2_2, gf_2_3, pf_2_3, gf_2_4, pf_2_4, gf_2_5, pf_2_5, gf_2_6, pf_2_6, gf_2_7, pf_2_7, gf_2_8, pf_2_8, gf_2_9, pf_2_9, gf_2_10, pf_2_10, gf_2_11, pf_2_11, gf_2_12, gf_2_13, gf_1_0, pf_1_0, gf_1_1, pf_1_1, gf_1_2, pf_1_2, gf_1_3, pf_1_3, gf_1_4, pf_1_4, gf_1_5, pf_1_5, gf_1_6, pf_1_6, gf_1_7, pf_1_7, gf_1_8, pf_1_8, gf_1_9, pf_1_9, gf_1_10, pf_1_10, gf_1_11, gf_1_12, gf_1_13, al_sl, as_sl, al_ct, as_ct, al_hr, as_hr, al_tx, as_tx, al_rb, as_rb, al_sv, as_sv, al_out, as_out, al_od, al_ha, al_pa, al_ps, al_sn, al_ai, as_ai, al_az, as_az, al_aj, as_aj, ln_hr, kv_rs, kv_tr, kv_rp, kv_md, kv_lk, kv_hh, kv_pg, hk, hy]
    rfl
end P16
