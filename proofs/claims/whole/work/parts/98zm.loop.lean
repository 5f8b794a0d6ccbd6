section LOOP
variable {sx : xSx} {s0 i k : Nat} {S : St} {H G : xH} {M2 : Nat × Nat × Nat} {st : List Value} {x : Int32} {c nx ce sl : Nat}
/-! THE LAW'S LOOP -/
def lpc : List Nat := [212, 285, 341, 397, 465, 533, 629, 696, 751, 819, 832, 900, 977, 1018, 1031, 1109, 1122, 1147, 1203, 1271, 1284, 1297, 1353, 1409, 1465, 1521, 1612, 1680, 1748, 1816, 1884, 1952, 2020, 2033, 2058, 2071, 2134, 2190]
theorem sw_in (hk : k < 38) : xsw [(2204, 0, [212, 285, 341, 397, 465, 533, 629, 696, 751, 819, 832, 900, 977, 1018, 1031, 1109, 1122, 1147, 1203, 1271, 1284, 1297, 1353, 1409, 1465, 1521, 1612, 1680, 1748, 1816, 1884, 1952, 2020, 2033, 2058, 2071, 2134, 2190])] 0 (.int (Int32.ofNat k) :: st) = some (lpc.getD k 0, st) := by
  rcases (show k = 0 ∨ k = 1 ∨ k = 2 ∨ k = 3 ∨ k = 4 ∨ k = 5 ∨ k = 6 ∨ k = 7 ∨ k = 8 ∨ k = 9 ∨ k = 10 ∨ k = 11 ∨ k = 12 ∨ k = 13 ∨ k = 14 ∨ k = 15 ∨ k = 16 ∨ k = 17 ∨ k = 18 ∨ k = 19 ∨ k = 20 ∨ k = 21 ∨ k = 22 ∨ k = 23 ∨ k = 24 ∨ k = 25 ∨ k = 26 ∨ k = 27 ∨ k = 28 ∨ k = 29 ∨ k = 30 ∨ k = 31 ∨ k = 32 ∨ k = 33 ∨ k = 34 ∨ k = 35 ∨ k = 36 ∨ k = 37 by omega) with e | e | e | e | e | e | e | e | e | e | e | e | e | e | e | e | e | e | e | e | e | e | e | e | e | e | e | e | e | e | e | e | e | e | e | e | e | e <;> subst e <;> rfl
theorem sw_out (h : x.toInt < 0 ∨ 37 < x.toInt) : xsw [(2204, 0, [212, 285, 341, 397, 465, 533, 629, 696, 751, 819, 832, 900, 977, 1018, 1031, 1109, 1122, 1147, 1203, 1271, 1284, 1297, 1353, 1409, 1465, 1521, 1612, 1680, 1748, 1816, 1884, 1952, 2020, 2033, 2058, 2071, 2134, 2190])] 0 (.int x :: st) = some (2204, st) := by
  show (if x.toInt < 0 ∨ (0 : Int) + (38 : Nat) - 1 < x.toInt then some (2204, st) else _) = _
  rw [if_pos (by omega)]
theorem law_case (hS : Sok sx) (hi : i + 6 ≤ sx.2.2.2.1) (hL : sx.2.2.2.1 ≤ 3072) (hI : Inv S) (hk : k < 38) : LC sx s0 i (lpc.getD k 0) S := by
  rcases (show k = 0 ∨ k = 1 ∨ k = 2 ∨ k = 3 ∨ k = 4 ∨ k = 5 ∨ k = 6 ∨ k = 7 ∨ k = 8 ∨ k = 9 ∨ k = 10 ∨ k = 11 ∨ k = 12 ∨ k = 13 ∨ k = 14 ∨ k = 15 ∨ k = 16 ∨ k = 17 ∨ k = 18 ∨ k = 19 ∨ k = 20 ∨ k = 21 ∨ k = 22 ∨ k = 23 ∨ k = 24 ∨ k = 25 ∨ k = 26 ∨ k = 27 ∨ k = 28 ∨ k = 29 ∨ k = 30 ∨ k = 31 ∨ k = 32 ∨ k = 33 ∨ k = 34 ∨ k = 35 ∨ k = 36 ∨ k = 37 by omega) with e | e | e | e | e | e | e | e | e | e | e | e | e | e | e | e | e | e | e | e | e | e | e | e | e | e | e | e | e | e | e | e | e | e | e | e | e | e <;> subst e
  · exact l_0 hi hL (o_2 hI)
  · exact l_1 hi hL (w_213 (o_3 hS hI))
  · exact l_2 hi hL (w_214 (o_4 hI))
  · exact l_3 hi hL (w_215 (o_5 hI))
  · exact l_4 hi hL (w_216 (o_6 hI))
  · exact l_5 hi hL (fun b _ => w_217 (o_7 hI))
  · exact l_6 hi hL (w_218 (o_8 hI))
  · exact l_7 hi hL (w_219 (o_9 hI))
  · exact l_8 hi hL (w_220 (o_10 hI))
  · exact l_9 hi hL (o_11 hI)
  · exact l_10 hi hL (w_221 (o_12 hI))
  · exact l_11 hi hL (w_222 (o_13 hI))
  · exact l_12 hi hL (o_14 hI)
  · exact l_13 hi hL (o_15 hI)
  · exact l_14 hi hL (w_223 (o_16 hI))
  · exact l_15 hi hL (o_17 hI)
  · exact l_16 hi hL (o_18 hI)
  · exact l_17 hi hL (w_224 (o_19 hI))
  · exact l_18 hi hL (w_225 (o_20 hI))
  · exact l_19 hi hL (o_21 hI)
  · exact l_20 hi hL (o_22 hI)
  · exact l_21 hi hL (w_226 (o_23 hI))
  · exact l_22 hi hL (w_227 (o_24 hI))
  · exact l_23 hi hL (w_228 (o_26 hI))
  · exact l_24 hi hL (w_229 (o_27 hI))
  · exact l_25 hi hL (fun b hb => w_230 (o_28 hI hb))
  · exact l_26 hi hL (w_231 (o_29 hI))
  · exact l_27 hi hL (w_232 (o_30 hI))
  · exact l_28 hi hL (w_233 (o_31 hI))
  · exact l_29 hi hL (w_234 (o_32 hI))
  · exact l_30 hi hL (w_235 (o_33 hI))
  · exact l_31 hi hL (w_236 (o_34 hI))
  · exact l_32 hi hL (o_35 hI)
  · exact l_33 hi hL (o_36 hI)
  · exact l_34 hi hL (o_37 hI)
  · exact l_35 hi hL (w_237 (o_38 hI))
  · exact l_36 hi hL (w_238 (o_39 hI))
  · exact l_37 hi hL (o_40 hI)
theorem lp_lt (hL : sx.2.2.2.1 ≤ 3072) (hi : i ≤ 3072) : (Int32.ofNat sx.2.2.2.1 - 6 < Int32.ofNat i) = (sx.2.2.2.1 < i + 6) ∧ (Int32.ofNat i ≤ Int32.ofNat sx.2.2.2.1 - 6) = (i + 6 ≤ sx.2.2.2.1) := by
  have e : (Int32.ofNat sx.2.2.2.1 - 6).toInt = (sx.2.2.2.1 : Int) - 6 := by
    rw [Int32.toInt_sub, oN_toInt (by omega), show (6 : Int32).toInt = 6 from rfl, Int.bmod_eq_of_le (by omega) (by omega)]
  refine ⟨propext ?_, propext ?_⟩
  · rw [ltI, e, oN_toInt (by omega)]; omega
  · rw [leI, e, oN_toInt (by omega)]; omega
theorem scr_0 (hi : i + 6 ≤ sx.2.2.2.1) (hL : sx.2.2.2.1 ≤ 3072) {a b q : Nat} {z : Int} {h : xH} : k4_scrld sx a b q z h (.int (Int32.ofNat i) :: .ref sx.2.2.1 :: st) = some (h, .int (sx.2.2.2.2 i) :: st) := scr (k := 0) hi hL (by decide)
theorem law_out {m : Nat × Nat × Nat} {l6 l7 l8 l9 : Option Value} (hL : sx.2.2.2.1 ≤ 3072) (hi : i ≤ 3072) (h : sx.2.2.2.1 < i + 6) : X xtab sx 239 28 (LW sx s0 i l6 l7 l8 l9) [] (hp s0 S, m) = some (.inl (some (.int 1)), (hp s0 S, m)) := by
  obtain ⟨a1, a2⟩ := lp_lt (sx := sx) hL hi
  have b1 : Int32.ofNat sx.2.2.2.1 - 6 < Int32.ofNat i := by rw [a1]; exact h
  have b2 : ¬ Int32.ofNat i ≤ Int32.ofNat sx.2.2.2.1 - 6 := by rw [a2]; omega
  unfold LW
  simp [e_239_28, e_239_30, e_239_31, e_239_32, e_239_34, e_239_35, e_239_2210, e_239_2211, xentry, xent, Value.category, kB1_some, kB1_ite, kB_some, kB_ite, kB3_some, kX_some, kX_ite, kC_ite, kR_ret, kR_thr, kR_ite, kR0_ret, kR0_ite, kW_some, xretv, xst1, xst2, xcl, xsum, upI_1, upI_2, upJ_1, upJ_2, upJ_3, rwI_1, rwI_2, rwJ_1, rwJ_2, rwJ_3, upD_1, upD_2, upI_upI, upJ_upJ, x_mmin, x_mmax, x_objInit, List.length_cons, xmL, k1_iconst, k1_bipush, k1_sipush, k1_lconst, k1_dconst0, k1_dconst1, k1_fconst0, k1_fconst1, k1_iload, k1_lload, k1_aload, k1_dload, k1_fload, k1_istore, k1_lstore, k1_astore, k1_dstore, k1_fstore, k1_iinc, k1_iadd, k1_isub, k1_imul, k1_iand, k1_ixor, k1_ishr, k1_ladd, k1_lsub, k1_lmul, k1_land, k1_lor, k1_lcmp, k1_lshl, k1_lshr, k1_idiv, k1_irem, k1_ldiv, k1_lrem, k1_fdiv, k1_ddiv, k1_f2d, k1_i2l, k1_l2i, k1_i2b, k1_l2d, k1_l2f, k1_dcmpl, k1_dcmpg, k1_fcmpl, k1_fcmpg, k1_dup, k1_pop, k1_dup2, k1_goto, k1_ifeq, k1_ifne, k1_iflt, k1_ifge, k1_ifgt, k1_ifle, k1_icmpeq, k1_icmpne, k1_icmplt, k1_icmpge, k1_icmpgt, k1_icmple, k3_constI, k3_constJ, k3_constD, gf_5_0, gf_5_1, gf_5_2, gf_5_3, gf_5_4, gf_5_5, pf_5_5, gf_5_6, pf_5_6, gf_5_7, gf_5_8, gf_4_0, gf_4_1, pf_4_1, gf_4_2, pf_4_2, gf_4_3, pf_4_3, gf_4_4, pf_4_4, gf_4_5, pf_4_5, gf_4_6, gf_4_7, pf_4_7, gf_4_8, pf_4_8, gf_4_9, pf_4_9, gf_3_0, gf_3_1, pf_3_1, gf_6_0, gf_6_1, gf_6_2, gf_6_3, gf_6_4, gf_6_5, gf_6_6, gf_6_7, gf_6_8, gf_6_9, gf_6_10, gf_6_11, pf_6_11, gf_6_12, pf_6_12, gf_6_13, gf_6_14, pf_6_14, gf_6_15, pf_6_15, gf_6_16, pf_6_16, gf_6_17, pf_6_17, gf_6_18, pf_6_18, gf_6_19, pf_6_19, gf_6_20, pf_6_20, gf_6_21, pf_6_21, gf_6_22, pf_6_22, gf_6_23, gf_6_24, gf_6_25, gf_6_26, pf_6_26, gf_6_27, gf_6_28, pf_6_28, gf_0_0, pf_0_0, gf_0_1, pf_0_1, gf_0_2, pf_0_2, gf_0_3, pf_0_3, gf_0_4, pf_0_4, gf_2_0, pf_2_0, gf_2_1, pf_2_1, gf_2_2, pf_2_2, gf_2_3, pf_2_3, gf_2_4, pf_2_4, gf_2_5, pf_2_5, gf_2_6, pf_2_6, gf_2_7, pf_2_7, gf_2_8, pf_2_8, gf_2_9, pf_2_9, gf_2_10, pf_2_10, gf_2_11, pf_2_11, gf_2_12, gf_2_13, gf_1_0, pf_1_0, gf_1_1, pf_1_1, gf_1_2, pf_1_2, gf_1_3, pf_1_3, gf_1_4, pf_1_4, gf_1_5, pf_1_5, gf_1_6, pf_1_6, gf_1_7, pf_1_7, gf_1_8, pf_1_8, gf_1_9, pf_1_9, gf_1_10, pf_1_10, gf_1_11, gf_1_12, gf_1_13, al_sl, as_sl, al_ct, as_ct, al_hr, as_hr, al_tx, as_tx, al_rb, as_rb, al_sv, as_sv, al_out, as_out, al_od, al_ha, al_pa, al_ps, al_sn, al_ai, as_ai, al_az, as_az, al_aj, as_aj, ln_hr, kv_rs, kv_tr, kv_rp, kv_md, kv_lk, kv_hh, kv_pg, k4_scrlen, b1, b2]
theorem law_in {m : Nat × Nat × Nat} {l6 l7 l8 l9 : Option Value} (hL : sx.2.2.2.1 ≤ 3072) (h : i + 6 ≤ sx.2.2.2.1) : X xtab sx 239 28 (LW sx s0 i l6 l7 l8 l9) [] (hp s0 S, m) = X xtab sx 239 45 (LW sx s0 i l6 l7 l8 l9) [.int (sx.2.2.2.2 i &&& 63)] (hp s0 S, m) := by
  obtain ⟨a1, a2⟩ := lp_lt (sx := sx) (i := i) hL (by omega)
  have b1 : ¬ Int32.ofNat sx.2.2.2.1 - 6 < Int32.ofNat i := by rw [a1]; omega
  have b2 : Int32.ofNat i ≤ Int32.ofNat sx.2.2.2.1 - 6 := by rw [a2]; exact h
  have k0 := fun a b q z hh st => scr_0 (st := st) h hL (a := a) (b := b) (q := q) (z := z) (h := hh)
  unfold LW
  simp [e_239_28, e_239_30, e_239_31, e_239_32, e_239_34, e_239_35, e_239_38, e_239_39, e_239_41, e_239_42, e_239_44, xentry, xent, Value.category, kB1_some, kB1_ite, kB_some, kB_ite, kB3_some, kX_some, kX_ite, kC_ite, kR_ret, kR_thr, kR_ite, kR0_ret, kR0_ite, kW_some, xretv, xst1, xst2, xcl, xsum, upI_1, upI_2, upJ_1, upJ_2, upJ_3, rwI_1, rwI_2, rwJ_1, rwJ_2, rwJ_3, upD_1, upD_2, upI_upI, upJ_upJ, x_mmin, x_mmax, x_objInit, List.length_cons, xmL, k1_iconst, k1_bipush, k1_sipush, k1_lconst, k1_dconst0, k1_dconst1, k1_fconst0, k1_fconst1, k1_iload, k1_lload, k1_aload, k1_dload, k1_fload, k1_istore, k1_lstore, k1_astore, k1_dstore, k1_fstore, k1_iinc, k1_iadd, k1_isub, k1_imul, k1_iand, k1_ixor, k1_ishr, k1_ladd, k1_lsub, k1_lmul, k1_land, k1_lor, k1_lcmp, k1_lshl, k1_lshr, k1_idiv, k1_irem, k1_ldiv, k1_lrem, k1_fdiv, k1_ddiv, k1_f2d, k1_i2l, k1_l2i, k1_i2b, k1_l2d, k1_l2f, k1_dcmpl, k1_dcmpg, k1_fcmpl, k1_fcmpg, k1_dup, k1_pop, k1_dup2, k1_goto, k1_ifeq, k1_ifne, k1_iflt, k1_ifge, k1_ifgt, k1_ifle, k1_icmpeq, k1_icmpne, k1_icmplt, k1_icmpge, k1_icmpgt, k1_icmple, k3_constI, k3_constJ, k3_constD, gf_5_0, gf_5_1, gf_5_2, gf_5_3, gf_5_4, gf_5_5, pf_5_5, gf_5_6, pf_5_6, gf_5_7, gf_5_8, gf_4_0, gf_4_1, pf_4_1, gf_4_2, pf_4_2, gf_4_3, pf_4_3, gf_4_4, pf_4_4, gf_4_5, pf_4_5, gf_4_6, gf_4_7, pf_4_7, gf_4_8, pf_4_8, gf_4_9, pf_4_9, gf_3_0, gf_3_1, pf_3_1, gf_6_0, gf_6_1, gf_6_2, gf_6_3, gf_6_4, gf_6_5, gf_6_6, gf_6_7, gf_6_8, gf_6_9, gf_6_10, gf_6_11, pf_6_11, gf_6_12, pf_6_12, gf_6_13, gf_6_14, pf_6_14, gf_6_15, pf_6_15, gf_6_16, pf_6_16, gf_6_17, pf_6_17, gf_6_18, pf_6_18, gf_6_19, pf_6_19, gf_6_20, pf_6_20, gf_6_21, pf_6_21, gf_6_22, pf_6_22, gf_6_23, gf_6_24, gf_6_25, gf_6_26, pf_6_26, gf_6_27, gf_6_28, pf_6_28, gf_0_0, pf_0_0, gf_0_1, pf_0_1, gf_0_2, pf_0_2, gf_0_3, pf_0_3, gf_0_4, pf_0_4, gf_2_0, pf_2_0, gf_2_1, pf_2_1, gf_2_2, pf_2_2, gf_2_3, pf_2_3, gf_2_4, pf_2_4, gf_2_5, pf_2_5, gf_2_6, pf_2_6, gf_2_7, pf_2_7, gf_2_8, pf_2_8, gf_2_9, pf_2_9, gf_2_10, pf_2_10, gf_2_11, pf_2_11, gf_2_12, gf_2_13, gf_1_0, pf_1_0, gf_1_1, pf_1_1, gf_1_2, pf_1_2, gf_1_3, pf_1_3, gf_1_4, pf_1_4, gf_1_5, pf_1_5, gf_1_6, pf_1_6, gf_1_7, pf_1_7, gf_1_8, pf_1_8, gf_1_9, pf_1_9, gf_1_10, pf_1_10, gf_1_11, gf_1_12, gf_1_13, al_sl, as_sl, al_ct, as_ct, al_hr, as_hr, al_tx, as_tx, al_rb, as_rb, al_sv, as_sv, al_out, as_out, al_od, al_ha, al_pa, al_ps, al_sn, al_ai, as_ai, al_az, as_az, al_aj, as_aj, ln_hr, kv_rs, kv_tr, kv_rp, kv_md, kv_lk, kv_hh, kv_pg, k4_scrlen, b1, b2, k0]
theorem law_nx {m : Nat × Nat × Nat} {l6 l7 l8 l9 : Option Value} : X xtab sx 239 2204 (LW sx s0 i l6 l7 l8 l9) [] (hp s0 S, m) = X xtab sx 239 28 (LW sx s0 (i + 6) l6 l7 l8 l9) [] (hp s0 S, m) := by
  have e : Int32.ofNat i + 6 = Int32.ofNat (i + 6) := by rw [show (6 : Int32) = Int32.ofNat 6 from rfl, oN_add]
  unfold LW
  rw [← e]
  simp [e_239_2204, e_239_2207, xentry, xent, Value.category, kB1_some, kB1_ite, kB_some, kB_ite, kB3_some, kX_some, kX_ite, kC_ite, kR_ret, kR_thr, kR_ite, kR0_ret, kR0_ite, kW_some, xretv, xst1, xst2, xcl, xsum, upI_1, upI_2, upJ_1, upJ_2, upJ_3, rwI_1, rwI_2, rwJ_1, rwJ_2, rwJ_3, upD_1, upD_2, upI_upI, upJ_upJ, x_mmin, x_mmax, x_objInit, List.length_cons, xmL, k1_iconst, k1_bipush, k1_sipush, k1_lconst, k1_dconst0, k1_dconst1, k1_fconst0, k1_fconst1, k1_iload, k1_lload, k1_aload, k1_dload, k1_fload, k1_istore, k1_lstore, k1_astore, k1_dstore, k1_fstore, k1_iinc, k1_iadd, k1_isub, k1_imul, k1_iand, k1_ixor, k1_ishr, k1_ladd, k1_lsub, k1_lmul, k1_land, k1_lor, k1_lcmp, k1_lshl, k1_lshr, k1_idiv, k1_irem, k1_ldiv, k1_lrem, k1_fdiv, k1_ddiv, k1_f2d, k1_i2l, k1_l2i, k1_i2b, k1_l2d, k1_l2f, k1_dcmpl, k1_dcmpg, k1_fcmpl, k1_fcmpg, k1_dup, k1_pop, k1_dup2, k1_goto, k1_ifeq, k1_ifne, k1_iflt, k1_ifge, k1_ifgt, k1_ifle, k1_icmpeq, k1_icmpne, k1_icmplt, k1_icmpge, k1_icmpgt, k1_icmple, k3_constI, k3_constJ, k3_constD, gf_5_0, gf_5_1, gf_5_2, gf_5_3, gf_5_4, gf_5_5, pf_5_5, gf_5_6, pf_5_6, gf_5_7, gf_5_8, gf_4_0, gf_4_1, pf_4_1, gf_4_2, pf_4_2, gf_4_3, pf_4_3, gf_4_4, pf_4_4, gf_4_5, pf_4_5, gf_4_6, gf_4_7, pf_4_7, gf_4_8, pf_4_8, gf_4_9, pf_4_9, gf_3_0, gf_3_1, pf_3_1, gf_6_0, gf_6_1, gf_6_2, gf_6_3, gf_6_4, gf_6_5, gf_6_6, gf_6_7, gf_6_8, gf_6_9, gf_6_10, gf_6_11, pf_6_11, gf_6_12, pf_6_12, gf_6_13, gf_6_14, pf_6_14, gf_6_15, pf_6_15, gf_6_16, pf_6_16, gf_6_17, pf_6_17, gf_6_18, pf_6_18, gf_6_19, pf_6_19, gf_6_20, pf_6_20, gf_6_21, pf_6_21, gf_6_22, pf_6_22, gf_6_23, gf_6_24, gf_6_25, gf_6_26, pf_6_26, gf_6_27, gf_6_28, pf_6_28, gf_0_0, pf_0_0, gf_0_1, pf_0_1, gf_0_2, pf_0_2, gf_0_3, pf_0_3, gf_0_4, pf_0_4, gf_2_0, pf_2_0, gf_2_1, pf_2_1, gf_2_2, pf_2_2, gf_2_3, pf_2_3, gf_2_4, pf_2_4, gf_2_5, pf_2_5, gf_2_6, pf_2_6, gf_2_7, pf_2_7, gf_2_8, pf_2_8, gf_2_9, pf_2_9, gf_2_10, pf_2_10, gf_2_11, pf_2_11, gf_2_12, gf_2_13, gf_1_0, pf_1_0, gf_1_1, pf_1_1, gf_1_2, pf_1_2, gf_1_3, pf_1_3, gf_1_4, pf_1_4, gf_1_5, pf_1_5, gf_1_6, pf_1_6, gf_1_7, pf_1_7, gf_1_8, pf_1_8, gf_1_9, pf_1_9, gf_1_10, pf_1_10, gf_1_11, gf_1_12, gf_1_13, al_sl, as_sl, al_ct, as_ct, al_hr, as_hr, al_tx, as_tx, al_rb, as_rb, al_sv, as_sv, al_out, as_out, al_od, al_ha, al_pa, al_ps, al_sn, al_ai, as_ai, al_az, as_az, al_aj, as_aj, ln_hr, kv_rs, kv_tr, kv_rp, kv_md, kv_lk, kv_hh, kv_pg]
theorem law_loop (hS : Sok sx) (hL : sx.2.2.2.1 ≤ 3072) : ∀ (d i : Nat) (S : St) (m : Nat × Nat × Nat) (l6 l7 l8 l9 : Option Value), sx.2.2.2.1 < i + 6 + 6 * d → i ≤ 3072 → Inv S → ∃ M' : xM, X xtab sx 239 28 (LW sx s0 i l6 l7 l8 l9) [] (hp s0 S, m) = some (.inl (some (.int 1)), M') ∧ M'.2.2.1 ≤ m.2.1 + d ∧ M'.2.2.2 ≤ m.2.2 + 6 * d := by
  intro d
  induction d with
  | zero =>
    intro i S m l6 l7 l8 l9 h hi hI
    exact ⟨_, law_out hL hi (by omega), Nat.le_refl _, Nat.le_refl _⟩
  | succ d ih =>
    intro i S m l6 l7 l8 l9 h hi hI
    by_cases hx : sx.2.2.2.1 < i + 6
    · exact ⟨_, law_out hL hi hx, by show m.2.1 ≤ _; omega, by show m.2.2 ≤ _; omega⟩
    · have h6 : i + 6 ≤ sx.2.2.2.1 := by omega
      have step : ∃ (S2 : St) (m' : Nat × Nat × Nat) (r6 r7 r8 r9 : Option Value), X xtab sx 239 28 (LW sx s0 i l6 l7 l8 l9) [] (hp s0 S, m) = X xtab sx 239 2204 (LW sx s0 i r6 r7 r8 r9) [] (hp s0 S2, m') ∧ Inv S2 ∧ m'.2.1 ≤ m.2.1 + 1 ∧ m'.2.2 ≤ m.2.2 + 6 := by
        rw [law_in hL h6, e_239_45]
        by_cases hr : (sx.2.2.2.2 i &&& 63).toInt < 0 ∨ 37 < (sx.2.2.2.2 i &&& 63).toInt
        · rw [sw_out hr]
          exact ⟨S, m, l6, l7, l8, l9, rfl, hI, by omega, by omega⟩
        · obtain ⟨k, hk, ek⟩ : ∃ k : Nat, k < 38 ∧ sx.2.2.2.2 i &&& 63 = Int32.ofNat k := by
            refine ⟨(sx.2.2.2.2 i &&& 63).toInt.toNat, by omega, ?_⟩
            apply Int32.toInt_inj.mp
            rw [oN_toInt (by omega)]
            omega
          rw [ek, sw_in hk]
          exact law_case hS h6 hL hI hk m l6 l7 l8 l9
      obtain ⟨S2, m', r6, r7, r8, r9, e1, e2, e3, e4⟩ := step
      obtain ⟨M', f1, f2, f3⟩ := ih (i + 6) S2 m' r6 r7 r8 r9 (by omega) (by omega) e2
      exact ⟨M', by rw [e1, law_nx]; exact f1, by omega, by omega⟩
/-- the start -/
theorem st_a (h0 : s0 ≠ 0) : X xtab sx 239 0 [some (.ref c), none, none, none, none, none, none, none, none, none] [] (H, s0, ce, sl) = X xtab sx 239 4 [some (.ref c), none, none, none, none, none, none, none, none, none] [.ref s0, .ref s0] (xup H s0 (.inr (5, xdef 5)), s0 + 1, ce + 1, sl + 9) := by
  simp [e_239_0, e_239_3, xentry, xent, Value.category, kB1_some, kB1_ite, kB_some, kB_ite, kB3_some, kX_some, kX_ite, kC_ite, kR_ret, kR_thr, kR_ite, kR0_ret, kR0_ite, kW_some, xretv, xst1, xst2, xcl, xsum, upI_1, upI_2, upJ_1, upJ_2, upJ_3, rwI_1, rwI_2, rwJ_1, rwJ_2, rwJ_3, upD_1, upD_2, upI_upI, upJ_upJ, x_mmin, x_mmax, x_objInit, List.length_cons, xmL, k1_iconst, k1_bipush, k1_sipush, k1_lconst, k1_dconst0, k1_dconst1, k1_fconst0, k1_fconst1, k1_iload, k1_lload, k1_aload, k1_dload, k1_fload, k1_istore, k1_lstore, k1_astore, k1_dstore, k1_fstore, k1_iinc, k1_iadd, k1_isub, k1_imul, k1_iand, k1_ixor, k1_ishr, k1_ladd, k1_lsub, k1_lmul, k1_land, k1_lor, k1_lcmp, k1_lshl, k1_lshr, k1_idiv, k1_irem, k1_ldiv, k1_lrem, k1_fdiv, k1_ddiv, k1_f2d, k1_i2l, k1_l2i, k1_i2b, k1_l2d, k1_l2f, k1_dcmpl, k1_dcmpg, k1_fcmpl, k1_fcmpg, k1_dup, k1_pop, k1_dup2, k1_goto, k1_ifeq, k1_ifne, k1_iflt, k1_ifge, k1_ifgt, k1_ifle, k1_icmpeq, k1_icmpne, k1_icmplt, k1_icmpge, k1_icmpgt, k1_icmple, k3_constI, k3_constJ, k3_constD, gf_5_0, gf_5_1, gf_5_2, gf_5_3, gf_5_4, gf_5_5, pf_5_5, gf_5_6, pf_5_6, gf_5_7, gf_5_8, gf_4_0, gf_4_1, pf_4_1, gf_4_2, pf_4_2, gf_4_3, pf_4_3, gf_4_4, pf_4_4, gf_4_5, pf_4_5, gf_4_6, gf_4_7, pf_4_7, gf_4_8, pf_4_8, gf_4_9, pf_4_9, gf_3_0, gf_3_1, pf_3_1, gf_6_0, gf_6_1, gf_6_2, gf_6_3, gf_6_4, gf_6_5, gf_6_6, gf_6_7, gf_6_8, gf_6_9, gf_6_10, gf_6_11, pf_6_11, gf_6_12, pf_6_12, gf_6_13, gf_6_14, pf_6_14, gf_6_15, pf_6_15, gf_6_16, pf_6_16, gf_6_17, pf_6_17, gf_6_18, pf_6_18, gf_6_19, pf_6_19, gf_6_20, pf_6_20, gf_6_21, pf_6_21, gf_6_22, pf_6_22, gf_6_23, gf_6_24, gf_6_25, gf_6_26, pf_6_26, gf_6_27, gf_6_28, pf_6_28, gf_0_0, pf_0_0, gf_0_1, pf_0_1, gf_0_2, pf_0_2, gf_0_3, pf_0_3, gf_0_4, pf_0_4, gf_2_0, pf_2_0, gf_2_1, pf_2_1, gf_2_2, pf_2_2, gf_2_3, pf_2_3, gf_2_4, pf_2_4, gf_2_5, pf_2_5, gf_2_6, pf_2_6, gf_2_7, pf_2_7, gf_2_8, pf_2_8, gf_2_9, pf_2_9, gf_2_10, pf_2_10, gf_2_11, pf_2_11, gf_2_12, gf_2_13, gf_1_0, pf_1_0, gf_1_1, pf_1_1, gf_1_2, pf_1_2, gf_1_3, pf_1_3, gf_1_4, pf_1_4, gf_1_5, pf_1_5, gf_1_6, pf_1_6, gf_1_7, pf_1_7, gf_1_8, pf_1_8, gf_1_9, pf_1_9, gf_1_10, pf_1_10, gf_1_11, gf_1_12, gf_1_13, al_sl, as_sl, al_ct, as_ct, al_hr, as_hr, al_tx, as_tx, al_rb, as_rb, al_sv, as_sv, al_out, as_out, al_od, al_ha, al_pa, al_ps, al_sn, al_ai, as_ai, al_az, as_az, al_aj, as_aj, ln_hr, kv_rs, kv_tr, kv_rp, kv_md, kv_lk, kv_hh, kv_pg, Nat.add_assoc, k3_new, xcN, h0]
theorem st_b : X xtab sx 239 7 [some (.ref c), none, none, none, none, none, none, none, none, none] [.ref s0] (G, s0 + 606, ce, sl) = X xtab sx 239 12 [some (.ref c), some (.ref s0), none, none, none, none, none, none, none, none] [.ref (s0 + 606), .ref (s0 + 606)] (xup G (s0 + 606) (.inr (6, xdef 6)), s0 + 607, ce + 1, sl + 29) := by
  simp [e_239_7, e_239_8, e_239_11, xentry, xent, Value.category, kB1_some, kB1_ite, kB_some, kB_ite, kB3_some, kX_some, kX_ite, kC_ite, kR_ret, kR_thr, kR_ite, kR0_ret, kR0_ite, kW_some, xretv, xst1, xst2, xcl, xsum, upI_1, upI_2, upJ_1, upJ_2, upJ_3, rwI_1, rwI_2, rwJ_1, rwJ_2, rwJ_3, upD_1, upD_2, upI_upI, upJ_upJ, x_mmin, x_mmax, x_objInit, List.length_cons, xmL, k1_iconst, k1_bipush, k1_sipush, k1_lconst, k1_dconst0, k1_dconst1, k1_fconst0, k1_fconst1, k1_iload, k1_lload, k1_aload, k1_dload, k1_fload, k1_istore, k1_lstore, k1_astore, k1_dstore, k1_fstore, k1_iinc, k1_iadd, k1_isub, k1_imul, k1_iand, k1_ixor, k1_ishr, k1_ladd, k1_lsub, k1_lmul, k1_land, k1_lor, k1_lcmp, k1_lshl, k1_lshr, k1_idiv, k1_irem, k1_ldiv, k1_lrem, k1_fdiv, k1_ddiv, k1_f2d, k1_i2l, k1_l2i, k1_i2b, k1_l2d, k1_l2f, k1_dcmpl, k1_dcmpg, k1_fcmpl, k1_fcmpg, k1_dup, k1_pop, k1_dup2, k1_goto, k1_ifeq, k1_ifne, k1_iflt, k1_ifge, k1_ifgt, k1_ifle, k1_icmpeq, k1_icmpne, k1_icmplt, k1_icmpge, k1_icmpgt, k1_icmple, k3_constI, k3_constJ, k3_constD, gf_5_0, gf_5_1, gf_5_2, gf_5_3, gf_5_4, gf_5_5, pf_5_5, gf_5_6, pf_5_6, gf_5_7, gf_5_8, gf_4_0, gf_4_1, pf_4_1, gf_4_2, pf_4_2, gf_4_3, pf_4_3, gf_4_4, pf_4_4, gf_4_5, pf_4_5, gf_4_6, gf_4_7, pf_4_7, gf_4_8, pf_4_8, gf_4_9, pf_4_9, gf_3_0, gf_3_1, pf_3_1, gf_6_0, gf_6_1, gf_6_2, gf_6_3, gf_6_4, gf_6_5, gf_6_6, gf_6_7, gf_6_8, gf_6_9, gf_6_10, gf_6_11, pf_6_11, gf_6_12, pf_6_12, gf_6_13, gf_6_14, pf_6_14, gf_6_15, pf_6_15, gf_6_16, pf_6_16, gf_6_17, pf_6_17, gf_6_18, pf_6_18, gf_6_19, pf_6_19, gf_6_20, pf_6_20, gf_6_21, pf_6_21, gf_6_22, pf_6_22, gf_6_23, gf_6_24, gf_6_25, gf_6_26, pf_6_26, gf_6_27, gf_6_28, pf_6_28, gf_0_0, pf_0_0, gf_0_1, pf_0_1, gf_0_2, pf_0_2, gf_0_3, pf_0_3, gf_0_4, pf_0_4, gf_2_0, pf_2_0, gf_2_1, pf_2_1, gf_2_2, pf_2_2, gf_2_3, pf_2_3, gf_2_4, pf_2_4, gf_2_5, pf_2_5, gf_2_6, pf_2_6, gf_2_7, pf_2_7, gf_2_8, pf_2_8, gf_2_9, pf_2_9, gf_2_10, pf_2_10, gf_2_11, pf_2_11, gf_2_12, gf_2_13, gf_1_0, pf_1_0, gf_1_1, pf_1_1, gf_1_2, pf_1_2, gf_1_3, pf_1_3, gf_1_4, pf_1_4, gf_1_5, pf_1_5, gf_1_6, pf_1_6, gf_1_7, pf_1_7, gf_1_8, pf_1_8, gf_1_9, pf_1_9, gf_1_10, pf_1_10, gf_1_11, gf_1_12, gf_1_13, al_sl, as_sl, al_ct, as_ct, al_hr, as_hr, al_tx, as_tx, al_rb, as_rb, al_sv, as_sv, al_out, as_out, al_od, al_ha, al_pa, al_ps, al_sn, al_ai, as_ai, al_az, as_az, al_aj, as_aj, ln_hr, kv_rs, kv_tr, kv_rp, kv_md, kv_lk, kv_hh, kv_pg, Nat.add_assoc, k3_new, xcN]
theorem st_c : X xtab sx 239 15 [some (.ref c), some (.ref s0), none, none, none, none, none, none, none, none] [.ref (s0 + 606)] (G, s0 + 623, ce, sl) = X xtab sx 239 28 [some (.ref c), some (.ref s0), some (.ref (s0 + 606)), some (.ref (s0 + 623)), some (.ref (s0 + 624)), some (.int 0), none, none, none, none] [] (xup (xup G (s0 + 623) (.inl (1, 1, .inr (.inl (fun _ => 0))))) (s0 + 624) (.inl (4, 1, .inr (.inr (.inr (.inl (fun _ => 0)))))), s0 + 625, ce + 2, sl + 2) := by
  simp [e_239_15, e_239_16, e_239_17, e_239_19, e_239_20, e_239_21, e_239_23, e_239_25, e_239_26, xentry, xent, Value.category, kB1_some, kB1_ite, kB_some, kB_ite, kB3_some, kX_some, kX_ite, kC_ite, kR_ret, kR_thr, kR_ite, kR0_ret, kR0_ite, kW_some, xretv, xst1, xst2, xcl, xsum, upI_1, upI_2, upJ_1, upJ_2, upJ_3, rwI_1, rwI_2, rwJ_1, rwJ_2, rwJ_3, upD_1, upD_2, upI_upI, upJ_upJ, x_mmin, x_mmax, x_objInit, List.length_cons, xmL, k1_iconst, k1_bipush, k1_sipush, k1_lconst, k1_dconst0, k1_dconst1, k1_fconst0, k1_fconst1, k1_iload, k1_lload, k1_aload, k1_dload, k1_fload, k1_istore, k1_lstore, k1_astore, k1_dstore, k1_fstore, k1_iinc, k1_iadd, k1_isub, k1_imul, k1_iand, k1_ixor, k1_ishr, k1_ladd, k1_lsub, k1_lmul, k1_land, k1_lor, k1_lcmp, k1_lshl, k1_lshr, k1_idiv, k1_irem, k1_ldiv, k1_lrem, k1_fdiv, k1_ddiv, k1_f2d, k1_i2l, k1_l2i, k1_i2b, k1_l2d, k1_l2f, k1_dcmpl, k1_dcmpg, k1_fcmpl, k1_fcmpg, k1_dup, k1_pop, k1_dup2, k1_goto, k1_ifeq, k1_ifne, k1_iflt, k1_ifge, k1_ifgt, k1_ifle, k1_icmpeq, k1_icmpne, k1_icmplt, k1_icmpge, k1_icmpgt, k1_icmple, k3_constI, k3_constJ, k3_constD, gf_5_0, gf_5_1, gf_5_2, gf_5_3, gf_5_4, gf_5_5, pf_5_5, gf_5_6, pf_5_6, gf_5_7, gf_5_8, gf_4_0, gf_4_1, pf_4_1, gf_4_2, pf_4_2, gf_4_3, pf_4_3, gf_4_4, pf_4_4, gf_4_5, pf_4_5, gf_4_6, gf_4_7, pf_4_7, gf_4_8, pf_4_8, gf_4_9, pf_4_9, gf_3_0, gf_3_1, pf_3_1, gf_6_0, gf_6_1, gf_6_2, gf_6_3, gf_6_4, gf_6_5, gf_6_6, gf_6_7, gf_6_8, gf_6_9, gf_6_10, gf_6_11, pf_6_11, gf_6_12, pf_6_12, gf_6_13, gf_6_14, pf_6_14, gf_6_15, pf_6_15, gf_6_16, pf_6_16, gf_6_17, pf_6_17, gf_6_18, pf_6_18, gf_6_19, pf_6_19, gf_6_20, pf_6_20, gf_6_21, pf_6_21, gf_6_22, pf_6_22, gf_6_23, gf_6_24, gf_6_25, gf_6_26, pf_6_26, gf_6_27, gf_6_28, pf_6_28, gf_0_0, pf_0_0, gf_0_1, pf_0_1, gf_0_2, pf_0_2, gf_0_3, pf_0_3, gf_0_4, pf_0_4, gf_2_0, pf_2_0, gf_2_1, pf_2_1, gf_2_2, pf_2_2, gf_2_3, pf_2_3, gf_2_4, pf_2_4, gf_2_5, pf_2_5, gf_2_6, pf_2_6, gf_2_7, pf_2_7, gf_2_8, pf_2_8, gf_2_9, pf_2_9, gf_2_10, pf_2_10, gf_2_11, pf_2_11, gf_2_12, gf_2_13, gf_1_0, pf_1_0, gf_1_1, pf_1_1, gf_1_2, pf_1_2, gf_1_3, pf_1_3, gf_1_4, pf_1_4, gf_1_5, pf_1_5, gf_1_6, pf_1_6, gf_1_7, pf_1_7, gf_1_8, pf_1_8, gf_1_9, pf_1_9, gf_1_10, pf_1_10, gf_1_11, gf_1_12, gf_1_13, al_sl, as_sl, al_ct, as_ct, al_hr, as_hr, al_tx, as_tx, al_rb, as_rb, al_sv, as_sv, al_out, as_out, al_od, al_ha, al_pa, al_ps, al_sn, al_ai, as_ai, al_az, as_az, al_aj, as_aj, ln_hr, kv_rs, kv_tr, kv_rp, kv_md, kv_lk, kv_hh, kv_pg, Nat.add_assoc, k3_newa1, k3_newa4]
theorem law_start (h0 : s0 ≠ 0) : X xtab sx 239 0 (xentry 10 [.ref sx.2.2.1]) [] (fun _ => none, s0, 0, 0) = X xtab sx 239 28 (LW sx s0 0 none none none none) [] (hp s0 S00, s0 + 625, 625, 16122) := by
  have a1 := x1 (sx := sx) (s0 := s0) (ce := 1) (sl := 9) h0
  have a2 := x49 (sx := sx) (s0 := s0) (P := hn s0) (ce := 607) (sl := 8308) (PF_le PF_0 (by decide))
  have e1 : xentry 10 [.ref sx.2.2.1] = [some (.ref sx.2.2.1), none, none, none, none, none, none, none, none, none] := rfl
  have p1 := (PF_0 (s0 := s0)).1 623 (9, 0, 0) (by decide) rfl rfl
  have p2 := (PF_0 (s0 := s0)).1 624 (10, 0, 0) (by decide) rfl rfl
  rw [← p1] at p2
  have c1 : cel s0 S00 (9, 0, 0) = .inl (1, 1, .inr (.inl (fun _ => 0))) := rfl
  have c2 : cel s0 S00 (10, 0, 0) = .inl (4, 1, .inr (.inr (.inr (.inl (fun _ => 0))))) := rfl
  rw [c1, c2] at p2
  rw [e1, st_a h0, e_239_4]
  simp only [xentry, xent, Value.category]
  have k1 : ∀ (f : Option Value → xM → Option xR), kC 2 [.ref s0] [.ref s0] (kR0 (X xtab sx 1 0 [some (.ref s0), none] [] (xup (fun _ => none) s0 (.inr (5, xdef 5)), s0 + 1, 0 + 1, 0 + 9)) f) = f none (hn s0 606, s0 + 606, 606, 8279) := fun f => by
    rw [show (0 + 1 : Nat) = 1 from rfl, show (0 + 9 : Nat) = 9 from rfl, a1]
    rfl
  have k2 : ∀ (f : Option Value → xM → Option xR), kC 1 [.ref (s0 + 606)] [.ref (s0 + 606)] (kR0 (X xtab sx 49 0 [some (.ref (s0 + 606))] [] (xup (hn s0 606) (s0 + 606) (.inr (6, xdef 6)), s0 + 607, 606 + 1, 8279 + 29)) f) = f none (hn s0 623, s0 + 623, 623, 16120) := fun f => by
    rw [show (606 + 1 : Nat) = 607 from rfl, show (8279 + 29 : Nat) = 8308 from rfl, a2]
    rfl
  refine (k1 _).trans ?_
  show X xtab sx 239 7 [some (.ref sx.2.2.1), none, none, none, none, none, none, none, none, none] [.ref s0] (hn s0 606, s0 + 606, 606, 8279) = _
  rw [st_b, e_239_12]
  refine (k2 _).trans ?_
  show X xtab sx 239 15 [some (.ref sx.2.2.1), some (.ref s0), none, none, none, none, none, none, none, none] [.ref (s0 + 606)] (hn s0 623, s0 + 623, 623, 16120) = _
  rw [st_c, p2, hn_all]
  rfl
theorem Inv_00 : Inv S00 := by
  refine ⟨0, 0, 0, 0, 0, 0, 0, ⟨⟨⟨fun g hg => ?_, fun h w hh => absurd hh (Nat.not_lt_zero h), fun p w hp => absurd hp (Nat.not_lt_zero p), fun p w hp => absurd hp (Nat.not_lt_zero p), fun p w hp => absurd hp (Nat.not_lt_zero p), fun p hp => absurd hp (Nat.not_lt_zero p), fun q h _ hh => absurd hh (Nat.not_lt_zero h), fun h hh => absurd hh (Nat.not_lt_zero h), fun p hp => absurd hp (Nat.not_lt_zero p)⟩, Num_iff.mpr ⟨by decide, by decide, ⟨by decide, by decide, by decide, by decide, by decide⟩, fun p hp => absurd hp (Nat.not_lt_zero p), fun h hh => absurd hh (Nat.not_lt_zero h)⟩, ⟨fun p hp => absurd hp (Nat.not_lt_zero p), fun h hh => absurd hh (Nat.not_lt_zero h), fun z h _ hh => absurd hh (Nat.not_lt_zero h)⟩, ⟨by decide, by decide, by decide, rfl, rfl, rfl, fun p hp => absurd hp (Nat.not_lt_zero p), fun p hp => absurd hp (Nat.not_lt_zero p)⟩, Or.inl rfl⟩, by decide⟩, ⟨rfl, by decide, rfl, by decide, rfl⟩, fun i hi => absurd hi (Nat.not_lt_zero i), fun i hi => ⟨Or.inl rfl, rfl, fun e => ?_⟩, ⟨by decide, rfl, rfl, fun i hi => absurd hi (Nat.not_lt_zero i)⟩, ⟨by decide, rfl, rfl, fun i hi => absurd hi (Nat.not_lt_zero i)⟩, ⟨fun h _ => ⟨rfl, rfl⟩, fun p _ => ⟨rfl, fun w _ => rfl, fun w _ => rfl⟩, fun z _ => rfl, fun g h1 h2 => ?_⟩⟩
  · rcases (show g = 0 ∨ g = 1 ∨ g = 2 ∨ g = 3 ∨ g = 4 ∨ g = 5 ∨ g = 6 ∨ g = 7 ∨ g = 8 ∨ g = 9 ∨ g = 10 by omega) with e | e | e | e | e | e | e | e | e | e | e <;> subst e <;> rfl
  · have e0 : S00.1 (7, 0, 0) i = 0 := rfl
    rw [e0] at e
    exact absurd e (by decide)
  · rcases (show g = 5 ∨ g = 6 ∨ g = 7 ∨ g = 8 by omega) with e | e | e | e <;> subst e <;> rfl
theorem law_run0 : lawRun := by
  intro sx s0 h0 hstr hlt hL
  obtain ⟨M', f1, f2, f3⟩ := law_loop (sx := sx) (s0 := s0) hstr hL 512 0 S00 (s0 + 625, 625, 16122) none none none none (by omega) (by omega) Inv_00
  refine ⟨M', ?_, ?_, ?_⟩
  · rw [law_start h0]; exact f1
  · have : M'.2.2.1 ≤ 625 + 512 := f2
    omega
  · have : M'.2.2.2 ≤ 16122 + 6 * 512 := f3
    omega
end LOOP
