section CT1
variable {sx : xSx} {s0 k i j n r nx ce sl a b d e p c : Nat} {H G : xH} {P : Nat → xH} {fs : List Value} {M2 : Nat × Nat × Nat} {u v w z : xC}
/-! THE CONSTRUCTORS: the heap grows -/
theorem xu_app {q : Nat} : xup H a u q = if q = a then some u else H q := rfl
theorem xu_u : xup (xup H a u) a v = xup H a v := by
  funext q
  unfold xup
  by_cases h : q = a <;> simp [h]
theorem xu_c (h : a ≠ b) : xup (xup H a u) b v = xup (xup H b v) a u := by
  funext q
  unfold xup
  by_cases h1 : q = a
  · subst h1; simp [h]
  · simp [h1]
theorem xu_r (h : a ≠ b) : xup (xup (xup H a u) b v) a w = xup (xup H a w) b v := by rw [xu_c h, xu_u, xu_c (Ne.symm h)]
theorem xu_r2 (h : a ≠ b) (h2 : a ≠ d) : xup (xup (xup (xup H a u) b v) d z) a w = xup (xup (xup H a w) b v) d z := by rw [xu_c (a := d) (b := a) (Ne.symm h2), xu_r h]
theorem xu_r3 (h : a ≠ b) (h2 : a ≠ d) (h3 : a ≠ e) {y : xC} : xup (xup (xup (xup (xup H a u) b v) d z) e y) a w = xup (xup (xup (xup H a w) b v) d z) e y := by rw [xu_c (a := e) (b := a) (Ne.symm h3), xu_r2 h h2]
theorem xu_id (h : H a = some u) : xup H a u = H := by
  funext q
  unfold xup
  by_cases h1 : q = a
  · rw [if_pos h1, h1, h]
  · rw [if_neg h1]
/-- the state behind the constructors -/
def S00 : St := (fun o f => if o.1 = 12 then (if f = 0 then 100 else if f = 1 then 80 else if f < 5 then 1 else 0) else if o.1 = 16 then (if f = 1 then 1 else 0) else if o.1 = 17 then (if f = 11 then 1 else 0) else if o = (11, 0, 0) then (if f = 2 then 100 else if f = 3 then 80 else if f = 4 ∨ f = 5 ∨ f = 6 then 1 else 0) else 0, fun _ _ => 0, fun _ => 0)
/-- its first cells -/
def hn (s0 n : Nat) : xH := fun q => if q < s0 + n then hp s0 S00 q else none
def PF (s0 : Nat) (P : Nat → xH) (d : Nat) : Prop := (∀ n o, d ≤ n → oko o = true → adz o = n → xup (P n) (s0 + n) (cel s0 S00 o) = P (n + 1)) ∧ (∀ n o, oko o = true → d ≤ adz o → adz o < n → P n (adr s0 o) = some (cel s0 S00 o))
theorem PF_0 : PF s0 (hn s0) 0 := by
  refine ⟨fun n o _ h1 h2 => ?_, fun n o h1 _ h2 => ?_⟩
  · funext q
    unfold xup hn
    by_cases hq : q = s0 + n
    · rw [if_pos hq, if_pos (by omega), hq, ← h2]
      exact (hp_at h1).symm
    · rw [if_neg hq]
      by_cases h3 : q < s0 + n
      · rw [if_pos h3, if_pos (by omega)]
      · rw [if_neg h3, if_neg (by omega)]
  · unfold hn
    rw [if_pos (by unfold adr; omega)]
    exact hp_at h1
theorem PF_u (h : PF s0 P d) (ha : a < d) : PF s0 (fun n => xup (P n) (s0 + a) u) d := by
  refine ⟨fun n o h1 h2 h3 => ?_, fun n o h1 h2 h3 => ?_⟩
  · show xup (xup (P n) (s0 + a) u) (s0 + n) (cel s0 S00 o) = xup (P (n + 1)) (s0 + a) u
    rw [xu_c (by omega), h.1 n o h1 h2 h3]
  · show xup (P n) (s0 + a) u (adr s0 o) = _
    rw [xu_app, if_neg (by unfold adr; omega), h.2 n o h1 h2 h3]
theorem PF_le (h : PF s0 P d) (hd : d ≤ e) : PF s0 P e := ⟨fun n o h1 => h.1 n o (by omega), fun n o h1 h2 => h.2 n o h1 (by omega)⟩
theorem hn_0 : hn s0 0 = fun _ => none := by
  funext q
  unfold hn hp
  by_cases h : q < s0
  · rw [if_pos (show q < s0 + 0 from h), if_pos h]
  · rw [if_neg (show ¬ q < s0 + 0 from h)]
theorem hn_all : hn s0 625 = hp s0 S00 := by
  funext q
  unfold hn
  by_cases h : q < s0 + 625
  · rw [if_pos h]
  · rw [if_neg h]
    unfold hp
    rw [if_neg (by omega), List.getElem?_eq_none (by rw [obs_len]; omega)]
    rfl
theorem xd0 : xdef 0 = [.long 0, .int 0, .int 0, .int 0, .int 0] := rfl
theorem xd2 : xdef 2 = [.long 0, .int 0, .int 0, .int 0, .int 0, .int 0, .int 0, .int 0, .int 0, .int 0, .int 0, .int 0, .null, .null] := rfl
theorem xd1 : xdef 1 = [.int 0, .int 0, .int 0, .int 0, .int 0, .int 0, .int 0, .int 0, .int 0, .int 0, .int 0, .null, .null, .null] := rfl
theorem xd3 : xdef 3 = [.null, .int 0] := rfl
theorem xd4 : xdef 4 = [.null, .int 0, .int 0, .int 0, .long 0, .int 0, .null, .int 0, .int 0, .int 0] := rfl
theorem xd5 : xdef 5 = [.null, .null, .null, .null, .null, .int 0, .int 0, .null, .null] := rfl
theorem x155 : X xtab sx 155 0 [some (.ref r)] [] (xup H r (.inr (0, xdef 0)), M2) = some (.inl none, (xup H r (.inr (0, [.long 0, .int 1, .int 0, .int 0, .int 0])), M2)) := by
  rw [xd0]
  simp [e_155_0, e_155_1, e_155_4, e_155_5, e_155_6, e_155_9, e_155_10, e_155_11, e_155_14, e_155_15, e_155_16, e_155_19, e_155_20, e_155_21, e_155_24, e_155_25, e_155_26, e_155_29, xentry, xent, Value.category, kB1_some, kB1_ite, kB_some, kB_ite, kB3_some, kX_some, kX_ite, kC_ite, kR_ret, kR_thr, kR_ite, kR0_ret, kR0_ite, kW_some, xretv, xst1, xst2, xcl, xsum, upI_1, upI_2, upJ_1, upJ_2, upJ_3, rwI_1, rwI_2, rwJ_1, rwJ_2, rwJ_3, upD_1, upD_2, upI_upI, upJ_upJ, x_mmin, x_mmax, x_objInit, List.length_cons, xmL, k1_iconst, k1_bipush, k1_sipush, k1_lconst, k1_dconst0, k1_dconst1, k1_fconst0, k1_fconst1, k1_iload, k1_lload, k1_aload, k1_dload, k1_fload, k1_istore, k1_lstore, k1_astore, k1_dstore, k1_fstore, k1_iinc, k1_iadd, k1_isub, k1_imul, k1_iand, k1_ixor, k1_ishr, k1_ladd, k1_lsub, k1_lmul, k1_land, k1_lor, k1_lcmp, k1_lshl, k1_lshr, k1_idiv, k1_irem, k1_ldiv, k1_lrem, k1_fdiv, k1_ddiv, k1_f2d, k1_i2l, k1_l2i, k1_i2b, k1_l2d, k1_l2f, k1_dcmpl, k1_dcmpg, k1_fcmpl, k1_fcmpg, k1_dup, k1_pop, k1_dup2, k1_goto, k1_ifeq, k1_ifne, k1_iflt, k1_ifge, k1_ifgt, k1_ifle, k1_icmpeq, k1_icmpne, k1_icmplt, k1_icmpge, k1_icmpgt, k1_icmple, k3_constI, k3_constJ, k3_constD, gf_5_0, gf_5_1, gf_5_2, gf_5_3, gf_5_4, gf_5_5, pf_5_5, gf_5_6, pf_5_6, gf_5_7, gf_5_8, gf_4_0, gf_4_1, pf_4_1, gf_4_2, pf_4_2, gf_4_3, pf_4_3, gf_4_4, pf_4_4, gf_4_5, pf_4_5, gf_4_6, gf_4_7, pf_4_7, gf_4_8, pf_4_8, gf_4_9, pf_4_9, gf_3_0, gf_3_1, pf_3_1, gf_6_0, gf_6_1, gf_6_2, gf_6_3, gf_6_4, gf_6_5, gf_6_6, gf_6_7, gf_6_8, gf_6_9, gf_6_10, gf_6_11, pf_6_11, gf_6_12, pf_6_12, gf_6_13, gf_6_14, pf_6_14, gf_6_15, pf_6_15, gf_6_16, pf_6_16, gf_6_17, pf_6_17, gf_6_18, pf_6_18, gf_6_19, pf_6_19, gf_6_20, pf_6_20, gf_6_21, pf_6_21, gf_6_22, pf_6_22, gf_6_23, gf_6_24, gf_6_25, gf_6_26, pf_6_26, gf_6_27, gf_6_28, pf_6_28, gf_0_0, pf_0_0, gf_0_1, pf_0_1, gf_0_2, pf_0_2, gf_0_3, pf_0_3, gf_0_4, pf_0_4, gf_2_0, pf_2_0, gf_2_1, pf_2_1, gf_2_2, pf_2_2, gf_2_3, pf_2_3, gf_2_4, pf_2_4, gf_2_5, pf_2_5, gf_2_6, pf_2_6, gf_2_7, pf_2_7, gf_2_8, pf_2_8, gf_2_9, pf_2_9, gf_2_10, pf_2_10, gf_2_11, pf_2_11, gf_2_12, gf_2_13, gf_1_0, pf_1_0, gf_1_1, pf_1_1, gf_1_2, pf_1_2, gf_1_3, pf_1_3, gf_1_4, pf_1_4, gf_1_5, pf_1_5, gf_1_6, pf_1_6, gf_1_7, pf_1_7, gf_1_8, pf_1_8, gf_1_9, pf_1_9, gf_1_10, pf_1_10, gf_1_11, gf_1_12, gf_1_13, al_sl, as_sl, al_ct, as_ct, al_hr, as_hr, al_tx, as_tx, al_rb, as_rb, al_sv, as_sv, al_out, as_out, al_od, al_ha, al_pa, al_ps, al_sn, al_ai, as_ai, al_az, as_az, al_aj, as_aj, ln_hr, kv_rs, kv_tr, kv_rp, kv_md, kv_lk, kv_hh, kv_pg, k3_new, k3_newa0, k3_newa1, k3_newa2, k3_newa3, k3_newa4, k3_anew5, k3_anew6, k3_anew7, k2_putf, k2_putff, k2_getf, k2_aast5, k2_aast6, k2_aast7, k2_iast, xu_app, xu_u, xfit, xcty, xcN, tyX0, tyX1, tyX2, tyX3, tyX4, tyX5, tyX6]
def cPg (r : Nat) : xC := .inr (2, [.long 0, .int 0, .int 0, .int 0, .int 0, .int 0, .int 0, .int 0, .int 0, .int 0, .int 0, .int 1, .ref (r + 1), .ref (r + 2)])
theorem x180 : X xtab sx 180 0 [some (.ref r)] [] (xup H r (.inr (2, xdef 2)), r + 1, ce, sl) = some (.inl none, (xup (xup (xup H r (cPg r)) (r + 1) (.inl (0, 6, .inl (fun _ => 0)))) (r + 2) (.inl (1, 8, .inr (.inl (fun _ => 0)))), r + 3, ce + 2, sl + 14)) := by
  rw [xd2]
  unfold cPg
  simp [e_180_0, e_180_1, e_180_4, e_180_5, e_180_6, e_180_9, e_180_10, e_180_11, e_180_14, e_180_15, e_180_16, e_180_19, e_180_20, e_180_21, e_180_24, e_180_25, e_180_26, e_180_29, e_180_30, e_180_31, e_180_34, e_180_35, e_180_36, e_180_39, e_180_40, e_180_41, e_180_44, e_180_45, e_180_46, e_180_49, e_180_50, e_180_51, e_180_54, e_180_55, e_180_56, e_180_59, e_180_60, e_180_61, e_180_64, e_180_65, e_180_67, e_180_69, e_180_72, e_180_73, e_180_75, e_180_77, e_180_80, xentry, xent, Value.category, kB1_some, kB1_ite, kB_some, kB_ite, kB3_some, kX_some, kX_ite, kC_ite, kR_ret, kR_thr, kR_ite, kR0_ret, kR0_ite, kW_some, xretv, xst1, xst2, xcl, xsum, upI_1, upI_2, upJ_1, upJ_2, upJ_3, rwI_1, rwI_2, rwJ_1, rwJ_2, rwJ_3, upD_1, upD_2, upI_upI, upJ_upJ, x_mmin, x_mmax, x_objInit, List.length_cons, xmL, k1_iconst, k1_bipush, k1_sipush, k1_lconst, k1_dconst0, k1_dconst1, k1_fconst0, k1_fconst1, k1_iload, k1_lload, k1_aload, k1_dload, k1_fload, k1_istore, k1_lstore, k1_astore, k1_dstore, k1_fstore, k1_iinc, k1_iadd, k1_isub, k1_imul, k1_iand, k1_ixor, k1_ishr, k1_ladd, k1_lsub, k1_lmul, k1_land, k1_lor, k1_lcmp, k1_lshl, k1_lshr, k1_idiv, k1_irem, k1_ldiv, k1_lrem, k1_fdiv, k1_ddiv, k1_f2d, k1_i2l, k1_l2i, k1_i2b, k1_l2d, k1_l2f, k1_dcmpl, k1_dcmpg, k1_fcmpl, k1_fcmpg, k1_dup, k1_pop, k1_dup2, k1_goto, k1_ifeq, k1_ifne, k1_iflt, k1_ifge, k1_ifgt, k1_ifle, k1_icmpeq, k1_icmpne, k1_icmplt, k1_icmpge, k1_icmpgt, k1_icmple, k3_constI, k3_constJ, k3_constD, gf_5_0, gf_5_1, gf_5_2, gf_5_3, gf_5_4, gf_5_5, pf_5_5, gf_5_6, pf_5_6, gf_5_7, gf_5_8, gf_4_0, gf_4_1, pf_4_1, gf_4_2, pf_4_2, gf_4_3, pf_4_3, gf_4_4, pf_4_4, gf_4_5, pf_4_5, gf_4_6, gf_4_7, pf_4_7, gf_4_8, pf_4_8, gf_4_9, pf_4_9, gf_3_0, gf_3_1, pf_3_1, gf_6_0, gf_6_1, gf_6_2, gf_6_3, gf_6_4, gf_6_5, gf_6_6, gf_6_7, gf_6_8, gf_6_9, gf_6_10, gf_6_11, pf_6_11, gf_6_12, pf_6_12, gf_6_13, gf_6_14, pf_6_14, gf_6_15, pf_6_15, gf_6_16, pf_6_16, gf_6_17, pf_6_17, gf_6_18, pf_6_18, gf_6_19, pf_6_19, gf_6_20, pf_6_20, gf_6_21, pf_6_21, gf_6_22, pf_6_22, gf_6_23, gf_6_24, gf_6_25, gf_6_26, pf_6_26, gf_6_27, gf_6_28, pf_6_28, gf_0_0, pf_0_0, gf_0_1, pf_0_1, gf_0_2, pf_0_2, gf_0_3, pf_0_3, gf_0_4, pf_0_4, gf_2_0, pf_2_0, gf_2_1, pf_2_1, gf_2_2, pf_2_2, gf_2_3, pf_2_3, gf_2_4, pf_2_4, gf_2_5, pf_2_5, gf_2_6, pf_2_6, gf_2_7, pf_2_7, gf_2_8, pf_2_8, gf_2_9, pf_2_9, gf_2_10, pf_2_10, gf_2_11, pf_2_11, gf_2_12, gf_2_13, gf_1_0, pf_1_0, gf_1_1, pf_1_1, gf_1_2, pf_1_2, gf_1_3, pf_1_3, gf_1_4, pf_1_4, gf_1_5, pf_1_5, gf_1_6, pf_1_6, gf_1_7, pf_1_7, gf_1_8, pf_1_8, gf_1_9, pf_1_9, gf_1_10, pf_1_10, gf_1_11, gf_1_12, gf_1_13, al_sl, as_sl, al_ct, as_ct, al_hr, as_hr, al_tx, as_tx, al_rb, as_rb, al_sv, as_sv, al_out, as_out, al_od, al_ha, al_pa, al_ps, al_sn, al_ai, as_ai, al_az, as_az, al_aj, as_aj, ln_hr, kv_rs, kv_tr, kv_rp, kv_md, kv_lk, kv_hh, kv_pg, k3_new, k3_newa0, k3_newa1, k3_newa2, k3_newa3, k3_newa4, k3_anew5, k3_anew6, k3_anew7, k2_putf, k2_putff, k2_getf, k2_aast5, k2_aast6, k2_aast7, k2_iast, xu_app, xu_u, xfit, xcty, xcN, tyX0, tyX1, tyX2, tyX3, tyX4, tyX5, tyX6, Nat.add_assoc, xu_r, xu_r2]
def cLk (r : Nat) : xC := .inr (1, [.int 100, .int 80, .int 1, .int 1, .int 1, .int 0, .int 0, .int 0, .int 0, .int 0, .int 0, .ref (r + 1), .ref (r + 2), .ref (r + 3)])
theorem x157_a : X xtab sx 157 0 [some (.ref r), none] [] (xup H r (.inr (1, xdef 1)), r + 1, ce, sl) = X xtab sx 157 90 [some (.ref r), some (.int 0)] [] (xup (xup (xup (xup H r (cLk r)) (r + 1) (.inl (5, 6, .inr (.inr (.inr (.inr (fun _ => none))))))) (r + 2) (.inl (6, 12, .inr (.inr (.inr (.inr (fun _ => none))))))) (r + 3) (.inl (0, 144, .inl (fun _ => 0))), r + 4, ce + 3, sl + 162) := by
  rw [xd1]
  unfold cLk
  simp [e_157_0, e_157_1, e_157_4, e_157_5, e_157_7, e_157_10, e_157_11, e_157_13, e_157_16, e_157_17, e_157_18, e_157_21, e_157_22, e_157_23, e_157_26, e_157_27, e_157_28, e_157_31, e_157_32, e_157_33, e_157_36, e_157_37, e_157_38, e_157_41, e_157_42, e_157_43, e_157_46, e_157_47, e_157_48, e_157_51, e_157_52, e_157_53, e_157_56, e_157_57, e_157_58, e_157_61, e_157_62, e_157_64, e_157_67, e_157_70, e_157_71, e_157_73, e_157_76, e_157_79, e_157_80, e_157_83, e_157_85, e_157_88, e_157_89, xentry, xent, Value.category, kB1_some, kB1_ite, kB_some, kB_ite, kB3_some, kX_some, kX_ite, kC_ite, kR_ret, kR_thr, kR_ite, kR0_ret, kR0_ite, kW_some, xretv, xst1, xst2, xcl, xsum, upI_1, upI_2, upJ_1, upJ_2, upJ_3, rwI_1, rwI_2, rwJ_1, rwJ_2, rwJ_3, upD_1, upD_2, upI_upI, upJ_upJ, x_mmin, x_mmax, x_objInit, List.length_cons, xmL, k1_iconst, k1_bipush, k1_sipush, k1_lconst, k1_dconst0, k1_dconst1, k1_fconst0, k1_fconst1, k1_iload, k1_lload, k1_aload, k1_dload, k1_fload, k1_istore, k1_lstore, k1_astore, k1_dstore, k1_fstore, k1_iinc, k1_iadd, k1_isub, k1_imul, k1_iand, k1_ixor, k1_ishr, k1_ladd, k1_lsub, k1_lmul, k1_land, k1_lor, k1_lcmp, k1_lshl, k1_lshr, k1_idiv, k1_irem, k1_ldiv, k1_lrem, k1_fdiv, k1_ddiv, k1_f2d, k1_i2l, k1_l2i, k1_i2b, k1_l2d, k1_l2f, k1_dcmpl, k1_dcmpg, k1_fcmpl, k1_fcmpg, k1_dup, k1_pop, k1_dup2, k1_goto, k1_ifeq, k1_ifne, k1_iflt, k1_ifge, k1_ifgt, k1_ifle, k1_icmpeq, k1_icmpne, k1_icmplt, k1_icmpge, k1_icmpgt, k1_icmple, k3_constI, k3_constJ, k3_constD, gf_5_0, gf_5_1, gf_5_2, gf_5_3, gf_5_4, gf_5_5, pf_5_5, gf_5_6, pf_5_6, gf_5_7, gf_5_8, gf_4_0, gf_4_1, pf_4_1, gf_4_2, pf_4_2, gf_4_3, pf_4_3, gf_4_4, pf_4_4, gf_4_5, pf_4_5, gf_4_6, gf_4_7, pf_4_7, gf_4_8, pf_4_8, gf_4_9, pf_4_9, gf_3_0, gf_3_1, pf_3_1, gf_6_0, gf_6_1, gf_6_2, gf_6_3, gf_6_4, gf_6_5, gf_6_6, gf_6_7, gf_6_8, gf_6_9, gf_6_10, gf_6_11, pf_6_11, gf_6_12, pf_6_12, gf_6_13, gf_6_14, pf_6_14, gf_6_15, pf_6_15, gf_6_16, pf_6_16, gf_6_17, pf_6_17, gf_6_18, pf_6_18, gf_6_19, pf_6_19, gf_6_20, pf_6_20, gf_6_21, pf_6_21, gf_6_22, pf_6_22, gf_6_23, gf_6_24, gf_6_25, gf_6_26, pf_6_26, gf_6_27, gf_6_28, pf_6_28, gf_0_0, pf_0_0, gf_0_1, pf_0_1, gf_0_2, pf_0_2, gf_0_3, pf_0_3, gf_0_4, pf_0_4, gf_2_0, pf_2_0, gf_2_1, pf_2_1, gf_2_2, pf_2_2, gf_2_3, pf_2_3, gf_2_4, pf_2_4, gf_2_5, pf_2_5, gf_2_6, pf_2_6, gf_2_7, pf_2_7, gf_2_8, pf_2_8, gf_2_9, pf_2_9, gf_2_10, pf_2_10, gf_2_11, pf_2_11, gf_2_12, gf_2_13, gf_1_0, pf_1_0, gf_1_1, pf_1_1, gf_1_2, pf_1_2, gf_1_3, pf_1_3, gf_1_4, pf_1_4, gf_1_5, pf_1_5, gf_1_6, pf_1_6, gf_1_7, pf_1_7, gf_1_8, pf_1_8, gf_1_9, pf_1_9, gf_1_10, pf_1_10, gf_1_11, gf_1_12, gf_1_13, al_sl, as_sl, al_ct, as_ct, al_hr, as_hr, al_tx, as_tx, al_rb, as_rb, al_sv, as_sv, al_out, as_out, al_od, al_ha, al_pa, al_ps, al_sn, al_ai, as_ai, al_az, as_az, al_aj, as_aj, ln_hr, kv_rs, kv_tr, kv_rp, kv_md, kv_lk, kv_hh, kv_pg, k3_new, k3_newa0, k3_newa1, k3_newa2, k3_newa3, k3_newa4, k3_anew5, k3_anew6, k3_anew7, k2_putf, k2_putff, k2_getf, k2_aast5, k2_aast6, k2_aast7, k2_iast, xu_app, xu_u, xfit, xcty, xcN, tyX0, tyX1, tyX2, tyX3, tyX4, tyX5, tyX6, Nat.add_assoc, xu_r, xu_r2, xu_r3]
/-- the arrays of a link while they fill -/
def arH (s0 k i : Nat) : xC := .inl (5, 6, .inr (.inr (.inr (.inr (fun q => if q < i then some (adr s0 (16, k, q)) else none)))))
def arP (s0 k i : Nat) : xC := .inl (6, 12, .inr (.inr (.inr (.inr (fun q => if q < i then some (adr s0 (17, k, q)) else none)))))
def hA (s0 k : Nat) (P : Nat → xH) (i j n : Nat) : xH := xup (xup (P n) (s0 + lb k + 1) (arH s0 k i)) (s0 + lb k + 2) (arP s0 k j)
theorem oko_k (hk : k < 13) : oko (12, k, 0) = true ∧ oko (13, k, 0) = true ∧ oko (14, k, 0) = true ∧ oko (15, k, 0) = true := ⟨by simp [oko, hk], by simp [oko, hk], by simp [oko, hk], by simp [oko, hk]⟩
theorem cel_lk : cel s0 S00 (12, k, 0) = cLk (s0 + lb k) := rfl
theorem x157_b (hk : k < 13) (hP : PF s0 P (lb k)) : xup (xup (xup (xup (P (lb k)) (s0 + lb k) (cLk (s0 + lb k))) (s0 + lb k + 1) (.inl (5, 6, .inr (.inr (.inr (.inr (fun _ => none))))))) (s0 + lb k + 2) (.inl (6, 12, .inr (.inr (.inr (.inr (fun _ => none))))))) (s0 + lb k + 3) (.inl (0, 144, .inl (fun _ => 0))) = hA s0 k P 0 0 (lb k + 4) := by
  obtain ⟨o1, o2, o3, o4⟩ := oko_k hk
  have p1 := hP.1 (lb k) (12, k, 0) (Nat.le_refl _) o1 rfl
  have p2 := hP.1 (lb k + 1) (13, k, 0) (by omega) o2 rfl
  have p3 := hP.1 (lb k + 2) (14, k, 0) (by omega) o3 rfl
  have p4 := hP.1 (lb k + 3) (15, k, 0) (by omega) o4 rfl
  rw [← p1, show s0 + (lb k + 1) = s0 + lb k + 1 by omega] at p2
  rw [← p2, show s0 + (lb k + 2) = s0 + lb k + 2 by omega] at p3
  rw [← p3, show s0 + (lb k + 3) = s0 + lb k + 3 by omega] at p4
  unfold hA
  rw [show lb k + 3 + 1 = lb k + 4 by omega] at p4
  rw [← p4, cel_lk]
  have e0 : arH s0 k 0 = .inl (5, 6, .inr (.inr (.inr (.inr (fun _ => none))))) := rfl
  have e1 : arP s0 k 0 = .inl (6, 12, .inr (.inr (.inr (.inr (fun _ => none))))) := rfl
  rw [e0, e1]
  generalize s0 + lb k = r
  rw [xu_r2 (a := r + 1) (b := r + 2) (d := r + 3) (by omega) (by omega), xu_r (a := r + 2) (b := r + 3) (by omega)]
  rfl
theorem hA_at (hk : k < 13) (hP : PF s0 P (lb k)) (hn4 : lb k + 4 ≤ n) : hA s0 k P i j n (s0 + lb k) = some (cLk (s0 + lb k)) ∧ hA s0 k P i j n (s0 + lb k + 1) = some (arH s0 k i) ∧ hA s0 k P i j n (s0 + lb k + 2) = some (arP s0 k j) := by
  obtain ⟨o1, o2, o3, o4⟩ := oko_k hk
  have p1 := hP.2 n (12, k, 0) o1 (Nat.le_refl _) (show lb k < n by omega)
  refine ⟨?_, ?_, ?_⟩
  · unfold hA
    rw [xu_app, if_neg (by omega), xu_app, if_neg (by omega)]
    exact p1
  · unfold hA
    rw [xu_app, if_neg (by omega), xu_app, if_pos rfl]
  · unfold hA
    rw [xu_app, if_pos rfl]
theorem hA_h (hP : PF s0 P (lb k)) (hk : k < 13) (hi : i < 6) (hnn : n = lb k + 4 + i) {f : Nat → Option Nat} (hf : f = fun q => if q < i then some (adr s0 (16, k, q)) else none) : xup (xup (hA s0 k P i 0 n) (s0 + n) (.inr (0, [.long 0, .int 1, .int 0, .int 0, .int 0]))) (s0 + lb k + 1) (.inl (5, 6, .inr (.inr (.inr (.inr (va_up f i (some (s0 + n)))))))) = hA s0 k P (i + 1) 0 (n + 1) := by
  have ho : oko (16, k, i) = true := by simp [oko, hk, hi]
  have p := hP.1 n (16, k, i) (by omega) ho (by show lb k + (4 + i) = n; omega)
  have ec : cel s0 S00 (16, k, i) = .inr (0, [.long 0, .int 1, .int 0, .int 0, .int 0]) := rfl
  rw [ec] at p
  have ef : (va_up f i (some (s0 + n))) = fun q => if q < i + 1 then some (adr s0 (16, k, q)) else none := by
    funext q
    unfold va_up
    by_cases h1 : q = i
    · rw [if_pos h1, if_pos (by omega), h1]
      have : adr s0 (16, k, i) = s0 + n := by show s0 + (lb k + (4 + i)) = _; omega
      rw [this]
    · rw [if_neg h1, hf]
      dsimp only
      by_cases h2 : q < i
      · rw [if_pos h2, if_pos (by omega)]
      · rw [if_neg h2, if_neg (by omega)]
  rw [ef]
  unfold hA
  rw [← p, xu_c (a := s0 + lb k + 2) (b := s0 + n) (by omega), xu_c (a := s0 + lb k + 1) (b := s0 + n) (by omega), xu_r (a := s0 + lb k + 1) (b := s0 + lb k + 2) (by omega)]
  rfl
theorem hA_p (hP : PF s0 P (lb k)) (hk : k < 13) (hi : i < 12) (hnn : n = lb k + 10 + 3 * i) {f : Nat → Option Nat} (hf : f = fun q => if q < i then some (adr s0 (17, k, q)) else none) : xup (xup (xup (xup (hA s0 k P 6 i n) (s0 + n) (cPg (s0 + n))) (s0 + n + 1) (.inl (0, 6, .inl (fun _ => 0)))) (s0 + n + 2) (.inl (1, 8, .inr (.inl (fun _ => 0))))) (s0 + lb k + 2) (.inl (6, 12, .inr (.inr (.inr (.inr (va_up f i (some (s0 + n)))))))) = hA s0 k P 6 (i + 1) (n + 3) := by
  have ho : oko (17, k, i) = true := by simp [oko, hk, hi]
  have ho2 : oko (18, k, i) = true := by simp [oko, hk, hi]
  have ho3 : oko (19, k, i) = true := by simp [oko, hk, hi]
  have a1 : adr s0 (18, k, i) = s0 + n + 1 := by show s0 + (lb k + (11 + 3 * i)) = _; omega
  have a2 : adr s0 (19, k, i) = s0 + n + 2 := by show s0 + (lb k + (12 + 3 * i)) = _; omega
  have p := hP.1 n (17, k, i) (by omega) ho (by show lb k + (10 + 3 * i) = n; omega)
  have p2 := hP.1 (n + 1) (18, k, i) (by omega) ho2 (by show lb k + (11 + 3 * i) = n + 1; omega)
  have p3 := hP.1 (n + 1 + 1) (19, k, i) (by omega) ho3 (by show lb k + (12 + 3 * i) = n + 1 + 1; omega)
  have ec : cel s0 S00 (17, k, i) = cPg (s0 + n) := by
    unfold cPg
    rw [← a1, ← a2]
    rfl
  have ec2 : cel s0 S00 (18, k, i) = .inl (0, 6, .inl (fun _ => 0)) := rfl
  have ec3 : cel s0 S00 (19, k, i) = .inl (1, 8, .inr (.inl (fun _ => 0))) := rfl
  rw [ec] at p
  rw [ec2, ← p, ← Nat.add_assoc] at p2
  rw [ec3, ← p2, show s0 + (n + 1 + 1) = s0 + n + 2 by omega, show n + 1 + 1 + 1 = n + 3 by omega] at p3
  have ef : (va_up f i (some (s0 + n))) = fun q => if q < i + 1 then some (adr s0 (17, k, q)) else none := by
    funext q
    unfold va_up
    by_cases h1 : q = i
    · rw [if_pos h1, if_pos (by omega), h1]
      have : adr s0 (17, k, i) = s0 + n := by show s0 + (lb k + (10 + 3 * i)) = _; omega
      rw [this]
    · rw [if_neg h1, hf]
      dsimp only
      by_cases h2 : q < i
      · rw [if_pos h2, if_pos (by omega)]
      · rw [if_neg h2, if_neg (by omega)]
  rw [ef]
  unfold hA
  rw [← p3]
  generalize arH s0 k 6 = AH
  generalize (cPg (s0 + n)) = C1
  rw [show arP s0 k (i + 1) = .inl (6, 12, .inr (.inr (.inr (.inr (fun q => if q < i + 1 then some (adr s0 (17, k, q)) else none))))) from rfl]
  generalize (Sum.inl (6, 12, Sum.inr (Sum.inr (Sum.inr (Sum.inr (fun q => if q < i + 1 then some (adr s0 (17, k, q)) else none))))) : xC) = A2
  generalize arP s0 k i = A1
  rw [xu_c (a := s0 + lb k + 2) (b := s0 + n) (by omega), xu_c (a := s0 + lb k + 1) (b := s0 + n) (by omega), xu_c (a := s0 + lb k + 2) (b := s0 + n + 1) (by omega), xu_c (a := s0 + lb k + 1) (b := s0 + n + 1) (by omega), xu_c (a := s0 + lb k + 2) (b := s0 + n + 2) (by omega), xu_c (a := s0 + lb k + 1) (b := s0 + n + 2) (by omega), xu_u]
theorem x157_h (hk : k < 13) (hP : PF s0 P (lb k)) : ∀ (j i ce sl : Nat), i + j = 6 → X xtab sx 157 90 [some (.ref (s0 + lb k)), some (.int (Int32.ofNat i))] [] (hA s0 k P i 0 (lb k + 4 + i), s0 + (lb k + 4 + i), ce, sl) = X xtab sx 157 117 [some (.ref (s0 + lb k)), some (.int 0)] [] (hA s0 k P 6 0 (lb k + 10), s0 + (lb k + 10), ce + j, sl + 5 * j) := by
  intro j
  induction j with
  | zero =>
    intro i ce sl h
    have hi : i = 6 := by omega
    subst hi
    simp [e_157_90, e_157_91, e_157_93, e_157_96, e_157_97, e_157_100, e_157_101, e_157_104, e_157_105, e_157_108, e_157_109, e_157_112, e_157_115, e_157_116, xentry, xent, Value.category, kB1_some, kB1_ite, kB_some, kB_ite, kB3_some, kX_some, kX_ite, kC_ite, kR_ret, kR_thr, kR_ite, kR0_ret, kR0_ite, kW_some, xretv, xst1, xst2, xcl, xsum, upI_1, upI_2, upJ_1, upJ_2, upJ_3, rwI_1, rwI_2, rwJ_1, rwJ_2, rwJ_3, upD_1, upD_2, upI_upI, upJ_upJ, x_mmin, x_mmax, x_objInit, List.length_cons, xmL, k1_iconst, k1_bipush, k1_sipush, k1_lconst, k1_dconst0, k1_dconst1, k1_fconst0, k1_fconst1, k1_iload, k1_lload, k1_aload, k1_dload, k1_fload, k1_istore, k1_lstore, k1_astore, k1_dstore, k1_fstore, k1_iinc, k1_iadd, k1_isub, k1_imul, k1_iand, k1_ixor, k1_ishr, k1_ladd, k1_lsub, k1_lmul, k1_land, k1_lor, k1_lcmp, k1_lshl, k1_lshr, k1_idiv, k1_irem, k1_ldiv, k1_lrem, k1_fdiv, k1_ddiv, k1_f2d, k1_i2l, k1_l2i, k1_i2b, k1_l2d, k1_l2f, k1_dcmpl, k1_dcmpg, k1_fcmpl, k1_fcmpg, k1_dup, k1_pop, k1_dup2, k1_goto, k1_ifeq, k1_ifne, k1_iflt, k1_ifge, k1_ifgt, k1_ifle, k1_icmpeq, k1_icmpne, k1_icmplt, k1_icmpge, k1_icmpgt, k1_icmple, k3_constI, k3_constJ, k3_constD, gf_5_0, gf_5_1, gf_5_2, gf_5_3, gf_5_4, gf_5_5, pf_5_5, gf_5_6, pf_5_6, gf_5_7, gf_5_8, gf_4_0, gf_4_1, pf_4_1, gf_4_2, pf_4_2, gf_4_3, pf_4_3, gf_4_4, pf_4_4, gf_4_5, pf_4_5, gf_4_6, gf_4_7, pf_4_7, gf_4_8, pf_4_8, gf_4_9, pf_4_9, gf_3_0, gf_3_1, pf_3_1, gf_6_0, gf_6_1, gf_6_2, gf_6_3, gf_6_4, gf_6_5, gf_6_6, gf_6_7, gf_6_8, gf_6_9, gf_6_10, gf_6_11, pf_6_11, gf_6_12, pf_6_12, gf_6_13, gf_6_14, pf_6_14, gf_6_15, pf_6_15, gf_6_16, pf_6_16, gf_6_17, pf_6_17, gf_6_18, pf_6_18, gf_6_19, pf_6_19, gf_6_20, pf_6_20, gf_6_21, pf_6_21, gf_6_22, pf_6_22, gf_6_23, gf_6_24, gf_6_25, gf_6_26, pf_6_26, gf_6_27, gf_6_28, pf_6_28, gf_0_0, pf_0_0, gf_0_1, pf_0_1, gf_0_2, pf_0_2, gf_0_3, pf_0_3, gf_0_4, pf_0_4, gf_2_0, pf_2_0, gf_2_1, pf_2_1, gf_2_2, pf_2_2, gf_2_3, pf_2_3, gf_2_4, pf_2_4, gf_2_5, pf_2_5, gf_2_6, pf_2_6, gf_2_7, pf_2_7, gf_2_8, pf_2_8, gf_2_9, pf_2_9, gf_2_10, pf_2_10, gf_2_11, pf_2_11, gf_2_12, gf_2_13, gf_1_0, pf_1_0, gf_1_1, pf_1_1, gf_1_2, pf_1_2, gf_1_3, pf_1_3, gf_1_4, pf_1_4, gf_1_5, pf_1_5, gf_1_6, pf_1_6, gf_1_7, pf_1_7, gf_1_8, pf_1_8, gf_1_9, pf_1_9, gf_1_10, pf_1_10, gf_1_11, gf_1_12, gf_1_13, al_sl, as_sl, al_ct, as_ct, al_hr, as_hr, al_tx, as_tx, al_rb, as_rb, al_sv, as_sv, al_out, as_out, al_od, al_ha, al_pa, al_ps, al_sn, al_ai, as_ai, al_az, as_az, al_aj, as_aj, ln_hr, kv_rs, kv_tr, kv_rp, kv_md, kv_lk, kv_hh, kv_pg]
  | succ j ih =>
    intro i ce sl h
    have hi : i < 6 := by omega
    have hc := oN_clamp (i := i) (by omega)
    have hg := oN_neg (i := i) (by omega)
    have hl := oN_le (i := i) (n := 6) (by omega) (by omega)
    have hl2 : ¬ (6 : Int32) ≤ Int32.ofNat i := by rw [show (6 : Int32) = Int32.ofNat 6 from rfl, hl]; omega
    have h0i : (0 : Int32) ≤ Int32.ofNat i := by rw [show (0 : Int32) = Int32.ofNat 0 from rfl, oN_le (by omega) (by omega)]; exact Nat.zero_le i
    have hl3 : Int32.ofNat i < 6 := Int32.not_le.mp hl2
    have ih2 := ih (i + 1) (ce + 1) (sl + 5) (by omega)
    rw [inc_ofNat, ← Nat.add_assoc (lb k + 4) i 1] at ih2
    obtain ⟨g1, g2, g3⟩ := hA_at (i := i) (j := 0) (n := lb k + 4 + i) hk hP (by omega)
    have hh := hA_h (n := lb k + 4 + i) hP hk hi rfl (f := fun q => if q < i then some (adr s0 (16, k, q)) else none) rfl
    have hx := x155 (sx := sx) (H := hA s0 k P i 0 (lb k + 4 + i)) (r := s0 + (lb k + 4 + i)) (M2 := (s0 + (lb k + 4 + i) + 1, ce + 1, sl + 5))
    rw [← hh] at ih2
    unfold cLk at g1
    unfold arH at g2
    have n1 : ¬ (s0 + lb k + 1 = s0 + (lb k + 4 + i)) := by omega
    have n2 : ¬ (s0 + lb k = s0 + (lb k + 4 + i)) := by omega
    have n3 : ¬ (s0 + (lb k + 4 + i) = 0) := by omega
    rw [show s0 + (lb k + 4 + i + 1) = s0 + (lb k + 4 + i) + 1 by omega, show sl + 5 + 5 * j = sl + 5 * (j + 1) by omega, show ce + 1 + j = ce + (j + 1) by omega] at ih2
    generalize hA s0 k P 6 0 (lb k + 10) = GF at *
    generalize hA s0 k P i 0 (lb k + 4 + i) = G at *
    generalize s0 + (lb k + 4 + i) = nx at *
    generalize s0 + (lb k + 10) = nF at *
    generalize s0 + lb k = r at *
    rw [e_157_90]
    simp [e_157_91, e_157_93, e_157_96, e_157_97, e_157_100, e_157_101, e_157_104, e_157_105, e_157_108, e_157_109, e_157_112, xentry, xent, Value.category, kB1_some, kB1_ite, kB_some, kB_ite, kB3_some, kX_some, kX_ite, kC_ite, kR_ret, kR_thr, kR_ite, kR0_ret, kR0_ite, kW_some, xretv, xst1, xst2, xcl, xsum, upI_1, upI_2, upJ_1, upJ_2, upJ_3, rwI_1, rwI_2, rwJ_1, rwJ_2, rwJ_3, upD_1, upD_2, upI_upI, upJ_upJ, x_mmin, x_mmax, x_objInit, List.length_cons, xmL, k1_iconst, k1_bipush, k1_sipush, k1_lconst, k1_dconst0, k1_dconst1, k1_fconst0, k1_fconst1, k1_iload, k1_lload, k1_aload, k1_dload, k1_fload, k1_istore, k1_lstore, k1_astore, k1_dstore, k1_fstore, k1_iinc, k1_iadd, k1_isub, k1_imul, k1_iand, k1_ixor, k1_ishr, k1_ladd, k1_lsub, k1_lmul, k1_land, k1_lor, k1_lcmp, k1_lshl, k1_lshr, k1_idiv, k1_irem, k1_ldiv, k1_lrem, k1_fdiv, k1_ddiv, k1_f2d, k1_i2l, k1_l2i, k1_i2b, k1_l2d, k1_l2f, k1_dcmpl, k1_dcmpg, k1_fcmpl, k1_fcmpg, k1_dup, k1_pop, k1_dup2, k1_goto, k1_ifeq, k1_ifne, k1_iflt, k1_ifge, k1_ifgt, k1_ifle, k1_icmpeq, k1_icmpne, k1_icmplt, k1_icmpge, k1_icmpgt, k1_icmple, k3_constI, k3_constJ, k3_constD, gf_5_0, gf_5_1, gf_5_2, gf_5_3, gf_5_4, gf_5_5, pf_5_5, gf_5_6, pf_5_6, gf_5_7, gf_5_8, gf_4_0, gf_4_1, pf_4_1, gf_4_2, pf_4_2, gf_4_3, pf_4_3, gf_4_4, pf_4_4, gf_4_5, pf_4_5, gf_4_6, gf_4_7, pf_4_7, gf_4_8, pf_4_8, gf_4_9, pf_4_9, gf_3_0, gf_3_1, pf_3_1, gf_6_0, gf_6_1, gf_6_2, gf_6_3, gf_6_4, gf_6_5, gf_6_6, gf_6_7, gf_6_8, gf_6_9, gf_6_10, gf_6_11, pf_6_11, gf_6_12, pf_6_12, gf_6_13, gf_6_14, pf_6_14, gf_6_15, pf_6_15, gf_6_16, pf_6_16, gf_6_17, pf_6_17, gf_6_18, pf_6_18, gf_6_19, pf_6_19, gf_6_20, pf_6_20, gf_6_21, pf_6_21, gf_6_22, pf_6_22, gf_6_23, gf_6_24, gf_6_25, gf_6_26, pf_6_26, gf_6_27, gf_6_28, pf_6_28, gf_0_0, pf_0_0, gf_0_1, pf_0_1, gf_0_2, pf_0_2, gf_0_3, pf_0_3, gf_0_4, pf_0_4, gf_2_0, pf_2_0, gf_2_1, pf_2_1, gf_2_2, pf_2_2, gf_2_3, pf_2_3, gf_2_4, pf_2_4, gf_2_5, pf_2_5, gf_2_6, pf_2_6, gf_2_7, pf_2_7, gf_2_8, pf_2_8, gf_2_9, pf_2_9, gf_2_10, pf_2_10, gf_2_11, pf_2_11, gf_2_12, gf_2_13, gf_1_0, pf_1_0, gf_1_1, pf_1_1, gf_1_2, pf_1_2, gf_1_3, pf_1_3, gf_1_4, pf_1_4, gf_1_5, pf_1_5, gf_1_6, pf_1_6, gf_1_7, pf_1_7, gf_1_8, pf_1_8, gf_1_9, pf_1_9, gf_1_10, pf_1_10, gf_1_11, gf_1_12, gf_1_13, al_sl, as_sl, al_ct, as_ct, al_hr, as_hr, al_tx, as_tx, al_rb, as_rb, al_sv, as_sv, al_out, as_out, al_od, al_ha, al_pa, al_ps, al_sn, al_ai, as_ai, al_az, as_az, al_aj, as_aj, ln_hr, kv_rs, kv_tr, kv_rp, kv_md, kv_lk, kv_hh, kv_pg, k3_new, k3_newa0, k3_newa1, k3_newa2, k3_newa3, k3_newa4, k3_anew5, k3_anew6, k3_anew7, k2_putf, k2_putff, k2_getf, k2_aast5, k2_aast6, k2_aast7, k2_iast, xu_app, xu_u, xfit, xcty, xcN, tyX0, tyX1, tyX2, tyX3, tyX4, tyX5, tyX6, hl2, hl3, hc, hg, h0i, hi, g1, g2, n1, n2, n3, hx, Nat.not_le.mpr hi]
    exact ih2
theorem x157_p (hk : k < 13) (hP : PF s0 P (lb k)) : ∀ (j i ce sl : Nat), i + j = 12 → X xtab sx 157 117 [some (.ref (s0 + lb k)), some (.int (Int32.ofNat i))] [] (hA s0 k P 6 i (lb k + 10 + 3 * i), s0 + (lb k + 10 + 3 * i), ce, sl) = some (.inl none, (hA s0 k P 6 12 (lb k + 46), s0 + (lb k + 46), ce + 3 * j, sl + 28 * j)) := by
  intro j
  induction j with
  | zero =>
    intro i ce sl h
    have hi : i = 12 := by omega
    subst hi
    simp [e_157_117, e_157_118, e_157_120, e_157_123, e_157_124, e_157_127, e_157_128, e_157_131, e_157_132, e_157_135, e_157_136, e_157_139, e_157_142, xentry, xent, Value.category, kB1_some, kB1_ite, kB_some, kB_ite, kB3_some, kX_some, kX_ite, kC_ite, kR_ret, kR_thr, kR_ite, kR0_ret, kR0_ite, kW_some, xretv, xst1, xst2, xcl, xsum, upI_1, upI_2, upJ_1, upJ_2, upJ_3, rwI_1, rwI_2, rwJ_1, rwJ_2, rwJ_3, upD_1, upD_2, upI_upI, upJ_upJ, x_mmin, x_mmax, x_objInit, List.length_cons, xmL, k1_iconst, k1_bipush, k1_sipush, k1_lconst, k1_dconst0, k1_dconst1, k1_fconst0, k1_fconst1, k1_iload, k1_lload, k1_aload, k1_dload, k1_fload, k1_istore, k1_lstore, k1_astore, k1_dstore, k1_fstore, k1_iinc, k1_iadd, k1_isub, k1_imul, k1_iand, k1_ixor, k1_ishr, k1_ladd, k1_lsub, k1_lmul, k1_land, k1_lor, k1_lcmp, k1_lshl, k1_lshr, k1_idiv, k1_irem, k1_ldiv, k1_lrem, k1_fdiv, k1_ddiv, k1_f2d, k1_i2l, k1_l2i, k1_i2b, k1_l2d, k1_l2f, k1_dcmpl, k1_dcmpg, k1_fcmpl, k1_fcmpg, k1_dup, k1_pop, k1_dup2, k1_goto, k1_ifeq, k1_ifne, k1_iflt, k1_ifge, k1_ifgt, k1_ifle, k1_icmpeq, k1_icmpne, k1_icmplt, k1_icmpge, k1_icmpgt, k1_icmple, k3_constI, k3_constJ, k3_constD, gf_5_0, gf_5_1, gf_5_2, gf_5_3, gf_5_4, gf_5_5, pf_5_5, gf_5_6, pf_5_6, gf_5_7, gf_5_8, gf_4_0, gf_4_1, pf_4_1, gf_4_2, pf_4_2, gf_4_3, pf_4_3, gf_4_4, pf_4_4, gf_4_5, pf_4_5, gf_4_6, gf_4_7, pf_4_7, gf_4_8, pf_4_8, gf_4_9, pf_4_9, gf_3_0, gf_3_1, pf_3_1, gf_6_0, gf_6_1, gf_6_2, gf_6_3, gf_6_4, gf_6_5, gf_6_6, gf_6_7, gf_6_8, gf_6_9, gf_6_10, gf_6_11, pf_6_11, gf_6_12, pf_6_12, gf_6_13, gf_6_14, pf_6_14, gf_6_15, pf_6_15, gf_6_16, pf_6_16, gf_6_17, pf_6_17, gf_6_18, pf_6_18, gf_6_19, pf_6_19, gf_6_20, pf_6_20, gf_6_21, pf_6_21, gf_6_22, pf_6_22, gf_6_23, gf_6_24, gf_6_25, gf_6_26, pf_6_26, gf_6_27, gf_6_28, pf_6_28, gf_0_0, pf_0_0, gf_0_1, pf_0_1, gf_0_2, pf_0_2, gf_0_3, pf_0_3, gf_0_4, pf_0_4, gf_2_0, pf_2_0, gf_2_1, pf_2_1, gf_2_2, pf_2_2, gf_2_3, pf_2_3, gf_2_4, pf_2_4, gf_2_5, pf_2_5, gf_2_6, pf_2_6, gf_2_7, pf_2_7, gf_2_8, pf_2_8, gf_2_9, pf_2_9, gf_2_10, pf_2_10, gf_2_11, pf_2_11, gf_2_12, gf_2_13, gf_1_0, pf_1_0, gf_1_1, pf_1_1, gf_1_2, pf_1_2, gf_1_3, pf_1_3, gf_1_4, pf_1_4, gf_1_5, pf_1_5, gf_1_6, pf_1_6, gf_1_7, pf_1_7, gf_1_8, pf_1_8, gf_1_9, pf_1_9, gf_1_10, pf_1_10, gf_1_11, gf_1_12, gf_1_13, al_sl, as_sl, al_ct, as_ct, al_hr, as_hr, al_tx, as_tx, al_rb, as_rb, al_sv, as_sv, al_out, as_out, al_od, al_ha, al_pa, al_ps, al_sn, al_ai, as_ai, al_az, as_az, al_aj, as_aj, ln_hr, kv_rs, kv_tr, kv_rp, kv_md, kv_lk, kv_hh, kv_pg]
  | succ j ih =>
    intro i ce sl h
    have hi : i < 12 := by omega
    have hc := oN_clamp (i := i) (by omega)
    have hg := oN_neg (i := i) (by omega)
    have hl := oN_le (i := i) (n := 12) (by omega) (by omega)
    have hl2 : ¬ (12 : Int32) ≤ Int32.ofNat i := by rw [show (12 : Int32) = Int32.ofNat 12 from rfl, hl]; omega
    have h0i : (0 : Int32) ≤ Int32.ofNat i := by rw [show (0 : Int32) = Int32.ofNat 0 from rfl, oN_le (by omega) (by omega)]; exact Nat.zero_le i
    have hl3 : Int32.ofNat i < 12 := Int32.not_le.mp hl2
    have ih2 := ih (i + 1) (ce + 3) (sl + 28) (by omega)
    rw [inc_ofNat, show lb k + 10 + 3 * (i + 1) = lb k + 10 + 3 * i + 3 by omega] at ih2
    obtain ⟨g1, g2, g3⟩ := hA_at (i := 6) (j := i) (n := lb k + 10 + 3 * i) hk hP (by omega)
    have hh := hA_p (n := lb k + 10 + 3 * i) hP hk hi rfl (f := fun q => if q < i then some (adr s0 (17, k, q)) else none) rfl
    have hx := x180 (sx := sx) (H := hA s0 k P 6 i (lb k + 10 + 3 * i)) (r := s0 + (lb k + 10 + 3 * i)) (ce := ce + 1) (sl := sl + 14)
    rw [← hh] at ih2
    unfold cLk at g1
    unfold arP at g3
    have n1 : ¬ (s0 + lb k + 2 = s0 + (lb k + 10 + 3 * i)) := by omega
    have n4 : ¬ (s0 + lb k + 2 = s0 + (lb k + 10 + 3 * i) + 1) := by omega
    have n5 : ¬ (s0 + lb k + 2 = s0 + (lb k + 10 + 3 * i) + 2) := by omega
    have n2 : ¬ (s0 + lb k = s0 + (lb k + 10 + 3 * i)) := by omega
    have n3 : ¬ (s0 + (lb k + 10 + 3 * i) = 0) := by omega
    rw [show s0 + (lb k + 10 + 3 * i + 3) = s0 + (lb k + 10 + 3 * i) + 3 by omega, show sl + 28 + 28 * j = sl + 28 * (j + 1) by omega, show ce + 3 + 3 * j = ce + 3 * (j + 1) by omega] at ih2
    rw [show ce + 1 + 2 = ce + 3 by omega, show sl + 14 + 14 = sl + 28 by omega] at hx
    generalize hA s0 k P 6 12 (lb k + 46) = GF at *
    generalize hA s0 k P 6 i (lb k + 10 + 3 * i) = G at *
    generalize s0 + (lb k + 10 + 3 * i) = nx at *
    generalize s0 + (lb k + 46) = nF at *
    generalize s0 + lb k = r at *
    unfold cPg at hx ih2
    rw [e_157_117]
    simp [e_157_118, e_157_120, e_157_123, e_157_124, e_157_127, e_157_128, e_157_131, e_157_132, e_157_135, e_157_136, e_157_139, e_157_142, xentry, xent, Value.category, kB1_some, kB1_ite, kB_some, kB_ite, kB3_some, kX_some, kX_ite, kC_ite, kR_ret, kR_thr, kR_ite, kR0_ret, kR0_ite, kW_some, xretv, xst1, xst2, xcl, xsum, upI_1, upI_2, upJ_1, upJ_2, upJ_3, rwI_1, rwI_2, rwJ_1, rwJ_2, rwJ_3, upD_1, upD_2, upI_upI, upJ_upJ, x_mmin, x_mmax, x_objInit, List.length_cons, xmL, k1_iconst, k1_bipush, k1_sipush, k1_lconst, k1_dconst0, k1_dconst1, k1_fconst0, k1_fconst1, k1_iload, k1_lload, k1_aload, k1_dload, k1_fload, k1_istore, k1_lstore, k1_astore, k1_dstore, k1_fstore, k1_iinc, k1_iadd, k1_isub, k1_imul, k1_iand, k1_ixor, k1_ishr, k1_ladd, k1_lsub, k1_lmul, k1_land, k1_lor, k1_lcmp, k1_lshl, k1_lshr, k1_idiv, k1_irem, k1_ldiv, k1_lrem, k1_fdiv, k1_ddiv, k1_f2d, k1_i2l, k1_l2i, k1_i2b, k1_l2d, k1_l2f, k1_dcmpl, k1_dcmpg, k1_fcmpl, k1_fcmpg, k1_dup, k1_pop, k1_dup2, k1_goto, k1_ifeq, k1_ifne, k1_iflt, k1_ifge, k1_ifgt, k1_ifle, k1_icmpeq, k1_icmpne, k1_icmplt, k1_icmpge, k1_icmpgt, k1_icmple, k3_constI, k3_constJ, k3_constD, gf_5_0, gf_5_1, gf_5_2, gf_5_3, gf_5_4, gf_5_5, pf_5_5, gf_5_6, pf_5_6, gf_5_7, gf_5_8, gf_4_0, gf_4_1, pf_4_1, gf_4_2, pf_4_2, gf_4_3, pf_4_3, gf_4_4, pf_4_4, gf_4_5, pf_4_5, gf_4_6, gf_4_7, pf_4_7, gf_4_8, pf_4_8, gf_4_9, pf_4_9, gf_3_0, gf_3_1, pf_3_1, gf_6_0, gf_6_1, gf_6_2, gf_6_3, gf_6_4, gf_6_5, gf_6_6, gf_6_7, gf_6_8, gf_6_9, gf_6_10, gf_6_11, pf_6_11, gf_6_12, pf_6_12, gf_6_13, gf_6_14, pf_6_14, gf_6_15, pf_6_15, gf_6_16, pf_6_16, gf_6_17, pf_6_17, gf_6_18, pf_6_18, gf_6_19, pf_6_19, gf_6_20, pf_6_20, gf_6_21, pf_6_21, gf_6_22, pf_6_22, gf_6_23, gf_6_24, gf_6_25, gf_6_26, pf_6_26, gf_6_27, gf_6_28, pf_6_28, gf_0_0, pf_0_0, gf_0_1, pf_0_1, gf_0_2, pf_0_2, gf_0_3, pf_0_3, gf_0_4, pf_0_4, gf_2_0, pf_2_0, gf_2_1, pf_2_1, gf_2_2, pf_2_2, gf_2_3, pf_2_3, gf_2_4, pf_2_4, gf_2_5, pf_2_5, gf_2_6, pf_2_6, gf_2_7, pf_2_7, gf_2_8, pf_2_8, gf_2_9, pf_2_9, gf_2_10, pf_2_10, gf_2_11, pf_2_11, gf_2_12, gf_2_13, gf_1_0, pf_1_0, gf_1_1, pf_1_1, gf_1_2, pf_1_2, gf_1_3, pf_1_3, gf_1_4, pf_1_4, gf_1_5, pf_1_5, gf_1_6, pf_1_6, gf_1_7, pf_1_7, gf_1_8, pf_1_8, gf_1_9, pf_1_9, gf_1_10, pf_1_10, gf_1_11, gf_1_12, gf_1_13, al_sl, as_sl, al_ct, as_ct, al_hr, as_hr, al_tx, as_tx, al_rb, as_rb, al_sv, as_sv, al_out, as_out, al_od, al_ha, al_pa, al_ps, al_sn, al_ai, as_ai, al_az, as_az, al_aj, as_aj, ln_hr, kv_rs, kv_tr, kv_rp, kv_md, kv_lk, kv_hh, kv_pg, k3_new, k3_newa0, k3_newa1, k3_newa2, k3_newa3, k3_newa4, k3_anew5, k3_anew6, k3_anew7, k2_putf, k2_putff, k2_getf, k2_aast5, k2_aast6, k2_aast7, k2_iast, xu_app, xu_u, xfit, xcty, xcN, tyX0, tyX1, tyX2, tyX3, tyX4, tyX5, tyX6, hl2, hl3, hc, hg, h0i, hi, g1, g3, n1, n2, n3, n4, n5, hx, Nat.not_le.mpr hi]
    exact ih2
theorem x157 (hk : k < 13) (hP : PF s0 P (lb k)) : X xtab sx 157 0 [some (.ref (s0 + lb k)), none] [] (xup (P (lb k)) (s0 + lb k) (.inr (1, xdef 1)), s0 + lb k + 1, ce, sl) = some (.inl none, (P (lb k + 46), s0 + (lb k + 46), ce + 45, sl + 528)) := by
  obtain ⟨o1, o2, o3, o4⟩ := oko_k hk
  rw [x157_a, x157_b hk hP]
  have h1 := x157_h (sx := sx) hk hP 6 0 (ce + 3) (sl + 162) rfl
  rw [show Int32.ofNat 0 = 0 from rfl, show lb k + 4 + 0 = lb k + 4 from rfl, ← Nat.add_assoc s0 (lb k) 4] at h1
  rw [h1]
  have h2 := x157_p (sx := sx) hk hP 12 0 (ce + 3 + 6) (sl + 162 + 5 * 6) rfl
  rw [show Int32.ofNat 0 = 0 from rfl, show lb k + 10 + 3 * 0 = lb k + 10 from rfl] at h2
  rw [h2]
  have p2 := hP.2 (lb k + 46) (13, k, 0) o2 (by show lb k ≤ lb k + 1; omega) (by show lb k + 1 < _; omega)
  have p3 := hP.2 (lb k + 46) (14, k, 0) o3 (by show lb k ≤ lb k + 2; omega) (by show lb k + 2 < _; omega)
  have e : hA s0 k P 6 12 (lb k + 46) = P (lb k + 46) := by
    unfold hA
    rw [xu_id (H := P (lb k + 46)) (a := s0 + lb k + 1) (u := arH s0 k 6) p2, xu_id (H := P (lb k + 46)) (a := s0 + lb k + 2) (u := arP s0 k 12) p3]
  rw [e]
end CT1
