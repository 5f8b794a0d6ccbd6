section P24
variable {sx : xSx} {s0 k k' n nh : Nat} {S : St} {m : Nat × Nat × Nat} {q w v : Int32}
/-! what a link holds behind Link.copyFrom -/
theorem lcF_lk {g : Nat} (h : g < 11) : (lcF S k k' n nh).1 (12, k, 0) g = S.1 (12, k', 0) g := by
  unfold lcF hrC
  rw [rwI_1, if_neg (by simp), pcL_o (by simp), hcL_o (by simp), lc0_s h]
theorem hcL_hh (hkk : k' ≠ k) {i g : Nat} (hg : 1 ≤ g ∧ g ≤ 4) : ∀ j, (hcL S k k' j).1 (16, k, i) g = if i < j then S.1 (16, k', i) g else S.1 (16, k, i) g := by
  intro j
  induction j with
  | zero => simp [hcL]
  | succ j ih =>
    have hf := fun x => congrFun (hcL_fr (S := S) (k := k) (k' := k') (o := (16, k', x)) (Or.inl hkk) j).1
    have hg' : g = 1 ∨ g = 2 ∨ g = 3 ∨ g = 4 := by omega
    unfold hcL hcF
    by_cases hij : i = j
    · subst hij
      rcases hg' with h | h | h | h <;> subst h <;> simp [upI_1, upJ_1, hf]
    · have hl : (i < j + 1) = (i < j) := by apply propext; omega
      simp [upI_1, upJ_1, hij, ih, hl]
theorem hcL_hn (hkk : k' ≠ k) {i : Nat} : ∀ j, (hcL S k k' j).2.1 (16, k, i) 0 = if i < j then S.2.1 (16, k', i) 0 else S.2.1 (16, k, i) 0 := by
  intro j
  induction j with
  | zero => simp [hcL]
  | succ j ih =>
    have hf := fun x => congrFun (hcL_fr (S := S) (k := k) (k' := k') (o := (16, k', x)) (Or.inl hkk) j).2
    unfold hcL hcF
    by_cases hij : i = j
    · subst hij
      simp [upI_2, upJ_2, hf]
    · have hl : (i < j + 1) = (i < j) := by apply propext; omega
      simp [upI_2, upJ_2, hij, ih, hl]
theorem va6 {α : Type} {f g : Nat → α} {n j : Nat} (h : j < n) : va_cpy f g 0 0 n j = f j := by
  unfold va_cpy
  rw [if_pos ⟨Nat.zero_le _, by omega⟩]
  simp
theorem pcL_pg (hkk : k' ≠ k) {i g : Nat} (hg : 1 ≤ g ∧ g ≤ 11) : ∀ j, (pcL S k k' j).1 (17, k, i) g = if i < j then S.1 (17, k', i) g else S.1 (17, k, i) g := by
  intro j
  induction j with
  | zero => simp [pcL]
  | succ j ih =>
    have hf := fun x => congrFun (pcL_fr (S := S) (k := k) (k' := k') (o := (17, k', x)) (Or.inl hkk) j).1
    have hg' : g = 1 ∨ g = 2 ∨ g = 3 ∨ g = 4 ∨ g = 5 ∨ g = 6 ∨ g = 7 ∨ g = 8 ∨ g = 9 ∨ g = 10 ∨ g = 11 := by omega
    unfold pcL cpyF
    by_cases hij : i = j
    · subst hij
      rcases hg' with h | h | h | h | h | h | h | h | h | h | h <;> subst h <;> simp [upI_1, upJ_1, rwI_1, rwJ_1, hf]
    · have hl : (i < j + 1) = (i < j) := by apply propext; omega
      simp [upI_1, upJ_1, rwI_1, rwJ_1, hij, ih, hl]
theorem pcL_pn (hkk : k' ≠ k) {i : Nat} : ∀ j, (pcL S k k' j).2.1 (17, k, i) 0 = if i < j then S.2.1 (17, k', i) 0 else S.2.1 (17, k, i) 0 := by
  intro j
  induction j with
  | zero => simp [pcL]
  | succ j ih =>
    have hf := fun x => congrFun (pcL_fr (S := S) (k := k) (k' := k') (o := (17, k', x)) (Or.inl hkk) j).2
    unfold pcL cpyF
    by_cases hij : i = j
    · subst hij
      simp [upI_2, upJ_2, rwI_2, rwJ_2, hf]
    · have hl : (i < j + 1) = (i < j) := by apply propext; omega
      simp [upI_2, upJ_2, rwI_2, rwJ_2, hij, ih, hl]
theorem pcL_sl (hkk : k' ≠ k) {i g : Nat} (hg : g < 6) : ∀ j, (pcL S k k' j).1 (18, k, i) g = if i < j then S.1 (18, k', i) g else S.1 (18, k, i) g := by
  intro j
  induction j with
  | zero => simp [pcL]
  | succ j ih =>
    have hf := fun x => (pcL_fr (S := S) (k := k) (k' := k') (o := (18, k', x)) (Or.inl hkk) j).1
    unfold pcL cpyF
    by_cases hij : i = j
    · subst hij
      simp [upI_1, upJ_1, rwI_1, rwJ_1, hf, va6 hg]
    · have hl : (i < j + 1) = (i < j) := by apply propext; omega
      simp [upI_1, upJ_1, rwI_1, rwJ_1, hij, ih, hl]
theorem pcL_ct (hkk : k' ≠ k) {i g : Nat} (hg : g < 8) : ∀ j, (pcL S k k' j).2.1 (19, k, i) g = if i < j then S.2.1 (19, k', i) g else S.2.1 (19, k, i) g := by
  intro j
  induction j with
  | zero => simp [pcL]
  | succ j ih =>
    have hf := fun x => (pcL_fr (S := S) (k := k) (k' := k') (o := (19, k', x)) (Or.inl hkk) j).2
    unfold pcL cpyF
    by_cases hij : i = j
    · subst hij
      simp [upI_2, upJ_2, rwI_2, rwJ_2, hf, va6 hg]
    · have hl : (i < j + 1) = (i < j) := by apply propext; omega
      simp [upI_2, upJ_2, rwI_2, rwJ_2, hij, ih, hl]
theorem lc0_J {o : Ob} : (lc0 S k k').2.1 o = S.2.1 o := rfl
theorem lcF_hh (hkk : k' ≠ k) {i g : Nat} (hi : i < nh) (hg : 1 ≤ g ∧ g ≤ 4) : (lcF S k k' n nh).1 (16, k, i) g = S.1 (16, k', i) g := by
  unfold lcF hrC
  rw [rwI_1, if_neg (by simp), pcL_o (by simp), hcL_hh hkk hg, if_pos hi, lc0_o (by simp)]
theorem lcF_hn (hkk : k' ≠ k) {i : Nat} (hi : i < nh) : (lcF S k k' n nh).2.1 (16, k, i) 0 = S.2.1 (16, k', i) 0 := by
  have h : ∀ (T : St) j, (pcL T k k' j).2.1 (16, k, i) = T.2.1 (16, k, i) := by
    intro T j
    induction j with
    | zero => rfl
    | succ j ih =>
      unfold pcL cpyF
      rw [rwJ_fun' _ _ (by simp)]
      simp only [rwI_2, upI_2]
      rw [upJ_fun' _ _ _ (by simp)]
      exact ih
  unfold lcF hrC
  rw [rwI_2, h, hcL_hn hkk, if_pos hi, lc0_J]
theorem lcF_pg (hkk : k' ≠ k) {i g : Nat} (hi : i < n) (hg : 1 ≤ g ∧ g ≤ 11) : (lcF S k k' n nh).1 (17, k, i) g = S.1 (17, k', i) g := by
  unfold lcF hrC
  rw [rwI_1, if_neg (by simp), pcL_pg hkk hg, if_pos hi, hcL_o (by simp), lc0_o (by simp)]
theorem lcF_sl (hkk : k' ≠ k) {i g : Nat} (hi : i < n) (hg : g < 6) : (lcF S k k' n nh).1 (18, k, i) g = S.1 (18, k', i) g := by
  unfold lcF hrC
  rw [rwI_1, if_neg (by simp), pcL_sl hkk hg, if_pos hi, hcL_o (by simp), lc0_o (by simp)]
theorem hcL_J {o : Ob} (h : o.1 ≠ 16) : ∀ j, (hcL S k k' j).2.1 o = S.2.1 o := by
  intro j
  induction j with
  | zero => rfl
  | succ j ih =>
    unfold hcL hcF
    simp only [upI_2]
    rw [upJ_fun' _ _ _ (fun e => h (by rw [e]))]
    exact ih
theorem lcF_pn (hkk : k' ≠ k) {i : Nat} (hi : i < n) : (lcF S k k' n nh).2.1 (17, k, i) 0 = S.2.1 (17, k', i) 0 := by
  unfold lcF hrC
  rw [rwI_2, pcL_pn hkk, if_pos hi, hcL_J (by simp), lc0_J]
theorem lcF_ct (hkk : k' ≠ k) {i g : Nat} (hi : i < n) (hg : g < 8) : (lcF S k k' n nh).2.1 (19, k, i) g = S.2.1 (19, k', i) g := by
  unfold lcF hrC
  rw [rwI_2, pcL_ct hkk hg, if_pos hi, hcL_J (by simp), lc0_J]
theorem lcF_hr (hkk : k' ≠ k) {g : Nat} (hg : g < 144) : (lcF S k k' n nh).1 (15, k, 0) g = S.1 (15, k', 0) g := by
  unfold lcF hrC
  rw [rwI_1, if_pos rfl, va6 hg, (pcL_fr (Or.inl hkk) n).1, (hcL_fr (Or.inl hkk) nh).1, lc0_o (by simp [hkk])]
theorem lcF_ok (hkk : k' ≠ k) {t : Nat} (h : Lok S k' n nh t) : Lok (lcF S k k' n nh) k n nh t := by
  obtain ⟨a, b, c, d, e, f, i, j⟩ := h
  refine ⟨a, b, c, (lcF_lk (by decide)).trans d, (lcF_lk (by decide)).trans e, (lcF_lk (by decide)).trans f, ?_, ?_⟩
  · intro p hp; unfold hisF; rw [lcF_pg hkk hp (by decide)]; exact i p hp
  · intro p hp; rw [lcF_pg hkk hp (by decide)]; exact j p hp
theorem lcF_ob (hkk : k' ≠ k) (h : Lob S k' n) : Lob (lcF S k k' n nh) k n := by
  refine ⟨by rw [lcF_lk (by decide)]; exact h.1, ?_⟩
  intro p hp; rw [lcF_pg hkk hp (by decide)]; exact h.2 p hp
theorem lcF_ok' (hkk : k' ≠ k) {t l n' nh' : Nat} (hl : l ≠ k) (h : Lok S l n' nh' t) : Lok (lcF S k k' n nh) l n' nh' t := Lok_fr h (congrFun (lcF_fr (Or.inl hl)).1 _) (congrFun (lcF_fr (Or.inl hl)).1 _) (congrFun (lcF_fr (Or.inl hl)).1 _) (fun p => congrFun (lcF_fr (o := (17, l, p)) (Or.inl hl)).1 _) (fun p => congrFun (lcF_fr (o := (17, l, p)) (Or.inl hl)).1 _)
/-- Math.floorMod, RefundShaper.undo -/
theorem x0 {pn : Nat} (h : pn < 8) : X xtab sx 0 0 [some (.int (Int32.ofNat pn - 1)), some (.int 8), none] [] (hp s0 S, m) = some (.inl (some (.int (Int32.ofNat ((pn + 7) % 8)))), (hp s0 S, m)) := by
  have h8 : pn = 0 ∨ pn = 1 ∨ pn = 2 ∨ pn = 3 ∨ pn = 4 ∨ pn = 5 ∨ pn = 6 ∨ pn = 7 := by omega
  rcases h8 with h | h | h | h | h | h | h | h <;> subst h <;> simp [e_0_0, e_0_1, e_0_2, e_0_3, e_0_4, e_0_5, e_0_6, e_0_7, e_0_10, e_0_11, e_0_14, e_0_15, e_0_16, e_0_17, e_0_18, e_0_19, xentry, xent, Value.category, kB1_some, kB1_ite, kB_some, kB_ite, kB3_some, kX_some, kX_ite, kC_ite, kR_ret, kR_thr, kR_ite, kR0_ret, kR0_ite, kW_some, xretv, xst1, xst2, xcl, xsum, upI_1, upI_2, upJ_1, upJ_2, upJ_3, rwI_1, rwI_2, rwJ_1, rwJ_2, rwJ_3, upD_1, upD_2, upI_upI, upJ_upJ, x_mmin, x_mmax, x_objInit, List.length_cons, xmL, k1_iconst, k1_bipush, k1_sipush, k1_lconst, k1_dconst0, k1_dconst1, k1_fconst0, k1_fconst1, k1_iload, k1_lload, k1_aload, k1_dload, k1_fload, k1_istore, k1_lstore, k1_astore, k1_dstore, k1_fstore, k1_iinc, k1_iadd, k1_isub, k1_imul, k1_iand, k1_ixor, k1_ishr, k1_ladd, k1_lsub, k1_lmul, k1_land, k1_lor, k1_lcmp, k1_lshl, k1_lshr, k1_idiv, k1_irem, k1_ldiv, k1_lrem, k1_fdiv, k1_ddiv, k1_f2d, k1_i2l, k1_l2i, k1_i2b, k1_l2d, k1_l2f, k1_dcmpl, k1_dcmpg, k1_fcmpl, k1_fcmpg, k1_dup, k1_pop, k1_dup2, k1_goto, k1_ifeq, k1_ifne, k1_iflt, k1_ifge, k1_ifgt, k1_ifle, k1_icmpeq, k1_icmpne, k1_icmplt, k1_icmpge, k1_icmpgt, k1_icmple, k3_constI, k3_constJ, k3_constD, gf_5_0, gf_5_1, gf_5_2, gf_5_3, gf_5_4, gf_5_5, pf_5_5, gf_5_6, pf_5_6, gf_5_7, gf_5_8, gf_4_0, gf_4_1, pf_4_1, gf_4_2, pf_4_2, gf_4_3, pf_4_3, gf_4_4, pf_4_4, gf_4_5, pf_4_5, gf_4_6, gf_4_7, pf_4_7, gf_4_8, pf_4_8, gf_4_9, pf_4_9, gf_3_0, gf_3_1, pf_3_1, gf_6_0, gf_6_1, gf_6_2, gf_6_3, gf_6_4, gf_6_5, gf_6_6, gf_6_7, gf_6_8, gf_6_9, gf_6_10, gf_6_11, pf_6_11, gf_6_12, pf_6_12, gf_6_13, gf_6_14, pf_6_14, gf_6_15, pf_6_15, gf_6_16, pf_6_16, gf_6_17, pf_6_17, gf_6_18, pf_6_18, gf_6_19, pf_6_19, gf_6_20, pf_6_20, gf_6_21, pf_6_21, gf_6_22, pf_6_22, gf_6_23, gf_6_24, gf_6_25, gf_6_26, pf_6_26, gf_6_27, gf_6_28, pf_6_28, gf_0_0, pf_0_0, gf_0_1, pf_0_1, gf_0_2, pf_0_2, gf_0_3, pf_0_3, gf_0_4, pf_0_4, gf_2_0, pf_2_0, gf_2_1, pf_2_1, gf_2_2, pf_2_2, gf_2_3, pf_2_3, gf_2_4, pf_2_4, gf_2_5, pf_2_5, gf_2_6, pf_2_6, gf_2_7, pf_2_7, gf_2_8, pf_2_8, gf_2_9, pf_2_9, gf_2_10, pf_2_10, gf_2_11, pf_2_11, gf_2_12, gf_2_13, gf_1_0, pf_1_0, gf_1_1, pf_1_1, gf_1_2, pf_1_2, gf_1_3, pf_1_3, gf_1_4, pf_1_4, gf_1_5, pf_1_5, gf_1_6, pf_1_6, gf_1_7, pf_1_7, gf_1_8, pf_1_8, gf_1_9, pf_1_9, gf_1_10, pf_1_10, gf_1_11, gf_1_12, gf_1_13, al_sl, as_sl, al_ct, as_ct, al_hr, as_hr, al_tx, as_tx, al_rb, as_rb, al_sv, as_sv, al_out, as_out, al_od, al_ha, al_pa, al_ps, al_sn, al_ai, as_ai, al_az, as_az, al_aj, as_aj, ln_hr, kv_rs, kv_tr, kv_rp, kv_md, kv_lk, kv_hh, kv_pg] <;> decide
theorem x37z (h : S.1 (0, 0, 0) 6 = 0) : X xtab sx 37 0 [some (.ref (adr s0 (0, 0, 0)))] [] (hp s0 S, m) = some (.inl (some (.int (-1))), (hp s0 S, m)) := by
  simp [e_37_0, e_37_1, e_37_4, e_37_7, e_37_8, e_37_9, e_37_10, e_37_11, e_37_14, e_37_15, e_37_16, e_37_18, e_37_21, e_37_24, e_37_25, e_37_26, e_37_29, e_37_30, e_37_31, e_37_34, e_37_35, e_37_38, e_37_39, e_37_42, e_37_43, e_37_46, e_37_47, e_37_50, e_37_51, e_37_54, xentry, xent, Value.category, kB1_some, kB1_ite, kB_some, kB_ite, kB3_some, kX_some, kX_ite, kC_ite, kR_ret, kR_thr, kR_ite, kR0_ret, kR0_ite, kW_some, xretv, xst1, xst2, xcl, xsum, upI_1, upI_2, upJ_1, upJ_2, upJ_3, rwI_1, rwI_2, rwJ_1, rwJ_2, rwJ_3, upD_1, upD_2, upI_upI, upJ_upJ, x_mmin, x_mmax, x_objInit, List.length_cons, xmL, k1_iconst, k1_bipush, k1_sipush, k1_lconst, k1_dconst0, k1_dconst1, k1_fconst0, k1_fconst1, k1_iload, k1_lload, k1_aload, k1_dload, k1_fload, k1_istore, k1_lstore, k1_astore, k1_dstore, k1_fstore, k1_iinc, k1_iadd, k1_isub, k1_imul, k1_iand, k1_ixor, k1_ishr, k1_ladd, k1_lsub, k1_lmul, k1_land, k1_lor, k1_lcmp, k1_lshl, k1_lshr, k1_idiv, k1_irem, k1_ldiv, k1_lrem, k1_fdiv, k1_ddiv, k1_f2d, k1_i2l, k1_l2i, k1_i2b, k1_l2d, k1_l2f, k1_dcmpl, k1_dcmpg, k1_fcmpl, k1_fcmpg, k1_dup, k1_pop, k1_dup2, k1_goto, k1_ifeq, k1_ifne, k1_iflt, k1_ifge, k1_ifgt, k1_ifle, k1_icmpeq, k1_icmpne, k1_icmplt, k1_icmpge, k1_icmpgt, k1_icmple, k3_constI, k3_constJ, k3_constD, gf_5_0, gf_5_1, gf_5_2, gf_5_3, gf_5_4, gf_5_5, pf_5_5, gf_5_6, pf_5_6, gf_5_7, gf_5_8, gf_4_0, gf_4_1, pf_4_1, gf_4_2, pf_4_2, gf_4_3, pf_4_3, gf_4_4, pf_4_4, gf_4_5, pf_4_5, gf_4_6, gf_4_7, pf_4_7, gf_4_8, pf_4_8, gf_4_9, pf_4_9, gf_3_0, gf_3_1, pf_3_1, gf_6_0, gf_6_1, gf_6_2, gf_6_3, gf_6_4, gf_6_5, gf_6_6, gf_6_7, gf_6_8, gf_6_9, gf_6_10, gf_6_11, pf_6_11, gf_6_12, pf_6_12, gf_6_13, gf_6_14, pf_6_14, gf_6_15, pf_6_15, gf_6_16, pf_6_16, gf_6_17, pf_6_17, gf_6_18, pf_6_18, gf_6_19, pf_6_19, gf_6_20, pf_6_20, gf_6_21, pf_6_21, gf_6_22, pf_6_22, gf_6_23, gf_6_24, gf_6_25, gf_6_26, pf_6_26, gf_6_27, gf_6_28, pf_6_28, gf_0_0, pf_0_0, gf_0_1, pf_0_1, gf_0_2, pf_0_2, gf_0_3, pf_0_3, gf_0_4, pf_0_4, gf_2_0, pf_2_0, gf_2_1, pf_2_1, gf_2_2, pf_2_2, gf_2_3, pf_2_3, gf_2_4, pf_2_4, gf_2_5, pf_2_5, gf_2_6, pf_2_6, gf_2_7, pf_2_7, gf_2_8, pf_2_8, gf_2_9, pf_2_9, gf_2_10, pf_2_10, gf_2_11, pf_2_11, gf_2_12, gf_2_13, gf_1_0, pf_1_0, gf_1_1, pf_1_1, gf_1_2, pf_1_2, gf_1_3, pf_1_3, gf_1_4, pf_1_4, gf_1_5, pf_1_5, gf_1_6, pf_1_6, gf_1_7, pf_1_7, gf_1_8, pf_1_8, gf_1_9, pf_1_9, gf_1_10, pf_1_10, gf_1_11, gf_1_12, gf_1_13, al_sl, as_sl, al_ct, as_ct, al_hr, as_hr, al_tx, as_tx, al_rb, as_rb, al_sv, as_sv, al_out, as_out, al_od, al_ha, al_pa, al_ps, al_sn, al_ai, as_ai, al_az, as_az, al_aj, as_aj, ln_hr, kv_rs, kv_tr, kv_rp, kv_md, kv_lk, kv_hh, kv_pg, h]
def unP (S : St) (pn pc : Nat) : St := upI (upI S (0, 0, 0) 5 (Int32.ofNat ((pn + 7) % 8))) (0, 0, 0) 6 (Int32.ofNat (pc - 1))
theorem unP_k {pn pc : Nat} {o : Ob} (h : o ≠ (0, 0, 0)) : (unP S pn pc).1 o = S.1 o := by
  unfold unP
  rw [upI_fun' _ _ _ h, upI_fun' _ _ _ h]
theorem x37n {pn pc t : Nat} (h5 : S.1 (0, 0, 0) 5 = Int32.ofNat pn) (hpn : pn < 8) (h6 : S.1 (0, 0, 0) 6 = Int32.ofNat pc) (hpc : 1 ≤ pc ∧ pc ≤ 8) (hL : Lok S (3 + (pn + 7) % 8) n nh t) (hB : Lob S (3 + (pn + 7) % 8) n) : X xtab sx 37 0 [some (.ref (adr s0 (0, 0, 0)))] [] (hp s0 S, m) = some (.inl (some (.int (Int32.ofNat (pc - 1)))), (hp s0 (lcF (unP S pn pc) 1 (3 + (pn + 7) % 8) n nh), m)) := by
  have hu := fun g => congrFun (unP_k (S := S) (pn := pn) (pc := pc) (o := (12, 3 + (pn + 7) % 8, 0)) (by simp)) g
  have hv := fun p g => congrFun (unP_k (S := S) (pn := pn) (pc := pc) (o := (17, 3 + (pn + 7) % 8, p)) (by simp)) g
  have hx := x158' (sx := sx) (s0 := s0) (S := unP S pn pc) (m := m) (k := 1) (k' := 3 + (pn + 7) % 8) (by decide) (by omega) (by omega) (Lok_fr hL (hu _) (hu _) (hu _) (fun p => hv p _) (fun p => hv p _)) ⟨by rw [hu]; exact hB.1, fun p hp => by rw [hv]; exact hB.2 p hp⟩
  have hne : ¬ Int32.ofNat pc = 0 := by
    intro e
    have := congrArg Int32.toNatClampNeg e
    rw [oN_clamp (by omega)] at this
    exact absurd this (by simp; omega)
  have hs : Int32.ofNat pc - 1 = Int32.ofNat (pc - 1) := by rw [show (1 : Int32) = Int32.ofNat 1 from rfl, oN_sub hpc.1]
  have hc := oN_clamp (i := (pn + 7) % 8) (by omega)
  have hg := oN_neg (i := (pn + 7) % 8) (by omega)
  have hlt : ¬ 8 ≤ (pn + 7) % 8 := by omega
  rw [unP] at hx
  simp [e_37_0, e_37_1, e_37_4, e_37_7, e_37_8, e_37_9, e_37_10, e_37_11, e_37_14, e_37_15, e_37_16, e_37_18, e_37_21, e_37_24, e_37_25, e_37_26, e_37_29, e_37_30, e_37_31, e_37_34, e_37_35, e_37_38, e_37_39, e_37_42, e_37_43, e_37_46, e_37_47, e_37_50, e_37_51, e_37_54, xentry, xent, Value.category, kB1_some, kB1_ite, kB_some, kB_ite, kB3_some, kX_some, kX_ite, kC_ite, kR_ret, kR_thr, kR_ite, kR0_ret, kR0_ite, kW_some, xretv, xst1, xst2, xcl, xsum, upI_1, upI_2, upJ_1, upJ_2, upJ_3, rwI_1, rwI_2, rwJ_1, rwJ_2, rwJ_3, upD_1, upD_2, upI_upI, upJ_upJ, x_mmin, x_mmax, x_objInit, List.length_cons, xmL, k1_iconst, k1_bipush, k1_sipush, k1_lconst, k1_dconst0, k1_dconst1, k1_fconst0, k1_fconst1, k1_iload, k1_lload, k1_aload, k1_dload, k1_fload, k1_istore, k1_lstore, k1_astore, k1_dstore, k1_fstore, k1_iinc, k1_iadd, k1_isub, k1_imul, k1_iand, k1_ixor, k1_ishr, k1_ladd, k1_lsub, k1_lmul, k1_land, k1_lor, k1_lcmp, k1_lshl, k1_lshr, k1_idiv, k1_irem, k1_ldiv, k1_lrem, k1_fdiv, k1_ddiv, k1_f2d, k1_i2l, k1_l2i, k1_i2b, k1_l2d, k1_l2f, k1_dcmpl, k1_dcmpg, k1_fcmpl, k1_fcmpg, k1_dup, k1_pop, k1_dup2, k1_goto, k1_ifeq, k1_ifne, k1_iflt, k1_ifge, k1_ifgt, k1_ifle, k1_icmpeq, k1_icmpne, k1_icmplt, k1_icmpge, k1_icmpgt, k1_icmple, k3_constI, k3_constJ, k3_constD, gf_5_0, gf_5_1, gf_5_2, gf_5_3, gf_5_4, gf_5_5, pf_5_5, gf_5_6, pf_5_6, gf_5_7, gf_5_8, gf_4_0, gf_4_1, pf_4_1, gf_4_2, pf_4_2, gf_4_3, pf_4_3, gf_4_4, pf_4_4, gf_4_5, pf_4_5, gf_4_6, gf_4_7, pf_4_7, gf_4_8, pf_4_8, gf_4_9, pf_4_9, gf_3_0, gf_3_1, pf_3_1, gf_6_0, gf_6_1, gf_6_2, gf_6_3, gf_6_4, gf_6_5, gf_6_6, gf_6_7, gf_6_8, gf_6_9, gf_6_10, gf_6_11, pf_6_11, gf_6_12, pf_6_12, gf_6_13, gf_6_14, pf_6_14, gf_6_15, pf_6_15, gf_6_16, pf_6_16, gf_6_17, pf_6_17, gf_6_18, pf_6_18, gf_6_19, pf_6_19, gf_6_20, pf_6_20, gf_6_21, pf_6_21, gf_6_22, pf_6_22, gf_6_23, gf_6_24, gf_6_25, gf_6_26, pf_6_26, gf_6_27, gf_6_28, pf_6_28, gf_0_0, pf_0_0, gf_0_1, pf_0_1, gf_0_2, pf_0_2, gf_0_3, pf_0_3, gf_0_4, pf_0_4, gf_2_0, pf_2_0, gf_2_1, pf_2_1, gf_2_2, pf_2_2, gf_2_3, pf_2_3, gf_2_4, pf_2_4, gf_2_5, pf_2_5, gf_2_6, pf_2_6, gf_2_7, pf_2_7, gf_2_8, pf_2_8, gf_2_9, pf_2_9, gf_2_10, pf_2_10, gf_2_11, pf_2_11, gf_2_12, gf_2_13, gf_1_0, pf_1_0, gf_1_1, pf_1_1, gf_1_2, pf_1_2, gf_1_3, pf_1_3, gf_1_4, pf_1_4, gf_1_5, pf_1_5, gf_1_6, pf_1_6, gf_1_7, pf_1_7, gf_1_8, pf_1_8, gf_1_9, pf_1_9, gf_1_10, pf_1_10, gf_1_11, gf_1_12, gf_1_13, al_sl, as_sl, al_ct, as_ct, al_hr, as_hr, al_tx, as_tx, al_rb, as_rb, al_sv, as_sv, al_out, as_out, al_od, al_ha, al_pa, al_ps, al_sn, al_ai, as_ai, al_az, as_az, al_aj, as_aj, ln_hr, kv_rs, kv_tr, kv_rp, kv_md, kv_lk, kv_hh, kv_pg, h5, h6, hne, x0 hpn, hs, hc, hg, hlt, hx, lcF_0, unP, show 3 + (pn + 7) % 8 < 13 by omega]
/-- RefundShaper.saveSnapshot, restoreSnapshot -/
theorem x38n {t i : Nat} (hL : Lok S 1 n nh t) (hB : Lob S 1 n) (hi : i < 2) (hv : S.1 (7, 0, 0) i = 0 ∨ S.1 (7, 0, 0) i = 1) : X xtab sx 38 0 [some (.ref (adr s0 (0, 0, 0))), some (.int (Int32.ofNat i)), none] [] (hp s0 S, m) = some (.inl (some (.int (S.1 (7, 0, 0) i))), (hp s0 (upI (lcF S (11 + i) 1 n nh) (7, 0, 0) i 1), m)) := by
  have hx := x158' (sx := sx) (s0 := s0) (S := S) (m := m) (k := 11 + i) (k' := 1) (by omega) (by decide) (by omega) hL hB
  have hr := x45n (sx := sx) (s0 := s0) (S := S) (m := m) (q := Int32.ofNat i) (a := 0) (b := 1) (by rw [show (0 : Int32) = Int32.ofNat 0 from rfl, oN_le (by omega) (by omega)]; omega) (by rw [show (1 : Int32) = Int32.ofNat 1 from rfl, oN_le (by omega) (by omega)]; omega)
  have hc := oN_clamp (i := i) (by omega)
  have hg := oN_neg (i := i) (by omega)
  simp [e_38_0, e_38_1, e_38_2, e_38_3, e_38_6, e_38_7, e_38_10, e_38_11, e_38_12, e_38_13, e_38_14, e_38_17, e_38_18, e_38_19, e_38_20, e_38_23, e_38_26, e_38_27, e_38_30, e_38_31, e_38_32, e_38_33, e_38_34, xentry, xent, Value.category, kB1_some, kB1_ite, kB_some, kB_ite, kB3_some, kX_some, kX_ite, kC_ite, kR_ret, kR_thr, kR_ite, kR0_ret, kR0_ite, kW_some, xretv, xst1, xst2, xcl, xsum, upI_1, upI_2, upJ_1, upJ_2, upJ_3, rwI_1, rwI_2, rwJ_1, rwJ_2, rwJ_3, upD_1, upD_2, upI_upI, upJ_upJ, x_mmin, x_mmax, x_objInit, List.length_cons, xmL, k1_iconst, k1_bipush, k1_sipush, k1_lconst, k1_dconst0, k1_dconst1, k1_fconst0, k1_fconst1, k1_iload, k1_lload, k1_aload, k1_dload, k1_fload, k1_istore, k1_lstore, k1_astore, k1_dstore, k1_fstore, k1_iinc, k1_iadd, k1_isub, k1_imul, k1_iand, k1_ixor, k1_ishr, k1_ladd, k1_lsub, k1_lmul, k1_land, k1_lor, k1_lcmp, k1_lshl, k1_lshr, k1_idiv, k1_irem, k1_ldiv, k1_lrem, k1_fdiv, k1_ddiv, k1_f2d, k1_i2l, k1_l2i, k1_i2b, k1_l2d, k1_l2f, k1_dcmpl, k1_dcmpg, k1_fcmpl, k1_fcmpg, k1_dup, k1_pop, k1_dup2, k1_goto, k1_ifeq, k1_ifne, k1_iflt, k1_ifge, k1_ifgt, k1_ifle, k1_icmpeq, k1_icmpne, k1_icmplt, k1_icmpge, k1_icmpgt, k1_icmple, k3_constI, k3_constJ, k3_constD, gf_5_0, gf_5_1, gf_5_2, gf_5_3, gf_5_4, gf_5_5, pf_5_5, gf_5_6, pf_5_6, gf_5_7, gf_5_8, gf_4_0, gf_4_1, pf_4_1, gf_4_2, pf_4_2, gf_4_3, pf_4_3, gf_4_4, pf_4_4, gf_4_5, pf_4_5, gf_4_6, gf_4_7, pf_4_7, gf_4_8, pf_4_8, gf_4_9, pf_4_9, gf_3_0, gf_3_1, pf_3_1, gf_6_0, gf_6_1, gf_6_2, gf_6_3, gf_6_4, gf_6_5, gf_6_6, gf_6_7, gf_6_8, gf_6_9, gf_6_10, gf_6_11, pf_6_11, gf_6_12, pf_6_12, gf_6_13, gf_6_14, pf_6_14, gf_6_15, pf_6_15, gf_6_16, pf_6_16, gf_6_17, pf_6_17, gf_6_18, pf_6_18, gf_6_19, pf_6_19, gf_6_20, pf_6_20, gf_6_21, pf_6_21, gf_6_22, pf_6_22, gf_6_23, gf_6_24, gf_6_25, gf_6_26, pf_6_26, gf_6_27, gf_6_28, pf_6_28, gf_0_0, pf_0_0, gf_0_1, pf_0_1, gf_0_2, pf_0_2, gf_0_3, pf_0_3, gf_0_4, pf_0_4, gf_2_0, pf_2_0, gf_2_1, pf_2_1, gf_2_2, pf_2_2, gf_2_3, pf_2_3, gf_2_4, pf_2_4, gf_2_5, pf_2_5, gf_2_6, pf_2_6, gf_2_7, pf_2_7, gf_2_8, pf_2_8, gf_2_9, pf_2_9, gf_2_10, pf_2_10, gf_2_11, pf_2_11, gf_2_12, gf_2_13, gf_1_0, pf_1_0, gf_1_1, pf_1_1, gf_1_2, pf_1_2, gf_1_3, pf_1_3, gf_1_4, pf_1_4, gf_1_5, pf_1_5, gf_1_6, pf_1_6, gf_1_7, pf_1_7, gf_1_8, pf_1_8, gf_1_9, pf_1_9, gf_1_10, pf_1_10, gf_1_11, gf_1_12, gf_1_13, al_sl, as_sl, al_ct, as_ct, al_hr, as_hr, al_tx, as_tx, al_rb, as_rb, al_sv, as_sv, al_out, as_out, al_od, al_ha, al_pa, al_ps, al_sn, al_ai, as_ai, al_az, as_az, al_aj, as_aj, ln_hr, kv_rs, kv_tr, kv_rp, kv_md, kv_lk, kv_hh, kv_pg, hr, hc, hg, hx, hv, show ¬ 2 ≤ i by omega, show 11 + i < 13 by omega, show vp_nar .boolean 1 = 1 from rfl]
theorem x38t (h : v < 0 ∨ 1 < v) : X xtab sx 38 0 [some (.ref (adr s0 (0, 0, 0))), some (.int v), none] [] (hp s0 S, m) = some (.inr 0, (hp s0 S, 0, m.2.1 + 1, m.2.2 + 6)) := by
  simp [e_38_0, e_38_1, e_38_2, e_38_3, e_38_6, e_38_7, e_38_10, e_38_11, e_38_12, e_38_13, e_38_14, e_38_17, e_38_18, e_38_19, e_38_20, e_38_23, e_38_26, e_38_27, e_38_30, e_38_31, e_38_32, e_38_33, e_38_34, xentry, xent, Value.category, kB1_some, kB1_ite, kB_some, kB_ite, kB3_some, kX_some, kX_ite, kC_ite, kR_ret, kR_thr, kR_ite, kR0_ret, kR0_ite, kW_some, xretv, xst1, xst2, xcl, xsum, upI_1, upI_2, upJ_1, upJ_2, upJ_3, rwI_1, rwI_2, rwJ_1, rwJ_2, rwJ_3, upD_1, upD_2, upI_upI, upJ_upJ, x_mmin, x_mmax, x_objInit, List.length_cons, xmL, k1_iconst, k1_bipush, k1_sipush, k1_lconst, k1_dconst0, k1_dconst1, k1_fconst0, k1_fconst1, k1_iload, k1_lload, k1_aload, k1_dload, k1_fload, k1_istore, k1_lstore, k1_astore, k1_dstore, k1_fstore, k1_iinc, k1_iadd, k1_isub, k1_imul, k1_iand, k1_ixor, k1_ishr, k1_ladd, k1_lsub, k1_lmul, k1_land, k1_lor, k1_lcmp, k1_lshl, k1_lshr, k1_idiv, k1_irem, k1_ldiv, k1_lrem, k1_fdiv, k1_ddiv, k1_f2d, k1_i2l, k1_l2i, k1_i2b, k1_l2d, k1_l2f, k1_dcmpl, k1_dcmpg, k1_fcmpl, k1_fcmpg, k1_dup, k1_pop, k1_dup2, k1_goto, k1_ifeq, k1_ifne, k1_iflt, k1_ifge, k1_ifgt, k1_ifle, k1_icmpeq, k1_icmpne, k1_icmplt, k1_icmpge, k1_icmpgt, k1_icmple, k3_constI, k3_constJ, k3_constD, gf_5_0, gf_5_1, gf_5_2, gf_5_3, gf_5_4, gf_5_5, pf_5_5, gf_5_6, pf_5_6, gf_5_7, gf_5_8, gf_4_0, gf_4_1, pf_4_1, gf_4_2, pf_4_2, gf_4_3, pf_4_3, gf_4_4, pf_4_4, gf_4_5, pf_4_5, gf_4_6, gf_4_7, pf_4_7, gf_4_8, pf_4_8, gf_4_9, pf_4_9, gf_3_0, gf_3_1, pf_3_1, gf_6_0, gf_6_1, gf_6_2, gf_6_3, gf_6_4, gf_6_5, gf_6_6, gf_6_7, gf_6_8, gf_6_9, gf_6_10, gf_6_11, pf_6_11, gf_6_12, pf_6_12, gf_6_13, gf_6_14, pf_6_14, gf_6_15, pf_6_15, gf_6_16, pf_6_16, gf_6_17, pf_6_17, gf_6_18, pf_6_18, gf_6_19, pf_6_19, gf_6_20, pf_6_20, gf_6_21, pf_6_21, gf_6_22, pf_6_22, gf_6_23, gf_6_24, gf_6_25, gf_6_26, pf_6_26, gf_6_27, gf_6_28, pf_6_28, gf_0_0, pf_0_0, gf_0_1, pf_0_1, gf_0_2, pf_0_2, gf_0_3, pf_0_3, gf_0_4, pf_0_4, gf_2_0, pf_2_0, gf_2_1, pf_2_1, gf_2_2, pf_2_2, gf_2_3, pf_2_3, gf_2_4, pf_2_4, gf_2_5, pf_2_5, gf_2_6, pf_2_6, gf_2_7, pf_2_7, gf_2_8, pf_2_8, gf_2_9, pf_2_9, gf_2_10, pf_2_10, gf_2_11, pf_2_11, gf_2_12, gf_2_13, gf_1_0, pf_1_0, gf_1_1, pf_1_1, gf_1_2, pf_1_2, gf_1_3, pf_1_3, gf_1_4, pf_1_4, gf_1_5, pf_1_5, gf_1_6, pf_1_6, gf_1_7, pf_1_7, gf_1_8, pf_1_8, gf_1_9, pf_1_9, gf_1_10, pf_1_10, gf_1_11, gf_1_12, gf_1_13, al_sl, as_sl, al_ct, as_ct, al_hr, as_hr, al_tx, as_tx, al_rb, as_rb, al_sv, as_sv, al_out, as_out, al_od, al_ha, al_pa, al_ps, al_sn, al_ai, as_ai, al_az, as_az, al_aj, as_aj, ln_hr, kv_rs, kv_tr, kv_rp, kv_md, kv_lk, kv_hh, kv_pg, x45t h]
theorem x39n {t i : Nat} (hL : Lok S (11 + i) n nh t) (hB : Lob S (11 + i) n) (hi : i < 2) (hv : S.1 (7, 0, 0) i ≠ 0) : X xtab sx 39 0 [some (.ref (adr s0 (0, 0, 0))), some (.int (Int32.ofNat i))] [] (hp s0 S, m) = some (.inl (some (.int (Int32.ofNat t))), (hp s0 (upI (lcF S 1 (11 + i) n nh) (0, 0, 0) 6 0), m)) := by
  have hx := x158' (sx := sx) (s0 := s0) (S := S) (m := m) (k := 1) (k' := 11 + i) (by decide) (by omega) (by omega) hL hB
  have hr := x45n (sx := sx) (s0 := s0) (S := S) (m := m) (q := Int32.ofNat i) (a := 0) (b := 1) (by rw [show (0 : Int32) = Int32.ofNat 0 from rfl, oN_le (by omega) (by omega)]; omega) (by rw [show (1 : Int32) = Int32.ofNat 1 from rfl, oN_le (by omega) (by omega)]; omega)
  have hc := oN_clamp (i := i) (by omega)
  have hg := oN_neg (i := i) (by omega)
  have h5 : (lcF S 1 (11 + i) n nh).1 (12, 1, 0) 5 = Int32.ofNat t := (lcF_lk (by decide)).trans hL.2.2.2.2.2.1
  simp [e_39_0, e_39_1, e_39_2, e_39_3, e_39_6, e_39_7, e_39_10, e_39_11, e_39_12, e_39_15, e_39_26, e_39_27, e_39_30, e_39_31, e_39_34, e_39_35, e_39_36, e_39_39, e_39_40, e_39_41, e_39_44, e_39_45, e_39_48, e_39_51, xentry, xent, Value.category, kB1_some, kB1_ite, kB_some, kB_ite, kB3_some, kX_some, kX_ite, kC_ite, kR_ret, kR_thr, kR_ite, kR0_ret, kR0_ite, kW_some, xretv, xst1, xst2, xcl, xsum, upI_1, upI_2, upJ_1, upJ_2, upJ_3, rwI_1, rwI_2, rwJ_1, rwJ_2, rwJ_3, upD_1, upD_2, upI_upI, upJ_upJ, x_mmin, x_mmax, x_objInit, List.length_cons, xmL, k1_iconst, k1_bipush, k1_sipush, k1_lconst, k1_dconst0, k1_dconst1, k1_fconst0, k1_fconst1, k1_iload, k1_lload, k1_aload, k1_dload, k1_fload, k1_istore, k1_lstore, k1_astore, k1_dstore, k1_fstore, k1_iinc, k1_iadd, k1_isub, k1_imul, k1_iand, k1_ixor, k1_ishr, k1_ladd, k1_lsub, k1_lmul, k1_land, k1_lor, k1_lcmp, k1_lshl, k1_lshr, k1_idiv, k1_irem, k1_ldiv, k1_lrem, k1_fdiv, k1_ddiv, k1_f2d, k1_i2l, k1_l2i, k1_i2b, k1_l2d, k1_l2f, k1_dcmpl, k1_dcmpg, k1_fcmpl, k1_fcmpg, k1_dup, k1_pop, k1_dup2, k1_goto, k1_ifeq, k1_ifne, k1_iflt, k1_ifge, k1_ifgt, k1_ifle, k1_icmpeq, k1_icmpne, k1_icmplt, k1_icmpge, k1_icmpgt, k1_icmple, k3_constI, k3_constJ, k3_constD, gf_5_0, gf_5_1, gf_5_2, gf_5_3, gf_5_4, gf_5_5, pf_5_5, gf_5_6, pf_5_6, gf_5_7, gf_5_8, gf_4_0, gf_4_1, pf_4_1, gf_4_2, pf_4_2, gf_4_3, pf_4_3, gf_4_4, pf_4_4, gf_4_5, pf_4_5, gf_4_6, gf_4_7, pf_4_7, gf_4_8, pf_4_8, gf_4_9, pf_4_9, gf_3_0, gf_3_1, pf_3_1, gf_6_0, gf_6_1, gf_6_2, gf_6_3, gf_6_4, gf_6_5, gf_6_6, gf_6_7, gf_6_8, gf_6_9, gf_6_10, gf_6_11, pf_6_11, gf_6_12, pf_6_12, gf_6_13, gf_6_14, pf_6_14, gf_6_15, pf_6_15, gf_6_16, pf_6_16, gf_6_17, pf_6_17, gf_6_18, pf_6_18, gf_6_19, pf_6_19, gf_6_20, pf_6_20, gf_6_21, pf_6_21, gf_6_22, pf_6_22, gf_6_23, gf_6_24, gf_6_25, gf_6_26, pf_6_26, gf_6_27, gf_6_28, pf_6_28, gf_0_0, pf_0_0, gf_0_1, pf_0_1, gf_0_2, pf_0_2, gf_0_3, pf_0_3, gf_0_4, pf_0_4, gf_2_0, pf_2_0, gf_2_1, pf_2_1, gf_2_2, pf_2_2, gf_2_3, pf_2_3, gf_2_4, pf_2_4, gf_2_5, pf_2_5, gf_2_6, pf_2_6, gf_2_7, pf_2_7, gf_2_8, pf_2_8, gf_2_9, pf_2_9, gf_2_10, pf_2_10, gf_2_11, pf_2_11, gf_2_12, gf_2_13, gf_1_0, pf_1_0, gf_1_1, pf_1_1, gf_1_2, pf_1_2, gf_1_3, pf_1_3, gf_1_4, pf_1_4, gf_1_5, pf_1_5, gf_1_6, pf_1_6, gf_1_7, pf_1_7, gf_1_8, pf_1_8, gf_1_9, pf_1_9, gf_1_10, pf_1_10, gf_1_11, gf_1_12, gf_1_13, al_sl, as_sl, al_ct, as_ct, al_hr, as_hr, al_tx, as_tx, al_rb, as_rb, al_sv, as_sv, al_out, as_out, al_od, al_ha, al_pa, al_ps, al_sn, al_ai, as_ai, al_az, as_az, al_aj, as_aj, ln_hr, kv_rs, kv_tr, kv_rp, kv_md, kv_lk, kv_hh, kv_pg, hr, hc, hg, hx, hv, h5, show ¬ 2 ≤ i by omega, show 11 + i < 13 by omega]
theorem x39s {i : Nat} (hi : i < 2) (hv : S.1 (7, 0, 0) i = 0) : X xtab sx 39 0 [some (.ref (adr s0 (0, 0, 0))), some (.int (Int32.ofNat i))] [] (hp s0 S, m) = some (.inr 1, (hp s0 S, 0, m.2.1 + 1, m.2.2 + 6)) := by
  have hr := x45n (sx := sx) (s0 := s0) (S := S) (m := m) (q := Int32.ofNat i) (a := 0) (b := 1) (by rw [show (0 : Int32) = Int32.ofNat 0 from rfl, oN_le (by omega) (by omega)]; omega) (by rw [show (1 : Int32) = Int32.ofNat 1 from rfl, oN_le (by omega) (by omega)]; omega)
  have hc := oN_clamp (i := i) (by omega)
  have hg := oN_neg (i := i) (by omega)
  simp [e_39_0, e_39_1, e_39_2, e_39_3, e_39_6, e_39_7, e_39_10, e_39_11, e_39_12, e_39_15, e_39_26, e_39_27, e_39_30, e_39_31, e_39_34, e_39_35, e_39_36, e_39_39, e_39_40, e_39_41, e_39_44, e_39_45, e_39_48, e_39_51, xentry, xent, Value.category, kB1_some, kB1_ite, kB_some, kB_ite, kB3_some, kX_some, kX_ite, kC_ite, kR_ret, kR_thr, kR_ite, kR0_ret, kR0_ite, kW_some, xretv, xst1, xst2, xcl, xsum, upI_1, upI_2, upJ_1, upJ_2, upJ_3, rwI_1, rwI_2, rwJ_1, rwJ_2, rwJ_3, upD_1, upD_2, upI_upI, upJ_upJ, x_mmin, x_mmax, x_objInit, List.length_cons, xmL, k1_iconst, k1_bipush, k1_sipush, k1_lconst, k1_dconst0, k1_dconst1, k1_fconst0, k1_fconst1, k1_iload, k1_lload, k1_aload, k1_dload, k1_fload, k1_istore, k1_lstore, k1_astore, k1_dstore, k1_fstore, k1_iinc, k1_iadd, k1_isub, k1_imul, k1_iand, k1_ixor, k1_ishr, k1_ladd, k1_lsub, k1_lmul, k1_land, k1_lor, k1_lcmp, k1_lshl, k1_lshr, k1_idiv, k1_irem, k1_ldiv, k1_lrem, k1_fdiv, k1_ddiv, k1_f2d, k1_i2l, k1_l2i, k1_i2b, k1_l2d, k1_l2f, k1_dcmpl, k1_dcmpg, k1_fcmpl, k1_fcmpg, k1_dup, k1_pop, k1_dup2, k1_goto, k1_ifeq, k1_ifne, k1_iflt, k1_ifge, k1_ifgt, k1_ifle, k1_icmpeq, k1_icmpne, k1_icmplt, k1_icmpge, k1_icmpgt, k1_icmple, k3_constI, k3_constJ, k3_constD, gf_5_0, gf_5_1, gf_5_2, gf_5_3, gf_5_4, gf_5_5, pf_5_5, gf_5_6, pf_5_6, gf_5_7, gf_5_8, gf_4_0, gf_4_1, pf_4_1, gf_4_2, pf_4_2, gf_4_3, pf_4_3, gf_4_4, pf_4_4, gf_4_5, pf_4_5, gf_4_6, gf_4_7, pf_4_7, gf_4_8, pf_4_8, gf_4_9, pf_4_9, gf_3_0, gf_3_1, pf_3_1, gf_6_0, gf_6_1, gf_6_2, gf_6_3, gf_6_4, gf_6_5, gf_6_6, gf_6_7, gf_6_8, gf_6_9, gf_6_10, gf_6_11, pf_6_11, gf_6_12, pf_6_12, gf_6_13, gf_6_14, pf_6_14, gf_6_15, pf_6_15, gf_6_16, pf_6_16, gf_6_17, pf_6_17, gf_6_18, pf_6_18, gf_6_19, pf_6_19, gf_6_20, pf_6_20, gf_6_21, pf_6_21, gf_6_22, pf_6_22, gf_6_23, gf_6_24, gf_6_25, gf_6_26, pf_6_26, gf_6_27, gf_6_28, pf_6_28, gf_0_0, pf_0_0, gf_0_1, pf_0_1, gf_0_2, pf_0_2, gf_0_3, pf_0_3, gf_0_4, pf_0_4, gf_2_0, pf_2_0, gf_2_1, pf_2_1, gf_2_2, pf_2_2, gf_2_3, pf_2_3, gf_2_4, pf_2_4, gf_2_5, pf_2_5, gf_2_6, pf_2_6, gf_2_7, pf_2_7, gf_2_8, pf_2_8, gf_2_9, pf_2_9, gf_2_10, pf_2_10, gf_2_11, pf_2_11, gf_2_12, gf_2_13, gf_1_0, pf_1_0, gf_1_1, pf_1_1, gf_1_2, pf_1_2, gf_1_3, pf_1_3, gf_1_4, pf_1_4, gf_1_5, pf_1_5, gf_1_6, pf_1_6, gf_1_7, pf_1_7, gf_1_8, pf_1_8, gf_1_9, pf_1_9, gf_1_10, pf_1_10, gf_1_11, gf_1_12, gf_1_13, al_sl, as_sl, al_ct, as_ct, al_hr, as_hr, al_tx, as_tx, al_rb, as_rb, al_sv, as_sv, al_out, as_out, al_od, al_ha, al_pa, al_ps, al_sn, al_ai, as_ai, al_az, as_az, al_aj, as_aj, ln_hr, kv_rs, kv_tr, kv_rp, kv_md, kv_lk, kv_hh, kv_pg, hr, hc, hg, hv, show ¬ 2 ≤ i by omega]
theorem x39t (h : v < 0 ∨ 1 < v) : X xtab sx 39 0 [some (.ref (adr s0 (0, 0, 0))), some (.int v)] [] (hp s0 S, m) = some (.inr 0, (hp s0 S, 0, m.2.1 + 1, m.2.2 + 6)) := by
  simp [e_39_0, e_39_1, e_39_2, e_39_3, e_39_6, e_39_7, e_39_10, e_39_11, e_39_12, e_39_15, e_39_26, e_39_27, e_39_30, e_39_31, e_39_34, e_39_35, e_39_36, e_39_39, e_39_40, e_39_41, e_39_44, e_39_45, e_39_48, e_39_51, xentry, xent, Value.category, kB1_some, kB1_ite, kB_some, kB_ite, kB3_some, kX_some, kX_ite, kC_ite, kR_ret, kR_thr, kR_ite, kR0_ret, kR0_ite, kW_some, xretv, xst1, xst2, xcl, xsum, upI_1, upI_2, upJ_1, upJ_2, upJ_3, rwI_1, rwI_2, rwJ_1, rwJ_2, rwJ_3, upD_1, upD_2, upI_upI, upJ_upJ, x_mmin, x_mmax, x_objInit, List.length_cons, xmL, k1_iconst, k1_bipush, k1_sipush, k1_lconst, k1_dconst0, k1_dconst1, k1_fconst0, k1_fconst1, k1_iload, k1_lload, k1_aload, k1_dload, k1_fload, k1_istore, k1_lstore, k1_astore, k1_dstore, k1_fstore, k1_iinc, k1_iadd, k1_isub, k1_imul, k1_iand, k1_ixor, k1_ishr, k1_ladd, k1_lsub, k1_lmul, k1_land, k1_lor, k1_lcmp, k1_lshl, k1_lshr, k1_idiv, k1_irem, k1_ldiv, k1_lrem, k1_fdiv, k1_ddiv, k1_f2d, k1_i2l, k1_l2i, k1_i2b, k1_l2d, k1_l2f, k1_dcmpl, k1_dcmpg, k1_fcmpl, k1_fcmpg, k1_dup, k1_pop, k1_dup2, k1_goto, k1_ifeq, k1_ifne, k1_iflt, k1_ifge, k1_ifgt, k1_ifle, k1_icmpeq, k1_icmpne, k1_icmplt, k1_icmpge, k1_icmpgt, k1_icmple, k3_constI, k3_constJ, k3_constD, gf_5_0, gf_5_1, gf_5_2, gf_5_3, gf_5_4, gf_5_5, pf_5_5, gf_5_6, pf_5_6, gf_5_7, gf_5_8, gf_4_0, gf_4_1, pf_4_1, gf_4_2, pf_4_2, gf_4_3, pf_4_3, gf_4_4, pf_4_4, gf_4_5, pf_4_5, gf_4_6, gf_4_7, pf_4_7, gf_4_8, pf_4_8, gf_4_9, pf_4_9, gf_3_0, gf_3_1, pf_3_1, gf_6_0, gf_6_1, gf_6_2, gf_6_3, gf_6_4, gf_6_5, gf_6_6, gf_6_7, gf_6_8, gf_6_9, gf_6_10, gf_6_11, pf_6_11, gf_6_12, pf_6_12, gf_6_13, gf_6_14, pf_6_14, gf_6_15, pf_6_15, gf_6_16, pf_6_16, gf_6_17, pf_6_17, gf_6_18, pf_6_18, gf_6_19, pf_6_19, gf_6_20, pf_6_20, gf_6_21, pf_6_21, gf_6_22, pf_6_22, gf_6_23, gf_6_24, gf_6_25, gf_6_26, pf_6_26, gf_6_27, gf_6_28, pf_6_28, gf_0_0, pf_0_0, gf_0_1, pf_0_1, gf_0_2, pf_0_2, gf_0_3, pf_0_3, gf_0_4, pf_0_4, gf_2_0, pf_2_0, gf_2_1, pf_2_1, gf_2_2, pf_2_2, gf_2_3, pf_2_3, gf_2_4, pf_2_4, gf_2_5, pf_2_5, gf_2_6, pf_2_6, gf_2_7, pf_2_7, gf_2_8, pf_2_8, gf_2_9, pf_2_9, gf_2_10, pf_2_10, gf_2_11, pf_2_11, gf_2_12, gf_2_13, gf_1_0, pf_1_0, gf_1_1, pf_1_1, gf_1_2, pf_1_2, gf_1_3, pf_1_3, gf_1_4, pf_1_4, gf_1_5, pf_1_5, gf_1_6, pf_1_6, gf_1_7, pf_1_7, gf_1_8, pf_1_8, gf_1_9, pf_1_9, gf_1_10, pf_1_10, gf_1_11, gf_1_12, gf_1_13, al_sl, as_sl, al_ct, as_ct, al_hr, as_hr, al_tx, as_tx, al_rb, as_rb, al_sv, as_sv, al_out, as_out, al_od, al_ha, al_pa, al_ps, al_sn, al_ai, as_ai, al_az, as_az, al_aj, as_aj, ln_hr, kv_rs, kv_tr, kv_rp, kv_md, kv_lk, kv_hh, kv_pg, x45t h]
end P24
