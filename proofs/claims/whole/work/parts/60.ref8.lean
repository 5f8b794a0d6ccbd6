section R8
variable {sx : xSx} {s0 n t : Nat} {S T U : St} {m : Nat × Nat × Nat} {y u a : Int32}
/-! what a slot of the model touches at all -/
def Rt (S T : St) : Prop := (∀ o, o ≠ (11, 0, 0) → o ≠ (11, 12, 0) → o ≠ (11, 13, 0) → o ≠ (11, 14, 0) → o ≠ (8, 0, 0) → T.1 o = S.1 o) ∧ (∀ f, f ≠ 26 → T.1 (8, 0, 0) f = S.1 (8, 0, 0) f) ∧ (∀ o, o ≠ (11, 5, 0) → T.2.1 o = S.2.1 o) ∧ T.2.2 = S.2.2
theorem Rt.refl : Rt S S := ⟨fun _ _ _ _ _ _ => rfl, fun _ _ => rfl, fun _ _ => rfl, rfl⟩
theorem Rt.trans (h1 : Rt S T) (h2 : Rt T U) : Rt S U := ⟨fun o a b c d e => (h2.1 o a b c d e).trans (h1.1 o a b c d e), fun f hf => (h2.2.1 f hf).trans (h1.2.1 f hf), fun o ho => (h2.2.2.1 o ho).trans (h1.2.2.1 o ho), h2.2.2.2.trans h1.2.2.2⟩
theorem Rt_I (h : Rt S T) {o : Ob} {f : Nat} {v : Int32} (ho : o = (11, 0, 0) ∨ o = (11, 12, 0) ∨ o = (11, 13, 0) ∨ o = (11, 14, 0)) : Rt S (upI T o f v) := by
  refine h.trans ⟨fun o' a b c d e => ?_, fun f' hf => ?_, fun _ _ => rfl, rfl⟩
  · refine upI_fun' _ _ _ ?_
    rcases ho with h | h | h | h <;> rw [h] <;> assumption
  · rw [upI_1, if_neg]
    rintro ⟨h1, _⟩
    rcases ho with h | h | h | h <;> rw [h] at h1 <;> simp at h1
theorem Rt_8 (h : Rt S T) {v : Int32} : Rt S (upI T (8, 0, 0) 26 v) := by
  refine h.trans ⟨fun o' a b c d e => upI_fun' _ _ _ e, fun f' hf => ?_, fun _ _ => rfl, rfl⟩
  rw [upI_1, if_neg (by rintro ⟨_, h1⟩; exact hf h1)]
theorem Rt_H (h : Rt S T) {j x : Nat} {v : Int32} : Rt S (sH T j x v) := Rt_I h (Or.inl rfl)
theorem Rt_L (h : Rt S T) {j x : Nat} {v : Int32} : Rt S (sL T j x v) := Rt_I h (Or.inl rfl)
theorem Rt_P (h : Rt S T) {j x : Nat} {v : Int32} : Rt S (sP T j x v) := Rt_I h (Or.inl rfl)
theorem Rt_Z (h : Rt S T) {j : Nat} {v : Int32} : Rt S (upI T (11, 0, 0) j v) := Rt_I h (Or.inl rfl)
theorem Rt_C (h : Rt S T) {j x : Nat} {v : Int64} : Rt S (sC T j x v) := h.trans ⟨fun _ _ _ _ _ _ => rfl, fun _ _ => rfl, fun o ho => upJ_fun' _ _ _ ho, rfl⟩
theorem rpO_Rt : ∀ j, Rt S (rpO S j) := by
  intro j
  induction j with
  | zero => exact Rt.refl
  | succ j ih => exact Rt_I (Rt_I (Rt_I (Rt_C (Rt_H (Rt_H (Rt_L (Rt_L (Rt_L (Rt_L (Rt_L ih)))))))) (by simp)) (by simp)) (by simp)
theorem rpY_Rt : ∀ j, Rt S (rpY S j) := by
  intro j
  induction j with
  | zero => exact Rt.refl
  | succ j ih => exact Rt_C (Rt_H (Rt_I (Rt_L ih) (by simp)))
theorem rpD_Rt : ∀ j, Rt S (rpD S j) := by
  intro j
  induction j with
  | zero => exact Rt.refl
  | succ j ih => exact Rt_8 (Rt_C (Rt_C (Rt_C (Rt_C (Rt_C (Rt_C (Rt_H (Rt_L ih))))))))
theorem rlF_Rt {i : Nat} {o : Option Nat} : Rt S (rlF S i o) := by
  unfold rlF
  split
  · exact Rt_P (Rt_P (Rt_P Rt.refl))
  · split
    · exact Rt_P (Rt_P Rt.refl)
    · exact Rt_P (Rt_P (Rt_P Rt.refl))
theorem rpL_Rt {o : Option Nat} : ∀ j, Rt S (rpL S o j) := by
  intro j
  induction j with
  | zero => exact Rt.refl
  | succ j ih =>
    unfold rpL
    split
    · exact ih.trans rlF_Rt
    · exact ih
theorem rdA_Rt : ∀ j, Rt S (rdA S y u a j).1 := by
  intro j
  induction j with
  | zero => exact Rt.refl
  | succ j ih => exact Rt_L ih
theorem rdB_Rt : ∀ j, Rt S (rdB S y u j).1 := by
  intro j
  induction j with
  | zero => exact Rt.refl
  | succ j ih =>
    unfold rdB
    split
    · exact Rt_L ih
    · exact ih
theorem rdF_Rt : Rt S (rdF S n u y).1 := by
  unfold rdF
  split
  · exact (rdA_Rt n).trans (rdB_Rt n)
  · exact rdB_Rt n
theorem rxF_Rt : Rt S (rxF S n) := by
  unfold rxF
  split
  · exact rdF_Rt.trans rdF_Rt
  · exact Rt.refl
theorem reL_Rt {at_ : Nat} : ∀ j, Rt S (reL S at_ j) := by
  intro j
  induction j with
  | zero => exact Rt.refl
  | succ j ih => exact Rt_H (Rt_H (Rt_Z ih))
theorem rq2_Rt : Rt S (rq2 S n) := by
  unfold rq2
  split
  · exact Rt_Z (Rt_Z (rpY_Rt n))
  · exact Rt_Z (Rt_Z Rt.refl)
theorem rq6_Rt : Rt S (rq6 S t) := by
  unfold rq6
  split
  · exact (Rt_Z Rt.refl).trans (reL_Rt 6)
  · exact Rt_Z Rt.refl
theorem rpF_Rt : Rt S (rpF S n t) := (rpO_Rt n).trans (rq2_Rt.trans ((rxF_Rt.trans ((Rt_8 Rt.refl).trans (rpD_Rt n))).trans ((Rt_Z Rt.refl).trans ((rpL_Rt n).trans rq6_Rt))))
/-- Rok behind a slot -/
theorem Rok_t {t' : Nat} (h : Rok S n t) (ht : t' < 2 ^ 20) : Rok (upI S (11, 0, 0) 7 (Int32.ofNat t')) n t' := by
  obtain ⟨a, b, c, d, e, f⟩ := h
  have hp : ∀ p w, gP (upI S (11, 0, 0) 7 (Int32.ofNat t')) p w = gP S p w := fun p w => gP_upZ (by decide)
  refine ⟨a, ht, ?_, ?_, ?_, ?_⟩
  · rw [upI_1, if_neg (by simp)]; exact c
  · rw [upI_1, if_pos ⟨rfl, rfl⟩]
  · intro p hp'; unfold rh; rw [hp]; exact e p hp'
  · intro p hp'; rw [hp]; exact f p hp'
theorem rq6_ok (h : Rok S n t) (ht : t + 1 < 2 ^ 20) : Rok (rq6 S t) n (t + 1) := by
  unfold rq6
  split
  · exact Rok_Rf (Rok_t h ht) (reL_Rf (by omega) (by decide))
  · exact Rok_t h ht
theorem rq2_ok (h : Rok S n t) : Rok (rq2 S n) n t := by
  unfold rq2
  split
  · exact rqF_ok (Rok_Rf h (rpY_Rf h (Nat.le_refl n)))
  · exact rqF_ok h
theorem rq3_ok (h : Rok S n t) : Rok (rq3 S n) n t := by
  have h2 : Rok (upI (rxF S n) (8, 0, 0) 26 0) n t := Rok_8 (Rok_Rf h (rxF_Rf h.1))
  exact Rok_Rf h2 (rpD_Rf h2 (Nat.le_refl n))
theorem rq4_ok (h : Rok S n t) : Rok (rq4 S) n t := Rok_w h (by decide)
theorem rq5_ok (h : Rok S n t) : Rok (rq5 S n) n t := Rok_Rf h (rpL_Rf h (Nat.le_refl n))
theorem rpO_ok (h : Rok S n t) : Rok (rpO S n) n t := Rok_Rf h (rpO_Rf h (Nat.le_refl n))
theorem rpF_ok (h : Rok S n t) (ht : t + 1 < 2 ^ 20) : Rok (rpF S n t) n (t + 1) := rq6_ok (rq5_ok (rq4_ok (rq3_ok (rq2_ok (rpO_ok h))))) ht
/-- passMany -/
def rmI (S : St) (n t : Nat) : Nat → St × Int32
  | 0 => (S, 0)
  | j + 1 => (rpF (rmI S n t j).1 n (t + j), (rmI S n t j).2 + rpV (rmI S n t j).1 n)
def Rpre (S : St) (n : Nat) : Prop := Rone (rq2 (rpO S n) n) n
theorem rmI_ok (h : Rok S n t) : ∀ j, t + j < 2 ^ 20 → Rok (rmI S n t j).1 n (t + j) := by
  intro j
  induction j with
  | zero => intro _; exact h
  | succ j ih => intro hj; exact rpF_ok (ih (by omega)) (by omega)
theorem rmI_Rt : ∀ j, Rt S (rmI S n t j).1 := by
  intro j
  induction j with
  | zero => exact Rt.refl
  | succ j ih => exact ih.trans rpF_Rt
theorem x102_l {n : Nat} (hn : n ≤ 1000) {np t : Nat} (hR : Rok S np t) (ht : t + n < 2 ^ 20) (hO : ∀ j, j < n → Rpre (rmI S np t j).1 np) : ∀ (j i : Nat), i + j = n → X xtab sx 102 4 [some (.ref (adr s0 (8, 0, 0))), some (.int (Int32.ofNat n)), some (.int (rmI S np t i).2), some (.int (Int32.ofNat i))] [] (hp s0 ((rmI S np t i).1), m) = some (.inl (some (.int (rmI S np t n).2)), (hp s0 (rmI S np t n).1, m)) := by
  intro j
  induction j with
  | zero =>
    intro i h
    have hi : i = n := by omega
    subst hi
    simp [e_102_0, e_102_1, e_102_2, e_102_3, e_102_4, e_102_5, e_102_6, e_102_9, e_102_10, e_102_11, e_102_14, e_102_15, e_102_16, e_102_19, e_102_22, e_102_23, xentry, xent, Value.category, kB1_some, kB1_ite, kB_some, kB_ite, kB3_some, kX_some, kX_ite, kC_ite, kR_ret, kR_thr, kR_ite, kR0_ret, kR0_ite, kW_some, xretv, xst1, xst2, xcl, xsum, upI_1, upI_2, upJ_1, upJ_2, upJ_3, rwI_1, rwI_2, rwJ_1, rwJ_2, rwJ_3, upD_1, upD_2, upI_upI, upJ_upJ, x_mmin, x_mmax, x_objInit, List.length_cons, xmL, k1_iconst, k1_bipush, k1_sipush, k1_lconst, k1_dconst0, k1_dconst1, k1_fconst0, k1_fconst1, k1_iload, k1_lload, k1_aload, k1_dload, k1_fload, k1_istore, k1_lstore, k1_astore, k1_dstore, k1_fstore, k1_iinc, k1_iadd, k1_isub, k1_imul, k1_iand, k1_ixor, k1_ishr, k1_ladd, k1_lsub, k1_lmul, k1_land, k1_lor, k1_lcmp, k1_lshl, k1_lshr, k1_idiv, k1_irem, k1_ldiv, k1_lrem, k1_fdiv, k1_ddiv, k1_f2d, k1_i2l, k1_l2i, k1_i2b, k1_l2d, k1_l2f, k1_dcmpl, k1_dcmpg, k1_fcmpl, k1_fcmpg, k1_dup, k1_pop, k1_dup2, k1_goto, k1_ifeq, k1_ifne, k1_iflt, k1_ifge, k1_ifgt, k1_ifle, k1_icmpeq, k1_icmpne, k1_icmplt, k1_icmpge, k1_icmpgt, k1_icmple, k3_constI, k3_constJ, k3_constD, gf_5_0, gf_5_1, gf_5_2, gf_5_3, gf_5_4, gf_5_5, pf_5_5, gf_5_6, pf_5_6, gf_5_7, gf_5_8, gf_4_0, gf_4_1, pf_4_1, gf_4_2, pf_4_2, gf_4_3, pf_4_3, gf_4_4, pf_4_4, gf_4_5, pf_4_5, gf_4_6, gf_4_7, pf_4_7, gf_4_8, pf_4_8, gf_4_9, pf_4_9, gf_3_0, gf_3_1, pf_3_1, gf_6_0, gf_6_1, gf_6_2, gf_6_3, gf_6_4, gf_6_5, gf_6_6, gf_6_7, gf_6_8, gf_6_9, gf_6_10, gf_6_11, pf_6_11, gf_6_12, pf_6_12, gf_6_13, gf_6_14, pf_6_14, gf_6_15, pf_6_15, gf_6_16, pf_6_16, gf_6_17, pf_6_17, gf_6_18, pf_6_18, gf_6_19, pf_6_19, gf_6_20, pf_6_20, gf_6_21, pf_6_21, gf_6_22, pf_6_22, gf_6_23, gf_6_24, gf_6_25, gf_6_26, pf_6_26, gf_6_27, gf_6_28, pf_6_28, gf_0_0, pf_0_0, gf_0_1, pf_0_1, gf_0_2, pf_0_2, gf_0_3, pf_0_3, gf_0_4, pf_0_4, gf_2_0, pf_2_0, gf_2_1, pf_2_1, gf_2_2, pf_2_2, gf_2_3, pf_2_3, gf_2_4, pf_2_4, gf_2_5, pf_2_5, gf_2_6, pf_2_6, gf_2_7, pf_2_7, gf_2_8, pf_2_8, gf_2_9, pf_2_9, gf_2_10, pf_2_10, gf_2_11, pf_2_11, gf_2_12, gf_2_13, gf_1_0, pf_1_0, gf_1_1, pf_1_1, gf_1_2, pf_1_2, gf_1_3, pf_1_3, gf_1_4, pf_1_4, gf_1_5, pf_1_5, gf_1_6, pf_1_6, gf_1_7, pf_1_7, gf_1_8, pf_1_8, gf_1_9, pf_1_9, gf_1_10, pf_1_10, gf_1_11, gf_1_12, gf_1_13, al_sl, as_sl, al_ct, as_ct, al_hr, as_hr, al_tx, as_tx, al_rb, as_rb, al_sv, as_sv, al_out, as_out, al_od, al_ha, al_pa, al_ps, al_sn, al_ai, as_ai, al_az, as_az, al_aj, as_aj, ln_hr, kv_rs, kv_tr, kv_rp, kv_md, kv_lk, kv_hh, kv_pg, lg_cmp_ge, lg_cmp_le, lg_cmp_gt, lg_cmp_lt, lg_cmp_eq, ]
  | succ j ih =>
    intro i h
    have hi : i < 1000 := by omega
    have hc := oN_clamp (i := i) (by omega)
    have hg := oN_neg (i := i) (by omega)
    have hl := oN_le (i := i) (n := n) (by omega) (by omega)
    have hf : ¬ n ≤ i := by omega
    have ih2 := ih (i + 1) (by omega)
    rw [inc_ofNat] at ih2
    rw [e_102_4]
    have hx := x101 (sx := sx) (s0 := s0) (m := m) (rmI_ok hR i (by omega)) (hO i (by omega))
    rw [show rmI S np t (i + 1) = (rpF (rmI S np t i).1 np (t + i), (rmI S np t i).2 + rpV (rmI S np t i).1 np) from rfl] at ih2
    simp [e_102_0, e_102_1, e_102_2, e_102_3, e_102_5, e_102_6, e_102_9, e_102_10, e_102_11, e_102_14, e_102_15, e_102_16, e_102_19, e_102_22, e_102_23, xentry, xent, Value.category, kB1_some, kB1_ite, kB_some, kB_ite, kB3_some, kX_some, kX_ite, kC_ite, kR_ret, kR_thr, kR_ite, kR0_ret, kR0_ite, kW_some, xretv, xst1, xst2, xcl, xsum, upI_1, upI_2, upJ_1, upJ_2, upJ_3, rwI_1, rwI_2, rwJ_1, rwJ_2, rwJ_3, upD_1, upD_2, upI_upI, upJ_upJ, x_mmin, x_mmax, x_objInit, List.length_cons, xmL, k1_iconst, k1_bipush, k1_sipush, k1_lconst, k1_dconst0, k1_dconst1, k1_fconst0, k1_fconst1, k1_iload, k1_lload, k1_aload, k1_dload, k1_fload, k1_istore, k1_lstore, k1_astore, k1_dstore, k1_fstore, k1_iinc, k1_iadd, k1_isub, k1_imul, k1_iand, k1_ixor, k1_ishr, k1_ladd, k1_lsub, k1_lmul, k1_land, k1_lor, k1_lcmp, k1_lshl, k1_lshr, k1_idiv, k1_irem, k1_ldiv, k1_lrem, k1_fdiv, k1_ddiv, k1_f2d, k1_i2l, k1_l2i, k1_i2b, k1_l2d, k1_l2f, k1_dcmpl, k1_dcmpg, k1_fcmpl, k1_fcmpg, k1_dup, k1_pop, k1_dup2, k1_goto, k1_ifeq, k1_ifne, k1_iflt, k1_ifge, k1_ifgt, k1_ifle, k1_icmpeq, k1_icmpne, k1_icmplt, k1_icmpge, k1_icmpgt, k1_icmple, k3_constI, k3_constJ, k3_constD, gf_5_0, gf_5_1, gf_5_2, gf_5_3, gf_5_4, gf_5_5, pf_5_5, gf_5_6, pf_5_6, gf_5_7, gf_5_8, gf_4_0, gf_4_1, pf_4_1, gf_4_2, pf_4_2, gf_4_3, pf_4_3, gf_4_4, pf_4_4, gf_4_5, pf_4_5, gf_4_6, gf_4_7, pf_4_7, gf_4_8, pf_4_8, gf_4_9, pf_4_9, gf_3_0, gf_3_1, pf_3_1, gf_6_0, gf_6_1, gf_6_2, gf_6_3, gf_6_4, gf_6_5, gf_6_6, gf_6_7, gf_6_8, gf_6_9, gf_6_10, gf_6_11, pf_6_11, gf_6_12, pf_6_12, gf_6_13, gf_6_14, pf_6_14, gf_6_15, pf_6_15, gf_6_16, pf_6_16, gf_6_17, pf_6_17, gf_6_18, pf_6_18, gf_6_19, pf_6_19, gf_6_20, pf_6_20, gf_6_21, pf_6_21, gf_6_22, pf_6_22, gf_6_23, gf_6_24, gf_6_25, gf_6_26, pf_6_26, gf_6_27, gf_6_28, pf_6_28, gf_0_0, pf_0_0, gf_0_1, pf_0_1, gf_0_2, pf_0_2, gf_0_3, pf_0_3, gf_0_4, pf_0_4, gf_2_0, pf_2_0, gf_2_1, pf_2_1, gf_2_2, pf_2_2, gf_2_3, pf_2_3, gf_2_4, pf_2_4, gf_2_5, pf_2_5, gf_2_6, pf_2_6, gf_2_7, pf_2_7, gf_2_8, pf_2_8, gf_2_9, pf_2_9, gf_2_10, pf_2_10, gf_2_11, pf_2_11, gf_2_12, gf_2_13, gf_1_0, pf_1_0, gf_1_1, pf_1_1, gf_1_2, pf_1_2, gf_1_3, pf_1_3, gf_1_4, pf_1_4, gf_1_5, pf_1_5, gf_1_6, pf_1_6, gf_1_7, pf_1_7, gf_1_8, pf_1_8, gf_1_9, pf_1_9, gf_1_10, pf_1_10, gf_1_11, gf_1_12, gf_1_13, al_sl, as_sl, al_ct, as_ct, al_hr, as_hr, al_tx, as_tx, al_rb, as_rb, al_sv, as_sv, al_out, as_out, al_od, al_ha, al_pa, al_ps, al_sn, al_ai, as_ai, al_az, as_az, al_aj, as_aj, ln_hr, kv_rs, kv_tr, kv_rp, kv_md, kv_lk, kv_hh, kv_pg, lg_cmp_ge, lg_cmp_le, lg_cmp_gt, lg_cmp_lt, lg_cmp_eq, hi, hc, hg, hl, hf, Nat.not_le.mpr hi, hx]
    exact ih2
theorem x102 {q : Nat} (hq : q ≤ 1000) (hR : Rok S n t) (ht : t + q < 2 ^ 20) (hO : ∀ j, j < q → Rpre (rmI S n t j).1 n) : X xtab sx 102 0 [some (.ref (adr s0 (8, 0, 0))), some (.int (Int32.ofNat q)), none, none] [] (hp s0 S, m) = some (.inl (some (.int (rmI S n t q).2)), (hp s0 (rmI S n t q).1, m)) := by
  have h := x102_l (sx := sx) (s0 := s0) (m := m) hq hR ht hO q 0 (by omega)
  rw [show rmI S n t 0 = (S, 0) from rfl] at h
  simp [e_102_0, e_102_1, e_102_2, e_102_3, xentry, xent, Value.category, kB1_some, kB1_ite, kB_some, kB_ite, kB3_some, kX_some, kX_ite, kC_ite, kR_ret, kR_thr, kR_ite, kR0_ret, kR0_ite, kW_some, xretv, xst1, xst2, xcl, xsum, upI_1, upI_2, upJ_1, upJ_2, upJ_3, rwI_1, rwI_2, rwJ_1, rwJ_2, rwJ_3, upD_1, upD_2, upI_upI, upJ_upJ, x_mmin, x_mmax, x_objInit, List.length_cons, xmL, k1_iconst, k1_bipush, k1_sipush, k1_lconst, k1_dconst0, k1_dconst1, k1_fconst0, k1_fconst1, k1_iload, k1_lload, k1_aload, k1_dload, k1_fload, k1_istore, k1_lstore, k1_astore, k1_dstore, k1_fstore, k1_iinc, k1_iadd, k1_isub, k1_imul, k1_iand, k1_ixor, k1_ishr, k1_ladd, k1_lsub, k1_lmul, k1_land, k1_lor, k1_lcmp, k1_lshl, k1_lshr, k1_idiv, k1_irem, k1_ldiv, k1_lrem, k1_fdiv, k1_ddiv, k1_f2d, k1_i2l, k1_l2i, k1_i2b, k1_l2d, k1_l2f, k1_dcmpl, k1_dcmpg, k1_fcmpl, k1_fcmpg, k1_dup, k1_pop, k1_dup2, k1_goto, k1_ifeq, k1_ifne, k1_iflt, k1_ifge, k1_ifgt, k1_ifle, k1_icmpeq, k1_icmpne, k1_icmplt, k1_icmpge, k1_icmpgt, k1_icmple, k3_constI, k3_constJ, k3_constD, gf_5_0, gf_5_1, gf_5_2, gf_5_3, gf_5_4, gf_5_5, pf_5_5, gf_5_6, pf_5_6, gf_5_7, gf_5_8, gf_4_0, gf_4_1, pf_4_1, gf_4_2, pf_4_2, gf_4_3, pf_4_3, gf_4_4, pf_4_4, gf_4_5, pf_4_5, gf_4_6, gf_4_7, pf_4_7, gf_4_8, pf_4_8, gf_4_9, pf_4_9, gf_3_0, gf_3_1, pf_3_1, gf_6_0, gf_6_1, gf_6_2, gf_6_3, gf_6_4, gf_6_5, gf_6_6, gf_6_7, gf_6_8, gf_6_9, gf_6_10, gf_6_11, pf_6_11, gf_6_12, pf_6_12, gf_6_13, gf_6_14, pf_6_14, gf_6_15, pf_6_15, gf_6_16, pf_6_16, gf_6_17, pf_6_17, gf_6_18, pf_6_18, gf_6_19, pf_6_19, gf_6_20, pf_6_20, gf_6_21, pf_6_21, gf_6_22, pf_6_22, gf_6_23, gf_6_24, gf_6_25, gf_6_26, pf_6_26, gf_6_27, gf_6_28, pf_6_28, gf_0_0, pf_0_0, gf_0_1, pf_0_1, gf_0_2, pf_0_2, gf_0_3, pf_0_3, gf_0_4, pf_0_4, gf_2_0, pf_2_0, gf_2_1, pf_2_1, gf_2_2, pf_2_2, gf_2_3, pf_2_3, gf_2_4, pf_2_4, gf_2_5, pf_2_5, gf_2_6, pf_2_6, gf_2_7, pf_2_7, gf_2_8, pf_2_8, gf_2_9, pf_2_9, gf_2_10, pf_2_10, gf_2_11, pf_2_11, gf_2_12, gf_2_13, gf_1_0, pf_1_0, gf_1_1, pf_1_1, gf_1_2, pf_1_2, gf_1_3, pf_1_3, gf_1_4, pf_1_4, gf_1_5, pf_1_5, gf_1_6, pf_1_6, gf_1_7, pf_1_7, gf_1_8, pf_1_8, gf_1_9, pf_1_9, gf_1_10, pf_1_10, gf_1_11, gf_1_12, gf_1_13, al_sl, as_sl, al_ct, as_ct, al_hr, as_hr, al_tx, as_tx, al_rb, as_rb, al_sv, as_sv, al_out, as_out, al_od, al_ha, al_pa, al_ps, al_sn, al_ai, as_ai, al_az, as_az, al_aj, as_aj, ln_hr, kv_rs, kv_tr, kv_rp, kv_md, kv_lk, kv_hh, kv_pg]
  exact h
/-- dropsAhead, dropsIf -/
def sameR (S T : St) : Prop := T.1 (11, 0, 0) = S.1 (11, 0, 0) ∧ T.2.1 (11, 5, 0) = S.2.1 (11, 5, 0)
theorem gas_0 : (gasF S).1 (11, 0, 0) = S.1 (11, 0, 0) := by
  unfold gasF cpJ cpI
  rw [rwJ_1, rwI_fun' _ _ (by simp)]
theorem gas_5 : (gasF S).2.1 (11, 5, 0) = S.2.1 (11, 5, 0) := by
  unfold gasF cpJ cpI
  rw [rwJ_fun' _ _ (by simp)]
  rfl
theorem gas_ok (h : Rok S n t) : Rok (gasF S) n t := by
  have hp : ∀ p w, gP (gasF S) p w = gP S p w := fun p w => congrFun gas_0 _
  obtain ⟨a, b, c, d, e, f⟩ := h
  refine ⟨a, b, (congrFun gas_0 _).trans c, (congrFun gas_0 _).trans d, ?_, ?_⟩
  · intro p hp'; unfold rh; rw [hp]; exact e p hp'
  · intro p hp'; rw [hp]; exact f p hp'
def raS (S : St) (n t q : Nat) : St := cbkF (rmI (gasF S) n t q).1
def raV (S : St) (n t q : Nat) : Int32 := (rmI (gasF S) n t q).2
/-- that a row of slots ahead is fine -/
def Rahead (S : St) (n t q : Nat) : Prop := ∀ j, j < q → Rpre (rmI (gasF S) n t j).1 n
theorem x128 {q : Nat} (hq : q ≤ 1000) (hR : Rok S n t) (ht : t + q < 2 ^ 20) (hO : Rahead S n t q) : X xtab sx 128 0 [some (.ref (adr s0 (8, 0, 0))), some (.int (Int32.ofNat q)), none] [] (hp s0 S, m) = some (.inl (some (.int (raV S n t q))), (hp s0 (raS S n t q), m)) := by
  have h := x102 (sx := sx) (s0 := s0) (m := m) hq (gas_ok hR) ht hO
  simp [e_128_0, e_128_1, e_128_4, e_128_5, e_128_6, e_128_9, e_128_10, e_128_11, e_128_14, e_128_15, xentry, xent, Value.category, kB1_some, kB1_ite, kB_some, kB_ite, kB3_some, kX_some, kX_ite, kC_ite, kR_ret, kR_thr, kR_ite, kR0_ret, kR0_ite, kW_some, xretv, xst1, xst2, xcl, xsum, upI_1, upI_2, upJ_1, upJ_2, upJ_3, rwI_1, rwI_2, rwJ_1, rwJ_2, rwJ_3, upD_1, upD_2, upI_upI, upJ_upJ, x_mmin, x_mmax, x_objInit, List.length_cons, xmL, k1_iconst, k1_bipush, k1_sipush, k1_lconst, k1_dconst0, k1_dconst1, k1_fconst0, k1_fconst1, k1_iload, k1_lload, k1_aload, k1_dload, k1_fload, k1_istore, k1_lstore, k1_astore, k1_dstore, k1_fstore, k1_iinc, k1_iadd, k1_isub, k1_imul, k1_iand, k1_ixor, k1_ishr, k1_ladd, k1_lsub, k1_lmul, k1_land, k1_lor, k1_lcmp, k1_lshl, k1_lshr, k1_idiv, k1_irem, k1_ldiv, k1_lrem, k1_fdiv, k1_ddiv, k1_f2d, k1_i2l, k1_l2i, k1_i2b, k1_l2d, k1_l2f, k1_dcmpl, k1_dcmpg, k1_fcmpl, k1_fcmpg, k1_dup, k1_pop, k1_dup2, k1_goto, k1_ifeq, k1_ifne, k1_iflt, k1_ifge, k1_ifgt, k1_ifle, k1_icmpeq, k1_icmpne, k1_icmplt, k1_icmpge, k1_icmpgt, k1_icmple, k3_constI, k3_constJ, k3_constD, gf_5_0, gf_5_1, gf_5_2, gf_5_3, gf_5_4, gf_5_5, pf_5_5, gf_5_6, pf_5_6, gf_5_7, gf_5_8, gf_4_0, gf_4_1, pf_4_1, gf_4_2, pf_4_2, gf_4_3, pf_4_3, gf_4_4, pf_4_4, gf_4_5, pf_4_5, gf_4_6, gf_4_7, pf_4_7, gf_4_8, pf_4_8, gf_4_9, pf_4_9, gf_3_0, gf_3_1, pf_3_1, gf_6_0, gf_6_1, gf_6_2, gf_6_3, gf_6_4, gf_6_5, gf_6_6, gf_6_7, gf_6_8, gf_6_9, gf_6_10, gf_6_11, pf_6_11, gf_6_12, pf_6_12, gf_6_13, gf_6_14, pf_6_14, gf_6_15, pf_6_15, gf_6_16, pf_6_16, gf_6_17, pf_6_17, gf_6_18, pf_6_18, gf_6_19, pf_6_19, gf_6_20, pf_6_20, gf_6_21, pf_6_21, gf_6_22, pf_6_22, gf_6_23, gf_6_24, gf_6_25, gf_6_26, pf_6_26, gf_6_27, gf_6_28, pf_6_28, gf_0_0, pf_0_0, gf_0_1, pf_0_1, gf_0_2, pf_0_2, gf_0_3, pf_0_3, gf_0_4, pf_0_4, gf_2_0, pf_2_0, gf_2_1, pf_2_1, gf_2_2, pf_2_2, gf_2_3, pf_2_3, gf_2_4, pf_2_4, gf_2_5, pf_2_5, gf_2_6, pf_2_6, gf_2_7, pf_2_7, gf_2_8, pf_2_8, gf_2_9, pf_2_9, gf_2_10, pf_2_10, gf_2_11, pf_2_11, gf_2_12, gf_2_13, gf_1_0, pf_1_0, gf_1_1, pf_1_1, gf_1_2, pf_1_2, gf_1_3, pf_1_3, gf_1_4, pf_1_4, gf_1_5, pf_1_5, gf_1_6, pf_1_6, gf_1_7, pf_1_7, gf_1_8, pf_1_8, gf_1_9, pf_1_9, gf_1_10, pf_1_10, gf_1_11, gf_1_12, gf_1_13, al_sl, as_sl, al_ct, as_ct, al_hr, as_hr, al_tx, as_tx, al_rb, as_rb, al_sv, as_sv, al_out, as_out, al_od, al_ha, al_pa, al_ps, al_sn, al_ai, as_ai, al_az, as_az, al_aj, as_aj, ln_hr, kv_rs, kv_tr, kv_rp, kv_md, kv_lk, kv_hh, kv_pg, x57, h, x58, raV, raS]
theorem va384 {f g : Nat → Int32} {j : Nat} (h : j < 384) : va_cpy f g 0 0 384 j = f j := va6 h
def rowEq (f g : Nat → Int32) : Prop := ∀ j, j < 384 → f j = g j
def rowEqJ (f g : Nat → Int64) : Prop := ∀ j, j < 114 → f j = g j
theorem ra_row {q : Nat} : rowEq ((raS S n t q).1 (11, 0, 0)) (S.1 (11, 0, 0)) ∧ rowEqJ ((raS S n t q).2.1 (11, 5, 0)) (S.2.1 (11, 5, 0)) := by
  have hr := rmI_Rt (S := gasF S) (n := n) (t := t) q
  have h1 : (rmI (gasF S) n t q).1.1 (11, 1, 0) = (gasF S).1 (11, 1, 0) := hr.1 _ (by simp) (by simp) (by simp) (by simp) (by simp)
  have h6 : (rmI (gasF S) n t q).1.2.1 (11, 6, 0) = (gasF S).2.1 (11, 6, 0) := hr.2.2.1 _ (by simp)
  constructor
  · intro j hj
    unfold raS cbkF cpJ cpI
    rw [rwJ_1, rwI_fun, va6 hj, h1]
    unfold gasF cpJ cpI
    rw [rwJ_1, rwI_fun, va6 hj]
  · intro j hj
    unfold raS cbkF cpJ
    rw [rwJ_fun, va6 hj]
    unfold cpI
    simp only [rwI_2]
    rw [h6]
    unfold gasF cpJ cpI
    rw [rwJ_fun, va6 hj]
    rfl
def rfS (S : St) (a : Nat) (v : Int32) (n t q : Nat) : St := upI (raS (upI S (11, 0, 0) a v) n t q) (11, 0, 0) a (S.1 (11, 0, 0) a)
def rfV (S : St) (a : Nat) (v : Int32) (n t q : Nat) : Int32 := raV (upI S (11, 0, 0) a v) n t q
theorem x133 {q b : Nat} {v : Int32} (hb : b < 384) (hq : q ≤ 1000) (hR : Rok (upI S (11, 0, 0) b v) n t) (ht : t + q < 2 ^ 20) (hO : Rahead (upI S (11, 0, 0) b v) n t q) : X xtab sx 133 0 [some (.ref (adr s0 (8, 0, 0))), some (.int (Int32.ofNat b)), some (.int v), some (.int (Int32.ofNat q)), none, none] [] (hp s0 S, m) = some (.inl (some (.int (rfV S b v n t q))), (hp s0 (rfS S b v n t q), m)) := by
  have hc := oN_clamp (i := b) (by omega)
  have hg := oN_neg (i := b) (by omega)
  have h := x128 (sx := sx) (s0 := s0) (m := m) hq hR ht hO
  simp [e_133_0, e_133_1, e_133_4, e_133_5, e_133_6, e_133_8, e_133_9, e_133_12, e_133_13, e_133_14, e_133_15, e_133_16, e_133_17, e_133_20, e_133_22, e_133_23, e_133_26, e_133_27, e_133_29, e_133_30, e_133_32, xentry, xent, Value.category, kB1_some, kB1_ite, kB_some, kB_ite, kB3_some, kX_some, kX_ite, kC_ite, kR_ret, kR_thr, kR_ite, kR0_ret, kR0_ite, kW_some, xretv, xst1, xst2, xcl, xsum, upI_1, upI_2, upJ_1, upJ_2, upJ_3, rwI_1, rwI_2, rwJ_1, rwJ_2, rwJ_3, upD_1, upD_2, upI_upI, upJ_upJ, x_mmin, x_mmax, x_objInit, List.length_cons, xmL, k1_iconst, k1_bipush, k1_sipush, k1_lconst, k1_dconst0, k1_dconst1, k1_fconst0, k1_fconst1, k1_iload, k1_lload, k1_aload, k1_dload, k1_fload, k1_istore, k1_lstore, k1_astore, k1_dstore, k1_fstore, k1_iinc, k1_iadd, k1_isub, k1_imul, k1_iand, k1_ixor, k1_ishr, k1_ladd, k1_lsub, k1_lmul, k1_land, k1_lor, k1_lcmp, k1_lshl, k1_lshr, k1_idiv, k1_irem, k1_ldiv, k1_lrem, k1_fdiv, k1_ddiv, k1_f2d, k1_i2l, k1_l2i, k1_i2b, k1_l2d, k1_l2f, k1_dcmpl, k1_dcmpg, k1_fcmpl, k1_fcmpg, k1_dup, k1_pop, k1_dup2, k1_goto, k1_ifeq, k1_ifne, k1_iflt, k1_ifge, k1_ifgt, k1_ifle, k1_icmpeq, k1_icmpne, k1_icmplt, k1_icmpge, k1_icmpgt, k1_icmple, k3_constI, k3_constJ, k3_constD, gf_5_0, gf_5_1, gf_5_2, gf_5_3, gf_5_4, gf_5_5, pf_5_5, gf_5_6, pf_5_6, gf_5_7, gf_5_8, gf_4_0, gf_4_1, pf_4_1, gf_4_2, pf_4_2, gf_4_3, pf_4_3, gf_4_4, pf_4_4, gf_4_5, pf_4_5, gf_4_6, gf_4_7, pf_4_7, gf_4_8, pf_4_8, gf_4_9, pf_4_9, gf_3_0, gf_3_1, pf_3_1, gf_6_0, gf_6_1, gf_6_2, gf_6_3, gf_6_4, gf_6_5, gf_6_6, gf_6_7, gf_6_8, gf_6_9, gf_6_10, gf_6_11, pf_6_11, gf_6_12, pf_6_12, gf_6_13, gf_6_14, pf_6_14, gf_6_15, pf_6_15, gf_6_16, pf_6_16, gf_6_17, pf_6_17, gf_6_18, pf_6_18, gf_6_19, pf_6_19, gf_6_20, pf_6_20, gf_6_21, pf_6_21, gf_6_22, pf_6_22, gf_6_23, gf_6_24, gf_6_25, gf_6_26, pf_6_26, gf_6_27, gf_6_28, pf_6_28, gf_0_0, pf_0_0, gf_0_1, pf_0_1, gf_0_2, pf_0_2, gf_0_3, pf_0_3, gf_0_4, pf_0_4, gf_2_0, pf_2_0, gf_2_1, pf_2_1, gf_2_2, pf_2_2, gf_2_3, pf_2_3, gf_2_4, pf_2_4, gf_2_5, pf_2_5, gf_2_6, pf_2_6, gf_2_7, pf_2_7, gf_2_8, pf_2_8, gf_2_9, pf_2_9, gf_2_10, pf_2_10, gf_2_11, pf_2_11, gf_2_12, gf_2_13, gf_1_0, pf_1_0, gf_1_1, pf_1_1, gf_1_2, pf_1_2, gf_1_3, pf_1_3, gf_1_4, pf_1_4, gf_1_5, pf_1_5, gf_1_6, pf_1_6, gf_1_7, pf_1_7, gf_1_8, pf_1_8, gf_1_9, pf_1_9, gf_1_10, pf_1_10, gf_1_11, gf_1_12, gf_1_13, al_sl, as_sl, al_ct, as_ct, al_hr, as_hr, al_tx, as_tx, al_rb, as_rb, al_sv, as_sv, al_out, as_out, al_od, al_ha, al_pa, al_ps, al_sn, al_ai, as_ai, al_az, as_az, al_aj, as_aj, ln_hr, kv_rs, kv_tr, kv_rp, kv_md, kv_lk, kv_hh, kv_pg, al_r0, al_r1, al_r2, al_r3, al_r4, al_r5, al_r6, al_r7, al_r8, al_r9, al_r10, al_r11, al_r12, al_r13, al_r14, al_r15, as_r0, as_r1, as_r2, as_r3, as_r4, as_r5, as_r6, as_r7, as_r8, as_r9, as_r10, as_r11, as_r12, as_r13, as_r14, as_r15, gH_sH, gH_sP, gH_sL, gH_sC, gP_sH, gP_sP, gP_sL, gP_sC, gL_sH, gL_sP, gL_sL, gL_sC, gC_sH, gC_sP, gC_sL, gC_sC, rz_sH, rz_sP, rz_sL, ro_sH, ro_sP, ro_sL, rj_sH, rj_sP, rj_sL, gH_upI, gH_upZ, gP_upI, gP_upZ, gL_upI, gL_upZ, rz_sC, gC_upI, x59, x60, x61, x62, x63, x64, x65, x66, x50, x51, hc, hg, Nat.not_le.mpr hb, h, rfV, rfS]
end R8
