section R13
variable {sx : xSx} {s0 n nh t : Nat} {S T U : St} {m : Nat × Nat × Nat} {q v w z : Int32}
/-! numbers written out -/
theorem J_ofNat {a : Nat} (h : a < 2 ^ 63) : (Int64.ofNat a).toInt = (a : Int) := by
  rw [Int64.toInt_ofNat_of_lt h]
theorem J_div {a b : Nat} (ha : a < 2 ^ 63) (hb : b < 2 ^ 63) : Int64.ofNat a / Int64.ofNat b = Int64.ofNat (a / b) := by
  apply Int64.toInt_inj.mp
  have hd : a / b ≤ a := Nat.div_le_self a b
  have hne : ¬ (Int64.ofNat b).toInt = -1 := by rw [J_ofNat hb]; omega
  rw [Int64.toInt_div_of_ne_right _ _ (fun e => hne (by rw [e]; rfl)), J_ofNat ha, J_ofNat hb, J_ofNat (by omega)]
  rfl
theorem J_rem {a b : Nat} (ha : a < 2 ^ 63) (hb : b < 2 ^ 63) : Int64.ofNat a - Int64.ofNat a / Int64.ofNat b * Int64.ofNat b = Int64.ofNat (a % b) := by
  have h := Nat.div_add_mod a b
  have h2 : a / b * b ≤ a := Nat.div_mul_le_self a b
  rw [J_div ha hb, ← Int64.ofNat_mul, ← Int64.ofNat_sub _ _ h2, Nat.mul_comm]
  congr 1
  omega
theorem J_mod {a b : Nat} (ha : a < 2 ^ 63) (hb : b < 2 ^ 63) : Int64.ofNat a % Int64.ofNat b = Int64.ofNat (a % b) := by
  apply Int64.toInt_inj.mp
  have hd : a % b ≤ a := Nat.mod_le a b
  rw [Int64.toInt_mod, J_ofNat ha, J_ofNat hb, J_ofNat (by omega), Int.ofNat_tmod]
theorem J_mul {a b : Nat} : Int64.ofNat a * Int64.ofNat b = Int64.ofNat (a * b) := (Int64.ofNat_mul a b).symm
theorem J_add {a b : Nat} : Int64.ofNat a + Int64.ofNat b = Int64.ofNat (a + b) := (Int64.ofNat_add a b).symm
theorem J_lt {a b : Nat} (ha : a < 2 ^ 63) (hb : b < 2 ^ 63) : (Int64.ofNat a < Int64.ofNat b) = (a < b) := by
  rw [Int64.lt_iff_toInt_lt, J_ofNat ha, J_ofNat hb]
  exact propext Int.ofNat_lt
theorem J_le {a b : Nat} (ha : a < 2 ^ 63) (hb : b < 2 ^ 63) : (Int64.ofNat a ≤ Int64.ofNat b) = (a ≤ b) := by
  rw [Int64.le_iff_toInt_le, J_ofNat ha, J_ofNat hb]
  exact propext Int.ofNat_le
theorem J_i {a : Nat} : (Int64.ofNat a).toInt32 = Int32.ofNat a := by
  simp
theorem I_j {a : Nat} (h : a < 2 ^ 31) : (Int32.ofNat a).toInt64 = Int64.ofNat a := by
  apply Int64.toInt_inj.mp
  rw [Int32.toInt_toInt64, Int32.toInt_ofNat_small h, J_ofNat (by omega)]
def nE (q : Nat) : Nat → Nat → Nat
  | e, 0 => e
  | e, j + 1 => if 9 < q / 10 ^ e then nE q (e + 1) j else e
def dgs (q : Nat) : Nat → List Int32
  | 0 => [Int32.ofNat (48 + q % 10)]
  | e + 1 => Int32.ofNat (48 + q / 10 ^ (e + 1) % 10) :: dgs q e
def numL (q : Nat) : List Int32 := dgs q (nE q 0 9)
theorem nE_le {q : Nat} : ∀ j e, nE q e j ≤ e + j := by
  intro j
  induction j with
  | zero => intro e; exact Nat.le_refl _
  | succ j ih =>
    intro e
    unfold nE
    split
    · have := ih (e + 1); omega
    · exact Nat.le_add_right _ _
theorem dgs_len {q : Nat} : ∀ e, (dgs q e).length = e + 1 := by
  intro e
  induction e with
  | zero => rfl
  | succ e ih => unfold dgs; rw [List.length_cons, ih]
theorem numL_len {q : Nat} : (numL q).length ≤ 10 := by
  unfold numL
  rw [dgs_len]
  have := nE_le (q := q) 9 0
  omega
/-- writes -/
def wrF (S : St) (b : Nat) (v : Int32) : St := upI (upI S (11, 15, 0) b v) (8, 0, 0) 28 (Int32.ofNat (b + 1))
def wrL (S : St) (b : Nat) : List Int32 → St
  | [] => S
  | v :: l => wrL (wrF S b v) (b + 1) l
theorem wrL_app {l2 : List Int32} : ∀ (l : List Int32) (S : St) (b : Nat), wrL S b (l ++ l2) = wrL (wrL S b l) (b + l.length) l2 := by
  intro l
  induction l with
  | nil => intro S b; rfl
  | cons v l ih =>
    intro S b
    rw [List.cons_append, List.length_cons, show b + (l.length + 1) = b + 1 + l.length by omega]
    exact ih (wrF S b v) (b + 1)
theorem wrL_28 : ∀ (l : List Int32) (S : St) (b : Nat), S.1 (8, 0, 0) 28 = Int32.ofNat b → (wrL S b l).1 (8, 0, 0) 28 = Int32.ofNat (b + l.length) := by
  intro l
  induction l with
  | nil => intro S b h; exact h
  | cons v l ih =>
    intro S b h
    unfold wrL
    rw [ih (wrF S b v) (b + 1) (by unfold wrF; rw [upI_1, if_pos ⟨rfl, rfl⟩]), List.length_cons]
    congr 1
    omega
theorem wrL_o : ∀ (l : List Int32) (S : St) (b : Nat) (o : Ob), o ≠ (11, 15, 0) → o ≠ (8, 0, 0) → (wrL S b l).1 o = S.1 o := by
  intro l
  induction l with
  | nil => intro S b o _ _; rfl
  | cons v l ih =>
    intro S b o h1 h2
    unfold wrL
    rw [ih _ _ o h1 h2]
    unfold wrF
    rw [upI_fun' _ _ _ h2, upI_fun' _ _ _ h1]
theorem wrL_8 : ∀ (l : List Int32) (S : St) (b f : Nat), f ≠ 28 → (wrL S b l).1 (8, 0, 0) f = S.1 (8, 0, 0) f := by
  intro l
  induction l with
  | nil => intro S b f _; rfl
  | cons v l ih =>
    intro S b f h1
    unfold wrL
    rw [ih _ _ f h1]
    unfold wrF
    rw [upI_1, if_neg (fun e => h1 e.2), upI_1, if_neg (by simp)]
theorem wrL_2 : ∀ (l : List Int32) (S : St) (b : Nat), (wrL S b l).2 = S.2 := by
  intro l
  induction l with
  | nil => intro S b; rfl
  | cons v l ih =>
    intro S b
    unfold wrL
    rw [ih]
    rfl
theorem x146 {b : Nat} (hb : b < 600) (h : S.1 (8, 0, 0) 28 = Int32.ofNat b) : X xtab sx 146 0 [some (.ref (adr s0 (8, 0, 0))), some (.int v)] [] (hp s0 S, m) = some (.inl none, (hp s0 (wrF S b v), m)) := by
  have hc := oN_clamp (i := b) (by omega)
  have hg := oN_neg (i := b) (by omega)
  have hi := inc_ofNat (c := b)
  unfold wrF
  generalize Int32.ofNat (b + 1) = z at *
  simp [e_146_0, e_146_1, e_146_4, e_146_5, e_146_8, e_146_9, e_146_10, e_146_11, e_146_12, e_146_15, e_146_16, e_146_17, e_146_20, xentry, xent, Value.category, kB1_some, kB1_ite, kB_some, kB_ite, kB3_some, kX_some, kX_ite, kC_ite, kR_ret, kR_thr, kR_ite, kR0_ret, kR0_ite, kW_some, xretv, xst1, xst2, xcl, xsum, upI_1, upI_2, upJ_1, upJ_2, upJ_3, rwI_1, rwI_2, rwJ_1, rwJ_2, rwJ_3, upD_1, upD_2, upI_upI, upJ_upJ, x_mmin, x_mmax, x_objInit, List.length_cons, xmL, k1_iconst, k1_bipush, k1_sipush, k1_lconst, k1_dconst0, k1_dconst1, k1_fconst0, k1_fconst1, k1_iload, k1_lload, k1_aload, k1_dload, k1_fload, k1_istore, k1_lstore, k1_astore, k1_dstore, k1_fstore, k1_iinc, k1_iadd, k1_isub, k1_imul, k1_iand, k1_ixor, k1_ishr, k1_ladd, k1_lsub, k1_lmul, k1_land, k1_lor, k1_lcmp, k1_lshl, k1_lshr, k1_idiv, k1_irem, k1_ldiv, k1_lrem, k1_fdiv, k1_ddiv, k1_f2d, k1_i2l, k1_l2i, k1_i2b, k1_l2d, k1_l2f, k1_dcmpl, k1_dcmpg, k1_fcmpl, k1_fcmpg, k1_dup, k1_pop, k1_dup2, k1_goto, k1_ifeq, k1_ifne, k1_iflt, k1_ifge, k1_ifgt, k1_ifle, k1_icmpeq, k1_icmpne, k1_icmplt, k1_icmpge, k1_icmpgt, k1_icmple, k3_constI, k3_constJ, k3_constD, gf_5_0, gf_5_1, gf_5_2, gf_5_3, gf_5_4, gf_5_5, pf_5_5, gf_5_6, pf_5_6, gf_5_7, gf_5_8, gf_4_0, gf_4_1, pf_4_1, gf_4_2, pf_4_2, gf_4_3, pf_4_3, gf_4_4, pf_4_4, gf_4_5, pf_4_5, gf_4_6, gf_4_7, pf_4_7, gf_4_8, pf_4_8, gf_4_9, pf_4_9, gf_3_0, gf_3_1, pf_3_1, gf_6_0, gf_6_1, gf_6_2, gf_6_3, gf_6_4, gf_6_5, gf_6_6, gf_6_7, gf_6_8, gf_6_9, gf_6_10, gf_6_11, pf_6_11, gf_6_12, pf_6_12, gf_6_13, gf_6_14, pf_6_14, gf_6_15, pf_6_15, gf_6_16, pf_6_16, gf_6_17, pf_6_17, gf_6_18, pf_6_18, gf_6_19, pf_6_19, gf_6_20, pf_6_20, gf_6_21, pf_6_21, gf_6_22, pf_6_22, gf_6_23, gf_6_24, gf_6_25, gf_6_26, pf_6_26, gf_6_27, gf_6_28, pf_6_28, gf_0_0, pf_0_0, gf_0_1, pf_0_1, gf_0_2, pf_0_2, gf_0_3, pf_0_3, gf_0_4, pf_0_4, gf_2_0, pf_2_0, gf_2_1, pf_2_1, gf_2_2, pf_2_2, gf_2_3, pf_2_3, gf_2_4, pf_2_4, gf_2_5, pf_2_5, gf_2_6, pf_2_6, gf_2_7, pf_2_7, gf_2_8, pf_2_8, gf_2_9, pf_2_9, gf_2_10, pf_2_10, gf_2_11, pf_2_11, gf_2_12, gf_2_13, gf_1_0, pf_1_0, gf_1_1, pf_1_1, gf_1_2, pf_1_2, gf_1_3, pf_1_3, gf_1_4, pf_1_4, gf_1_5, pf_1_5, gf_1_6, pf_1_6, gf_1_7, pf_1_7, gf_1_8, pf_1_8, gf_1_9, pf_1_9, gf_1_10, pf_1_10, gf_1_11, gf_1_12, gf_1_13, al_sl, as_sl, al_ct, as_ct, al_hr, as_hr, al_tx, as_tx, al_rb, as_rb, al_sv, as_sv, al_out, as_out, al_od, al_ha, al_pa, al_ps, al_sn, al_ai, as_ai, al_az, as_az, al_aj, as_aj, ln_hr, kv_rs, kv_tr, kv_rp, kv_md, kv_lk, kv_hh, kv_pg, al_r0, al_r1, al_r2, al_r3, al_r4, al_r5, al_r6, al_r7, al_r8, al_r9, al_r10, al_r11, al_r12, al_r13, al_r14, al_r15, as_r0, as_r1, as_r2, as_r3, as_r4, as_r5, as_r6, as_r7, as_r8, as_r9, as_r10, as_r11, as_r12, as_r13, as_r14, as_r15, gH_sH, gH_sP, gH_sL, gH_sC, gP_sH, gP_sP, gP_sL, gP_sC, gL_sH, gL_sP, gL_sL, gL_sC, gC_sH, gC_sP, gC_sL, gC_sC, rz_sH, rz_sP, rz_sL, ro_sH, ro_sP, ro_sL, rj_sH, rj_sP, rj_sL, gH_upI, gH_upZ, gP_upI, gP_upZ, gL_upI, gL_upZ, rz_sC, gC_upI, x59, x60, x61, x62, x63, x64, x65, x66, x50, x51, h, hc, hg, Nat.not_le.mpr hb, ← hi]
theorem x147_b {b q : Nat} {l1 l5 : Option Value} (hq : q < 10 ^ 10) : ∀ (e : Nat) (S : St) (b : Nat), e ≤ 9 → b + (e + 1) ≤ 600 → S.1 (8, 0, 0) 28 = Int32.ofNat b → X xtab sx 147 24 [some (.ref (adr s0 (8, 0, 0))), some (.long (Int64.ofNat q)), none, l1, none, some (.long (Int64.ofNat (10 ^ e))), none] [] (hp s0 S, m) = some (.inl none, (hp s0 (wrL S b (dgs q e)), m)) := by
  intro e
  induction e with
  | zero =>
    intro S b _ hb h
    have hx := x146 (sx := sx) (s0 := s0) (m := m) (v := Int32.ofNat (48 + q % 10)) (by omega) h
    have e1 : (48 : Int64) + (Int64.ofNat q - Int64.ofNat q / 10 * 10) = Int64.ofNat (48 + q % 10) := by
      rw [show (48 : Int64) = Int64.ofNat 48 from rfl, show (10 : Int64) = Int64.ofNat 10 from rfl, J_rem (by omega) (by omega), J_add]
    have e2 : (Int64.ofNat (48 + q % 10)).toInt32 = Int32.ofNat (48 + q % 10) := J_i
    rw [show dgs q 0 = [Int32.ofNat (48 + q % 10)] from rfl, show wrL S b [Int32.ofNat (48 + q % 10)] = wrF S b (Int32.ofNat (48 + q % 10)) from rfl, show Int64.ofNat (10 ^ 0) = 1 from rfl]
    generalize Int32.ofNat (48 + q % 10) = z at *
    generalize Int64.ofNat (48 + q % 10) = zz at *
    simp [e_147_24, e_147_26, e_147_27, e_147_28, e_147_31, e_147_32, e_147_35, e_147_36, e_147_38, e_147_39, e_147_42, e_147_43, e_147_44, e_147_45, e_147_48, e_147_50, e_147_53, e_147_54, e_147_56, e_147_59, xentry, xent, Value.category, kB1_some, kB1_ite, kB_some, kB_ite, kB3_some, kX_some, kX_ite, kC_ite, kR_ret, kR_thr, kR_ite, kR0_ret, kR0_ite, kW_some, xretv, xst1, xst2, xcl, xsum, upI_1, upI_2, upJ_1, upJ_2, upJ_3, rwI_1, rwI_2, rwJ_1, rwJ_2, rwJ_3, upD_1, upD_2, upI_upI, upJ_upJ, x_mmin, x_mmax, x_objInit, List.length_cons, xmL, k1_iconst, k1_bipush, k1_sipush, k1_lconst, k1_dconst0, k1_dconst1, k1_fconst0, k1_fconst1, k1_iload, k1_lload, k1_aload, k1_dload, k1_fload, k1_istore, k1_lstore, k1_astore, k1_dstore, k1_fstore, k1_iinc, k1_iadd, k1_isub, k1_imul, k1_iand, k1_ixor, k1_ishr, k1_ladd, k1_lsub, k1_lmul, k1_land, k1_lor, k1_lcmp, k1_lshl, k1_lshr, k1_idiv, k1_irem, k1_ldiv, k1_lrem, k1_fdiv, k1_ddiv, k1_f2d, k1_i2l, k1_l2i, k1_i2b, k1_l2d, k1_l2f, k1_dcmpl, k1_dcmpg, k1_fcmpl, k1_fcmpg, k1_dup, k1_pop, k1_dup2, k1_goto, k1_ifeq, k1_ifne, k1_iflt, k1_ifge, k1_ifgt, k1_ifle, k1_icmpeq, k1_icmpne, k1_icmplt, k1_icmpge, k1_icmpgt, k1_icmple, k3_constI, k3_constJ, k3_constD, gf_5_0, gf_5_1, gf_5_2, gf_5_3, gf_5_4, gf_5_5, pf_5_5, gf_5_6, pf_5_6, gf_5_7, gf_5_8, gf_4_0, gf_4_1, pf_4_1, gf_4_2, pf_4_2, gf_4_3, pf_4_3, gf_4_4, pf_4_4, gf_4_5, pf_4_5, gf_4_6, gf_4_7, pf_4_7, gf_4_8, pf_4_8, gf_4_9, pf_4_9, gf_3_0, gf_3_1, pf_3_1, gf_6_0, gf_6_1, gf_6_2, gf_6_3, gf_6_4, gf_6_5, gf_6_6, gf_6_7, gf_6_8, gf_6_9, gf_6_10, gf_6_11, pf_6_11, gf_6_12, pf_6_12, gf_6_13, gf_6_14, pf_6_14, gf_6_15, pf_6_15, gf_6_16, pf_6_16, gf_6_17, pf_6_17, gf_6_18, pf_6_18, gf_6_19, pf_6_19, gf_6_20, pf_6_20, gf_6_21, pf_6_21, gf_6_22, pf_6_22, gf_6_23, gf_6_24, gf_6_25, gf_6_26, pf_6_26, gf_6_27, gf_6_28, pf_6_28, gf_0_0, pf_0_0, gf_0_1, pf_0_1, gf_0_2, pf_0_2, gf_0_3, pf_0_3, gf_0_4, pf_0_4, gf_2_0, pf_2_0, gf_2_1, pf_2_1, gf_2_2, pf_2_2, gf_2_3, pf_2_3, gf_2_4, pf_2_4, gf_2_5, pf_2_5, gf_2_6, pf_2_6, gf_2_7, pf_2_7, gf_2_8, pf_2_8, gf_2_9, pf_2_9, gf_2_10, pf_2_10, gf_2_11, pf_2_11, gf_2_12, gf_2_13, gf_1_0, pf_1_0, gf_1_1, pf_1_1, gf_1_2, pf_1_2, gf_1_3, pf_1_3, gf_1_4, pf_1_4, gf_1_5, pf_1_5, gf_1_6, pf_1_6, gf_1_7, pf_1_7, gf_1_8, pf_1_8, gf_1_9, pf_1_9, gf_1_10, pf_1_10, gf_1_11, gf_1_12, gf_1_13, al_sl, as_sl, al_ct, as_ct, al_hr, as_hr, al_tx, as_tx, al_rb, as_rb, al_sv, as_sv, al_out, as_out, al_od, al_ha, al_pa, al_ps, al_sn, al_ai, as_ai, al_az, as_az, al_aj, as_aj, ln_hr, kv_rs, kv_tr, kv_rp, kv_md, kv_lk, kv_hh, kv_pg, lg_cmp_ge, lg_cmp_le, lg_cmp_gt, lg_cmp_lt, lg_cmp_eq, e1, e2, hx]
  | succ e ih =>
    intro S b he hb h
    have hp10 : 10 ^ (e + 1) ≤ 10 ^ 9 := Nat.pow_le_pow_right (by decide) he
    have hx := x146 (sx := sx) (s0 := s0) (m := m) (v := Int32.ofNat (48 + q / 10 ^ (e + 1) % 10)) (by omega) h
    have ih2 := ih (wrF S b (Int32.ofNat (48 + q / 10 ^ (e + 1) % 10))) (b + 1) (by omega) (by omega) (by unfold wrF; rw [upI_1, if_pos ⟨rfl, rfl⟩])
    have e1 : (48 : Int64) + (Int64.ofNat q / Int64.ofNat (10 ^ (e + 1)) - Int64.ofNat q / Int64.ofNat (10 ^ (e + 1)) / 10 * 10) = Int64.ofNat (48 + q / 10 ^ (e + 1) % 10) := by
      have hd : q / 10 ^ (e + 1) ≤ q := Nat.div_le_self _ _
      rw [show (48 : Int64) = Int64.ofNat 48 from rfl, show (10 : Int64) = Int64.ofNat 10 from rfl, J_div (by omega) (by omega), J_rem (by omega) (by omega), J_add]
    have e2 : (Int64.ofNat (48 + q / 10 ^ (e + 1) % 10)).toInt32 = Int32.ofNat (48 + q / 10 ^ (e + 1) % 10) := J_i
    have hpos : 0 < 10 ^ (e + 1) := Nat.pow_pos (by decide)
    have e3 : (0 < Int64.ofNat (10 ^ (e + 1))) = True := by
      rw [show (0 : Int64) = Int64.ofNat 0 from rfl, J_lt (by decide) (by omega)]
      exact eq_true hpos
    have e4 : (Int64.ofNat (10 ^ (e + 1)) ≤ 0) = False := by
      rw [show (0 : Int64) = Int64.ofNat 0 from rfl, J_le (by omega) (by decide)]
      exact eq_false (by omega)
    have e5 : Int64.ofNat (10 ^ (e + 1)) / 10 = Int64.ofNat (10 ^ e) := by
      rw [show (10 : Int64) = Int64.ofNat 10 from rfl, J_div (by omega) (by decide), Nat.pow_succ, Nat.mul_div_cancel _ (by decide)]
    have e6 : ¬ Int64.ofNat (10 ^ (e + 1)) = 0 := by
      intro h0
      rw [h0] at e3
      exact absurd e3 (by decide)
    unfold dgs wrL
    rw [e_147_24]
    generalize Int32.ofNat (48 + q / 10 ^ (e + 1) % 10) = z at *
    generalize Int64.ofNat (48 + q / 10 ^ (e + 1) % 10) = zz at *
    generalize Int64.ofNat (10 ^ (e + 1)) = z10 at *
    generalize Int64.ofNat (10 ^ e) = z11 at *
    simp [e_147_26, e_147_27, e_147_28, e_147_31, e_147_32, e_147_35, e_147_36, e_147_38, e_147_39, e_147_42, e_147_43, e_147_44, e_147_45, e_147_48, e_147_50, e_147_53, e_147_54, e_147_56, e_147_59, xentry, xent, Value.category, kB1_some, kB1_ite, kB_some, kB_ite, kB3_some, kX_some, kX_ite, kC_ite, kR_ret, kR_thr, kR_ite, kR0_ret, kR0_ite, kW_some, xretv, xst1, xst2, xcl, xsum, upI_1, upI_2, upJ_1, upJ_2, upJ_3, rwI_1, rwI_2, rwJ_1, rwJ_2, rwJ_3, upD_1, upD_2, upI_upI, upJ_upJ, x_mmin, x_mmax, x_objInit, List.length_cons, xmL, k1_iconst, k1_bipush, k1_sipush, k1_lconst, k1_dconst0, k1_dconst1, k1_fconst0, k1_fconst1, k1_iload, k1_lload, k1_aload, k1_dload, k1_fload, k1_istore, k1_lstore, k1_astore, k1_dstore, k1_fstore, k1_iinc, k1_iadd, k1_isub, k1_imul, k1_iand, k1_ixor, k1_ishr, k1_ladd, k1_lsub, k1_lmul, k1_land, k1_lor, k1_lcmp, k1_lshl, k1_lshr, k1_idiv, k1_irem, k1_ldiv, k1_lrem, k1_fdiv, k1_ddiv, k1_f2d, k1_i2l, k1_l2i, k1_i2b, k1_l2d, k1_l2f, k1_dcmpl, k1_dcmpg, k1_fcmpl, k1_fcmpg, k1_dup, k1_pop, k1_dup2, k1_goto, k1_ifeq, k1_ifne, k1_iflt, k1_ifge, k1_ifgt, k1_ifle, k1_icmpeq, k1_icmpne, k1_icmplt, k1_icmpge, k1_icmpgt, k1_icmple, k3_constI, k3_constJ, k3_constD, gf_5_0, gf_5_1, gf_5_2, gf_5_3, gf_5_4, gf_5_5, pf_5_5, gf_5_6, pf_5_6, gf_5_7, gf_5_8, gf_4_0, gf_4_1, pf_4_1, gf_4_2, pf_4_2, gf_4_3, pf_4_3, gf_4_4, pf_4_4, gf_4_5, pf_4_5, gf_4_6, gf_4_7, pf_4_7, gf_4_8, pf_4_8, gf_4_9, pf_4_9, gf_3_0, gf_3_1, pf_3_1, gf_6_0, gf_6_1, gf_6_2, gf_6_3, gf_6_4, gf_6_5, gf_6_6, gf_6_7, gf_6_8, gf_6_9, gf_6_10, gf_6_11, pf_6_11, gf_6_12, pf_6_12, gf_6_13, gf_6_14, pf_6_14, gf_6_15, pf_6_15, gf_6_16, pf_6_16, gf_6_17, pf_6_17, gf_6_18, pf_6_18, gf_6_19, pf_6_19, gf_6_20, pf_6_20, gf_6_21, pf_6_21, gf_6_22, pf_6_22, gf_6_23, gf_6_24, gf_6_25, gf_6_26, pf_6_26, gf_6_27, gf_6_28, pf_6_28, gf_0_0, pf_0_0, gf_0_1, pf_0_1, gf_0_2, pf_0_2, gf_0_3, pf_0_3, gf_0_4, pf_0_4, gf_2_0, pf_2_0, gf_2_1, pf_2_1, gf_2_2, pf_2_2, gf_2_3, pf_2_3, gf_2_4, pf_2_4, gf_2_5, pf_2_5, gf_2_6, pf_2_6, gf_2_7, pf_2_7, gf_2_8, pf_2_8, gf_2_9, pf_2_9, gf_2_10, pf_2_10, gf_2_11, pf_2_11, gf_2_12, gf_2_13, gf_1_0, pf_1_0, gf_1_1, pf_1_1, gf_1_2, pf_1_2, gf_1_3, pf_1_3, gf_1_4, pf_1_4, gf_1_5, pf_1_5, gf_1_6, pf_1_6, gf_1_7, pf_1_7, gf_1_8, pf_1_8, gf_1_9, pf_1_9, gf_1_10, pf_1_10, gf_1_11, gf_1_12, gf_1_13, al_sl, as_sl, al_ct, as_ct, al_hr, as_hr, al_tx, as_tx, al_rb, as_rb, al_sv, as_sv, al_out, as_out, al_od, al_ha, al_pa, al_ps, al_sn, al_ai, as_ai, al_az, as_az, al_aj, as_aj, ln_hr, kv_rs, kv_tr, kv_rp, kv_md, kv_lk, kv_hh, kv_pg, lg_cmp_ge, lg_cmp_le, lg_cmp_gt, lg_cmp_lt, lg_cmp_eq, e1, e2, e3, e4, e5, e6, hx]
    exact ih2
theorem x147_a {b q : Nat} {l5 : Option Value} (hq : q < 10 ^ 10) (hb : b + 10 ≤ 600) (h : S.1 (8, 0, 0) 28 = Int32.ofNat b) : ∀ (j e : Nat), e + j = 9 → nE q 0 9 = nE q e j → X xtab sx 147 2 [some (.ref (adr s0 (8, 0, 0))), some (.long (Int64.ofNat q)), none, some (.long (Int64.ofNat (10 ^ e))), none, none, none] [] (hp s0 S, m) = some (.inl none, (hp s0 (wrL S b (numL q)), m)) := by
  intro j
  induction j with
  | zero =>
    intro e he hn
    have he9 : e = 9 := by omega
    subst he9
    rw [show nE q 9 0 = 9 from rfl] at hn
    have hx := x147_b (sx := sx) (s0 := s0) (m := m) (b := b) (l1 := some (.long (Int64.ofNat (10 ^ 9)))) (l5 := none) hq 9 S b (by decide) (by omega) h
    have e1 : Int64.ofNat q / Int64.ofNat (10 ^ 9) = Int64.ofNat (q / 10 ^ 9) := J_div (by omega) (by decide)
    have e0 : ¬ Int64.ofNat (10 ^ 9) = 0 := by decide
    have e2 : (Int64.ofNat (q / 10 ^ 9) ≤ 9) = True := by
      rw [show (9 : Int64) = Int64.ofNat 9 from rfl, J_le (by omega) (by decide)]
      exact eq_true (by omega)
    have e3 : (9 < Int64.ofNat (q / 10 ^ 9)) = False := by
      rw [show (9 : Int64) = Int64.ofNat 9 from rfl, J_lt (by decide) (by omega)]
      exact eq_false (by omega)
    unfold numL
    rw [hn]
    rw [e_147_2]
    generalize Int64.ofNat (10 ^ 9) = z10 at *
    generalize Int64.ofNat (q / 10 ^ 9) = z11 at *
    simp [e_147_3, e_147_4, e_147_5, e_147_8, e_147_9, e_147_12, e_147_13, e_147_16, e_147_17, e_147_18, e_147_21, e_147_22, xentry, xent, Value.category, kB1_some, kB1_ite, kB_some, kB_ite, kB3_some, kX_some, kX_ite, kC_ite, kR_ret, kR_thr, kR_ite, kR0_ret, kR0_ite, kW_some, xretv, xst1, xst2, xcl, xsum, upI_1, upI_2, upJ_1, upJ_2, upJ_3, rwI_1, rwI_2, rwJ_1, rwJ_2, rwJ_3, upD_1, upD_2, upI_upI, upJ_upJ, x_mmin, x_mmax, x_objInit, List.length_cons, xmL, k1_iconst, k1_bipush, k1_sipush, k1_lconst, k1_dconst0, k1_dconst1, k1_fconst0, k1_fconst1, k1_iload, k1_lload, k1_aload, k1_dload, k1_fload, k1_istore, k1_lstore, k1_astore, k1_dstore, k1_fstore, k1_iinc, k1_iadd, k1_isub, k1_imul, k1_iand, k1_ixor, k1_ishr, k1_ladd, k1_lsub, k1_lmul, k1_land, k1_lor, k1_lcmp, k1_lshl, k1_lshr, k1_idiv, k1_irem, k1_ldiv, k1_lrem, k1_fdiv, k1_ddiv, k1_f2d, k1_i2l, k1_l2i, k1_i2b, k1_l2d, k1_l2f, k1_dcmpl, k1_dcmpg, k1_fcmpl, k1_fcmpg, k1_dup, k1_pop, k1_dup2, k1_goto, k1_ifeq, k1_ifne, k1_iflt, k1_ifge, k1_ifgt, k1_ifle, k1_icmpeq, k1_icmpne, k1_icmplt, k1_icmpge, k1_icmpgt, k1_icmple, k3_constI, k3_constJ, k3_constD, gf_5_0, gf_5_1, gf_5_2, gf_5_3, gf_5_4, gf_5_5, pf_5_5, gf_5_6, pf_5_6, gf_5_7, gf_5_8, gf_4_0, gf_4_1, pf_4_1, gf_4_2, pf_4_2, gf_4_3, pf_4_3, gf_4_4, pf_4_4, gf_4_5, pf_4_5, gf_4_6, gf_4_7, pf_4_7, gf_4_8, pf_4_8, gf_4_9, pf_4_9, gf_3_0, gf_3_1, pf_3_1, gf_6_0, gf_6_1, gf_6_2, gf_6_3, gf_6_4, gf_6_5, gf_6_6, gf_6_7, gf_6_8, gf_6_9, gf_6_10, gf_6_11, pf_6_11, gf_6_12, pf_6_12, gf_6_13, gf_6_14, pf_6_14, gf_6_15, pf_6_15, gf_6_16, pf_6_16, gf_6_17, pf_6_17, gf_6_18, pf_6_18, gf_6_19, pf_6_19, gf_6_20, pf_6_20, gf_6_21, pf_6_21, gf_6_22, pf_6_22, gf_6_23, gf_6_24, gf_6_25, gf_6_26, pf_6_26, gf_6_27, gf_6_28, pf_6_28, gf_0_0, pf_0_0, gf_0_1, pf_0_1, gf_0_2, pf_0_2, gf_0_3, pf_0_3, gf_0_4, pf_0_4, gf_2_0, pf_2_0, gf_2_1, pf_2_1, gf_2_2, pf_2_2, gf_2_3, pf_2_3, gf_2_4, pf_2_4, gf_2_5, pf_2_5, gf_2_6, pf_2_6, gf_2_7, pf_2_7, gf_2_8, pf_2_8, gf_2_9, pf_2_9, gf_2_10, pf_2_10, gf_2_11, pf_2_11, gf_2_12, gf_2_13, gf_1_0, pf_1_0, gf_1_1, pf_1_1, gf_1_2, pf_1_2, gf_1_3, pf_1_3, gf_1_4, pf_1_4, gf_1_5, pf_1_5, gf_1_6, pf_1_6, gf_1_7, pf_1_7, gf_1_8, pf_1_8, gf_1_9, pf_1_9, gf_1_10, pf_1_10, gf_1_11, gf_1_12, gf_1_13, al_sl, as_sl, al_ct, as_ct, al_hr, as_hr, al_tx, as_tx, al_rb, as_rb, al_sv, as_sv, al_out, as_out, al_od, al_ha, al_pa, al_ps, al_sn, al_ai, as_ai, al_az, as_az, al_aj, as_aj, ln_hr, kv_rs, kv_tr, kv_rp, kv_md, kv_lk, kv_hh, kv_pg, lg_cmp_ge, lg_cmp_le, lg_cmp_gt, lg_cmp_lt, lg_cmp_eq, e0, e1, e2, e3]
    exact hx
  | succ j ih =>
    intro e he hn
    have hp10 : 10 ^ (e + 1) ≤ 10 ^ 9 := Nat.pow_le_pow_right (by decide) (by omega)
    have hp11 : 10 ^ e ≤ 10 ^ 9 := Nat.pow_le_pow_right (by decide) (by omega)
    have hpos : 0 < 10 ^ e := Nat.pow_pos (by decide)
    have hd : q / 10 ^ e ≤ q := Nat.div_le_self _ _
    have e1 : Int64.ofNat q / Int64.ofNat (10 ^ e) = Int64.ofNat (q / 10 ^ e) := J_div (by omega) (by omega)
    have e0 : ¬ Int64.ofNat (10 ^ e) = 0 := by
      intro h0
      have := congrArg Int64.toInt h0
      rw [J_ofNat (by omega), show (0 : Int64).toInt = 0 from rfl] at this
      omega
    have e2 : (Int64.ofNat (q / 10 ^ e) ≤ 9) = (q / 10 ^ e ≤ 9) := by
      rw [show (9 : Int64) = Int64.ofNat 9 from rfl, J_le (by omega) (by decide)]
    have e3 : (9 < Int64.ofNat (q / 10 ^ e)) = (9 < q / 10 ^ e) := by
      rw [show (9 : Int64) = Int64.ofNat 9 from rfl, J_lt (by decide) (by omega)]
    rw [show nE q e (j + 1) = if 9 < q / 10 ^ e then nE q (e + 1) j else e from rfl] at hn
    by_cases h9 : 9 < q / 10 ^ e
    · have ih2 := ih (e + 1) (by omega) (by rw [if_pos h9] at hn; exact hn)
      have e5 : Int64.ofNat (10 ^ e) * 10 = Int64.ofNat (10 ^ (e + 1)) := by
        rw [show (10 : Int64) = Int64.ofNat 10 from rfl, J_mul, Nat.pow_succ]
      have h9' := Nat.not_le.mpr h9
      rw [e_147_2]
      generalize Int64.ofNat (10 ^ e) = z10 at *
      generalize Int64.ofNat (10 ^ (e + 1)) = z12 at *
      generalize Int64.ofNat (q / 10 ^ e) = z11 at *
      simp [e_147_3, e_147_4, e_147_5, e_147_8, e_147_9, e_147_12, e_147_13, e_147_16, e_147_17, e_147_18, e_147_21, e_147_22, xentry, xent, Value.category, kB1_some, kB1_ite, kB_some, kB_ite, kB3_some, kX_some, kX_ite, kC_ite, kR_ret, kR_thr, kR_ite, kR0_ret, kR0_ite, kW_some, xretv, xst1, xst2, xcl, xsum, upI_1, upI_2, upJ_1, upJ_2, upJ_3, rwI_1, rwI_2, rwJ_1, rwJ_2, rwJ_3, upD_1, upD_2, upI_upI, upJ_upJ, x_mmin, x_mmax, x_objInit, List.length_cons, xmL, k1_iconst, k1_bipush, k1_sipush, k1_lconst, k1_dconst0, k1_dconst1, k1_fconst0, k1_fconst1, k1_iload, k1_lload, k1_aload, k1_dload, k1_fload, k1_istore, k1_lstore, k1_astore, k1_dstore, k1_fstore, k1_iinc, k1_iadd, k1_isub, k1_imul, k1_iand, k1_ixor, k1_ishr, k1_ladd, k1_lsub, k1_lmul, k1_land, k1_lor, k1_lcmp, k1_lshl, k1_lshr, k1_idiv, k1_irem, k1_ldiv, k1_lrem, k1_fdiv, k1_ddiv, k1_f2d, k1_i2l, k1_l2i, k1_i2b, k1_l2d, k1_l2f, k1_dcmpl, k1_dcmpg, k1_fcmpl, k1_fcmpg, k1_dup, k1_pop, k1_dup2, k1_goto, k1_ifeq, k1_ifne, k1_iflt, k1_ifge, k1_ifgt, k1_ifle, k1_icmpeq, k1_icmpne, k1_icmplt, k1_icmpge, k1_icmpgt, k1_icmple, k3_constI, k3_constJ, k3_constD, gf_5_0, gf_5_1, gf_5_2, gf_5_3, gf_5_4, gf_5_5, pf_5_5, gf_5_6, pf_5_6, gf_5_7, gf_5_8, gf_4_0, gf_4_1, pf_4_1, gf_4_2, pf_4_2, gf_4_3, pf_4_3, gf_4_4, pf_4_4, gf_4_5, pf_4_5, gf_4_6, gf_4_7, pf_4_7, gf_4_8, pf_4_8, gf_4_9, pf_4_9, gf_3_0, gf_3_1, pf_3_1, gf_6_0, gf_6_1, gf_6_2, gf_6_3, gf_6_4, gf_6_5, gf_6_6, gf_6_7, gf_6_8, gf_6_9, gf_6_10, gf_6_11, pf_6_11, gf_6_12, pf_6_12, gf_6_13, gf_6_14, pf_6_14, gf_6_15, pf_6_15, gf_6_16, pf_6_16, gf_6_17, pf_6_17, gf_6_18, pf_6_18, gf_6_19, pf_6_19, gf_6_20, pf_6_20, gf_6_21, pf_6_21, gf_6_22, pf_6_22, gf_6_23, gf_6_24, gf_6_25, gf_6_26, pf_6_26, gf_6_27, gf_6_28, pf_6_28, gf_0_0, pf_0_0, gf_0_1, pf_0_1, gf_0_2, pf_0_2, gf_0_3, pf_0_3, gf_0_4, pf_0_4, gf_2_0, pf_2_0, gf_2_1, pf_2_1, gf_2_2, pf_2_2, gf_2_3, pf_2_3, gf_2_4, pf_2_4, gf_2_5, pf_2_5, gf_2_6, pf_2_6, gf_2_7, pf_2_7, gf_2_8, pf_2_8, gf_2_9, pf_2_9, gf_2_10, pf_2_10, gf_2_11, pf_2_11, gf_2_12, gf_2_13, gf_1_0, pf_1_0, gf_1_1, pf_1_1, gf_1_2, pf_1_2, gf_1_3, pf_1_3, gf_1_4, pf_1_4, gf_1_5, pf_1_5, gf_1_6, pf_1_6, gf_1_7, pf_1_7, gf_1_8, pf_1_8, gf_1_9, pf_1_9, gf_1_10, pf_1_10, gf_1_11, gf_1_12, gf_1_13, al_sl, as_sl, al_ct, as_ct, al_hr, as_hr, al_tx, as_tx, al_rb, as_rb, al_sv, as_sv, al_out, as_out, al_od, al_ha, al_pa, al_ps, al_sn, al_ai, as_ai, al_az, as_az, al_aj, as_aj, ln_hr, kv_rs, kv_tr, kv_rp, kv_md, kv_lk, kv_hh, kv_pg, lg_cmp_ge, lg_cmp_le, lg_cmp_gt, lg_cmp_lt, lg_cmp_eq, e0, e1, e2, e3, e5, h9, h9']
      exact ih2
    · rw [if_neg h9] at hn
      have hn2 : nE q 0 9 = e := hn
      have hx := x147_b (sx := sx) (s0 := s0) (m := m) (b := b) (l1 := some (.long (Int64.ofNat (10 ^ e)))) (l5 := none) hq e S b (by omega) (by omega) h
      have h9' := Nat.not_lt.mp h9
      unfold numL
      rw [hn2]
      rw [e_147_2]
      generalize Int64.ofNat (10 ^ e) = z10 at *
      generalize Int64.ofNat (q / 10 ^ e) = z11 at *
      simp [e_147_3, e_147_4, e_147_5, e_147_8, e_147_9, e_147_12, e_147_13, e_147_16, e_147_17, e_147_18, e_147_21, e_147_22, xentry, xent, Value.category, kB1_some, kB1_ite, kB_some, kB_ite, kB3_some, kX_some, kX_ite, kC_ite, kR_ret, kR_thr, kR_ite, kR0_ret, kR0_ite, kW_some, xretv, xst1, xst2, xcl, xsum, upI_1, upI_2, upJ_1, upJ_2, upJ_3, rwI_1, rwI_2, rwJ_1, rwJ_2, rwJ_3, upD_1, upD_2, upI_upI, upJ_upJ, x_mmin, x_mmax, x_objInit, List.length_cons, xmL, k1_iconst, k1_bipush, k1_sipush, k1_lconst, k1_dconst0, k1_dconst1, k1_fconst0, k1_fconst1, k1_iload, k1_lload, k1_aload, k1_dload, k1_fload, k1_istore, k1_lstore, k1_astore, k1_dstore, k1_fstore, k1_iinc, k1_iadd, k1_isub, k1_imul, k1_iand, k1_ixor, k1_ishr, k1_ladd, k1_lsub, k1_lmul, k1_land, k1_lor, k1_lcmp, k1_lshl, k1_lshr, k1_idiv, k1_irem, k1_ldiv, k1_lrem, k1_fdiv, k1_ddiv, k1_f2d, k1_i2l, k1_l2i, k1_i2b, k1_l2d, k1_l2f, k1_dcmpl, k1_dcmpg, k1_fcmpl, k1_fcmpg, k1_dup, k1_pop, k1_dup2, k1_goto, k1_ifeq, k1_ifne, k1_iflt, k1_ifge, k1_ifgt, k1_ifle, k1_icmpeq, k1_icmpne, k1_icmplt, k1_icmpge, k1_icmpgt, k1_icmple, k3_constI, k3_constJ, k3_constD, gf_5_0, gf_5_1, gf_5_2, gf_5_3, gf_5_4, gf_5_5, pf_5_5, gf_5_6, pf_5_6, gf_5_7, gf_5_8, gf_4_0, gf_4_1, pf_4_1, gf_4_2, pf_4_2, gf_4_3, pf_4_3, gf_4_4, pf_4_4, gf_4_5, pf_4_5, gf_4_6, gf_4_7, pf_4_7, gf_4_8, pf_4_8, gf_4_9, pf_4_9, gf_3_0, gf_3_1, pf_3_1, gf_6_0, gf_6_1, gf_6_2, gf_6_3, gf_6_4, gf_6_5, gf_6_6, gf_6_7, gf_6_8, gf_6_9, gf_6_10, gf_6_11, pf_6_11, gf_6_12, pf_6_12, gf_6_13, gf_6_14, pf_6_14, gf_6_15, pf_6_15, gf_6_16, pf_6_16, gf_6_17, pf_6_17, gf_6_18, pf_6_18, gf_6_19, pf_6_19, gf_6_20, pf_6_20, gf_6_21, pf_6_21, gf_6_22, pf_6_22, gf_6_23, gf_6_24, gf_6_25, gf_6_26, pf_6_26, gf_6_27, gf_6_28, pf_6_28, gf_0_0, pf_0_0, gf_0_1, pf_0_1, gf_0_2, pf_0_2, gf_0_3, pf_0_3, gf_0_4, pf_0_4, gf_2_0, pf_2_0, gf_2_1, pf_2_1, gf_2_2, pf_2_2, gf_2_3, pf_2_3, gf_2_4, pf_2_4, gf_2_5, pf_2_5, gf_2_6, pf_2_6, gf_2_7, pf_2_7, gf_2_8, pf_2_8, gf_2_9, pf_2_9, gf_2_10, pf_2_10, gf_2_11, pf_2_11, gf_2_12, gf_2_13, gf_1_0, pf_1_0, gf_1_1, pf_1_1, gf_1_2, pf_1_2, gf_1_3, pf_1_3, gf_1_4, pf_1_4, gf_1_5, pf_1_5, gf_1_6, pf_1_6, gf_1_7, pf_1_7, gf_1_8, pf_1_8, gf_1_9, pf_1_9, gf_1_10, pf_1_10, gf_1_11, gf_1_12, gf_1_13, al_sl, as_sl, al_ct, as_ct, al_hr, as_hr, al_tx, as_tx, al_rb, as_rb, al_sv, as_sv, al_out, as_out, al_od, al_ha, al_pa, al_ps, al_sn, al_ai, as_ai, al_az, as_az, al_aj, as_aj, ln_hr, kv_rs, kv_tr, kv_rp, kv_md, kv_lk, kv_hh, kv_pg, lg_cmp_ge, lg_cmp_le, lg_cmp_gt, lg_cmp_lt, lg_cmp_eq, e0, e1, e2, e3, h9, h9']
      exact hx
theorem x147 {b q : Nat} (hq : q < 10 ^ 10) (hb : b + 10 ≤ 600) (h : S.1 (8, 0, 0) 28 = Int32.ofNat b) : X xtab sx 147 0 [some (.ref (adr s0 (8, 0, 0))), some (.long (Int64.ofNat q)), none, none, none, none, none] [] (hp s0 S, m) = some (.inl none, (hp s0 (wrL S b (numL q)), m)) := by
  have hx := x147_a (sx := sx) (s0 := s0) (S := S) (m := m) (l5 := none) hq hb h 9 0 rfl rfl
  rw [show Int64.ofNat (10 ^ 0) = 1 from rfl] at hx
  simp [e_147_0, e_147_1, xentry, xent, Value.category, kB1_some, kB1_ite, kB_some, kB_ite, kB3_some, kX_some, kX_ite, kC_ite, kR_ret, kR_thr, kR_ite, kR0_ret, kR0_ite, kW_some, xretv, xst1, xst2, xcl, xsum, upI_1, upI_2, upJ_1, upJ_2, upJ_3, rwI_1, rwI_2, rwJ_1, rwJ_2, rwJ_3, upD_1, upD_2, upI_upI, upJ_upJ, x_mmin, x_mmax, x_objInit, List.length_cons, xmL, k1_iconst, k1_bipush, k1_sipush, k1_lconst, k1_dconst0, k1_dconst1, k1_fconst0, k1_fconst1, k1_iload, k1_lload, k1_aload, k1_dload, k1_fload, k1_istore, k1_lstore, k1_astore, k1_dstore, k1_fstore, k1_iinc, k1_iadd, k1_isub, k1_imul, k1_iand, k1_ixor, k1_ishr, k1_ladd, k1_lsub, k1_lmul, k1_land, k1_lor, k1_lcmp, k1_lshl, k1_lshr, k1_idiv, k1_irem, k1_ldiv, k1_lrem, k1_fdiv, k1_ddiv, k1_f2d, k1_i2l, k1_l2i, k1_i2b, k1_l2d, k1_l2f, k1_dcmpl, k1_dcmpg, k1_fcmpl, k1_fcmpg, k1_dup, k1_pop, k1_dup2, k1_goto, k1_ifeq, k1_ifne, k1_iflt, k1_ifge, k1_ifgt, k1_ifle, k1_icmpeq, k1_icmpne, k1_icmplt, k1_icmpge, k1_icmpgt, k1_icmple, k3_constI, k3_constJ, k3_constD, gf_5_0, gf_5_1, gf_5_2, gf_5_3, gf_5_4, gf_5_5, pf_5_5, gf_5_6, pf_5_6, gf_5_7, gf_5_8, gf_4_0, gf_4_1, pf_4_1, gf_4_2, pf_4_2, gf_4_3, pf_4_3, gf_4_4, pf_4_4, gf_4_5, pf_4_5, gf_4_6, gf_4_7, pf_4_7, gf_4_8, pf_4_8, gf_4_9, pf_4_9, gf_3_0, gf_3_1, pf_3_1, gf_6_0, gf_6_1, gf_6_2, gf_6_3, gf_6_4, gf_6_5, gf_6_6, gf_6_7, gf_6_8, gf_6_9, gf_6_10, gf_6_11, pf_6_11, gf_6_12, pf_6_12, gf_6_13, gf_6_14, pf_6_14, gf_6_15, pf_6_15, gf_6_16, pf_6_16, gf_6_17, pf_6_17, gf_6_18, pf_6_18, gf_6_19, pf_6_19, gf_6_20, pf_6_20, gf_6_21, pf_6_21, gf_6_22, pf_6_22, gf_6_23, gf_6_24, gf_6_25, gf_6_26, pf_6_26, gf_6_27, gf_6_28, pf_6_28, gf_0_0, pf_0_0, gf_0_1, pf_0_1, gf_0_2, pf_0_2, gf_0_3, pf_0_3, gf_0_4, pf_0_4, gf_2_0, pf_2_0, gf_2_1, pf_2_1, gf_2_2, pf_2_2, gf_2_3, pf_2_3, gf_2_4, pf_2_4, gf_2_5, pf_2_5, gf_2_6, pf_2_6, gf_2_7, pf_2_7, gf_2_8, pf_2_8, gf_2_9, pf_2_9, gf_2_10, pf_2_10, gf_2_11, pf_2_11, gf_2_12, gf_2_13, gf_1_0, pf_1_0, gf_1_1, pf_1_1, gf_1_2, pf_1_2, gf_1_3, pf_1_3, gf_1_4, pf_1_4, gf_1_5, pf_1_5, gf_1_6, pf_1_6, gf_1_7, pf_1_7, gf_1_8, pf_1_8, gf_1_9, pf_1_9, gf_1_10, pf_1_10, gf_1_11, gf_1_12, gf_1_13, al_sl, as_sl, al_ct, as_ct, al_hr, as_hr, al_tx, as_tx, al_rb, as_rb, al_sv, as_sv, al_out, as_out, al_od, al_ha, al_pa, al_ps, al_sn, al_ai, as_ai, al_az, as_az, al_aj, as_aj, ln_hr, kv_rs, kv_tr, kv_rp, kv_md, kv_lk, kv_hh, kv_pg]
  exact hx
end R13
