section OP4
variable {sx : xSx} {s0 n nh t k p i h z u f s c d x j e b g r y q a pn pc fb fr : Nat} {S S' T T' U V R : St} {v w o : Int32} {m : Nat × Nat × Nat}
/-! THE CALLS OF THE LAW, 4: running, snapshots, parsing -/
theorem Cfr_tr (h1 : Cfr S U) (h2 : Cfr U V) : Cfr S V := fun o ho => ⟨(h2 o ho).1.trans (h1 o ho).1, (h2 o ho).2.trans (h1 o ho).2⟩
/-- 27 -/
theorem o_27 (hI : Inv S) : OI s0 (X xtab sx 27 0 [some (.ref (adr s0 (0, 0, 0))), some (.int v)] []) (X xtab sx 137 0 [some (.ref (adr s0 (8, 0, 0))), some (.int v)] []) cd0 S := by
  have hI2 := hI
  obtain ⟨n, nh, t, pn, pc, fb, fr, h⟩ := hI
  have hC := Cst_of h
  have ht := h.1.2
  have hE := imin_E ht
  have hK : (if t ≤ 99800 then 200 else 100000 - t) ≤ 200 ∧ t + (if t ≤ 99800 then 200 else 100000 - t) ≤ 100000 := by split <;> omega
  generalize (if t ≤ 99800 then 200 else 100000 - t) = K at hE hK
  rcases rng v (lo := 1) (hi := 200) (by decide) (by decide) with hv | ⟨k, k1, k2, rfl⟩
  · have hv2 : v < 1 ∨ imin 200 (100000 - Int32.ofNat t) < v := by
      rcases hv with hv | hv
      · exact Or.inl hv
      · refine Or.inr ?_
        rw [hE, ltI, oN_toInt (by omega)]
        rw [ltI, oN_toInt (by omega)] at hv
        omega
    exact OI_ref hI2 0 (fun m => x27t hC hv2) (fun m => x137t hv) rfl (by decide)
  · by_cases hk : t + k ≤ 100000
    · have hU : Cfr S (slF (kuF S n nh pn pc) 1 n nh 1000000000 k).1 := Cfr_tr kuF_Cfr (Fr_Cfr (slF_Fr k))
      have hs := see_ch (v := (slF (kuF S n nh pn pc) 1 n nh 1000000000 k).2) h hU
      have hs0 := see_c0 (x := ((slF (kuF S n nh pn pc) 1 n nh 1000000000 k).2).toInt64) h hU
      obtain ⟨pn', pc', hk2⟩ := op_keep hs
      obtain ⟨r1, r2, r3⟩ := run_P (u := k) hk2 k2 hk
      have hM := Kf_M (kpF_Kf (S := owT (slF (kuF S n nh pn pc) 1 n nh 1000000000 k).1 (slF (kuF S n nh pn pc) 1 n nh 1000000000 k).2) (c := pc))
      have hM2 := Rt_M (rmI_Rt (S := kpF (owT (slF (kuF S n nh pn pc) 1 n nh 1000000000 k).1 (slF (kuF S n nh pn pc) 1 n nh 1000000000 k).2) pc) (n := n) (t := t) k)
      refine OI_ch ⟨_, _, _, _, _, _, _, r1⟩ (hM.1.trans hM2.1) ((hM2.2.trans hM.2).trans owT_12) (fun m => x27n hC k1 k2 hk) (fun m => ?_)
      have hx := x137n (sx := sx) (s0 := s0) (S := upJ (slF (kuF S n nh pn pc) 1 n nh 1000000000 k).1 (9, 0, 0) 0 ((slF (kuF S n nh pn pc) 1 n nh 1000000000 k).2).toInt64) (m := m) k1 k2 hk (Rok_of hs0.1.1) h.2.1.2.2.2.1 hs0.2.1.2.2.2.2 r3
      unfold owT at r2
      rw [← r2] at hx
      exact hx
    · refine OI_ref hI2 0 (fun m => x27t hC (Or.inr ?_)) (fun m => x137u k1 k2 (by omega) (Rok_of h.1.1)) rfl (by decide)
      rw [hE, ltI, oN_toInt (by omega), oN_toInt (by omega)]
      omega
theorem svR_M : Mfr T (svR T i) ∧ (svR T i).1 (8, 0, 0) 12 = T.1 (8, 0, 0) 12 := by
  have e : ∀ o : Ob, o ≠ (11, 3, 0) → o ≠ (11, 10, 0) → (svR T i).1 o = T.1 o := fun o x1 x2 => by
    unfold svR cpJ cpI
    rw [upI_fun' _ _ _ x2, rwJ_1, rwI_fun' _ _ x1]
  have e2 : ∀ o : Ob, o ≠ (11, 8, 0) → (svR T i).2.1 o = T.2.1 o := fun o x1 => by
    unfold svR cpJ cpI
    rw [upI_2, rwJ_fun' _ _ x1]
    rfl
  exact ⟨fun o _ b => ⟨e o (fun e => b (by rw [e])) (fun e => b (by rw [e])), e2 o (fun e => b (by rw [e]))⟩, by rw [e _ (by simp) (by simp)]⟩
theorem rsR_M : Mfr T (rsR T i) ∧ (rsR T i).1 (8, 0, 0) 12 = T.1 (8, 0, 0) 12 := by
  have e : ∀ o : Ob, o ≠ (11, 0, 0) → o ≠ (8, 0, 0) → (rsR T i).1 o = T.1 o := fun o x1 x2 => by
    unfold rsR cpJ cpI
    rw [upI_fun' _ _ _ x2, rwJ_1, rwI_fun' _ _ x1]
  have e2 : ∀ o : Ob, o ≠ (11, 5, 0) → (rsR T i).2.1 o = T.2.1 o := fun o x1 => by
    unfold rsR cpJ cpI
    rw [upI_2, rwJ_fun' _ _ x1]
    rfl
  refine ⟨fun o a b => ⟨e o (fun e => b (by rw [e])) (fun e => a (by rw [e])), e2 o (fun e => b (by rw [e]))⟩, ?_⟩
  unfold rsR cpJ cpI
  rw [upI_1, if_neg (by simp), rwJ_1, rwI_fun' _ _ (by simp)]
theorem unR_M : Mfr T (unR T c) ∧ (unR T c).1 (8, 0, 0) 12 = T.1 (8, 0, 0) 12 := by
  have e : ∀ o : Ob, o ≠ (11, 0, 0) → o ≠ (8, 0, 0) → (unR T c).1 o = T.1 o := fun o x1 x2 => by
    unfold unR cpJ cpI
    rw [rwJ_1, rwI_fun' _ _ x1, upI_fun' _ _ _ x2]
  have e2 : ∀ o : Ob, o ≠ (11, 5, 0) → (unR T c).2.1 o = T.2.1 o := fun o x1 => by
    unfold unR cpJ cpI
    rw [rwJ_fun' _ _ x1]
    rfl
  refine ⟨fun o a b => ⟨e o (fun e => b (by rw [e])) (fun e => a (by rw [e])), e2 o (fun e => b (by rw [e]))⟩, ?_⟩
  unfold unR cpJ cpI
  rw [rwJ_1, rwI_fun' _ _ (by simp), upI_1, if_neg (by simp)]
/-- 38 -/
theorem o_38 (hI : Inv S) : OB s0 (X xtab sx 38 0 [some (.ref (adr s0 (0, 0, 0))), some (.int v), none] []) (X xtab sx 152 0 [some (.ref (adr s0 (8, 0, 0))), some (.int v), none] []) cd0 S := by
  have hI2 := hI
  obtain ⟨n, nh, t, pn, pc, fb, fr, h⟩ := hI
  have hL := Lok_of h.1.1
  have hB := Lob_of h.1.1
  rcases rng v (lo := 0) (hi := 1) (by decide) (by decide) with hv | ⟨i, i0, i1, rfl⟩
  · exact OB_ref hI2 0 (fun m => x38t hv) (fun m => x152t hv) rfl (by decide)
  · have hi : i < 2 := by omega
    have hsn := h.2.2.2.1 i hi
    have hU : Cfr S (upI (lcF S (11 + i) 1 n nh) (7, 0, 0) i 1) := Cfr_up (Fr_Cfr lcF_Fr) (by simp)
    have hs := see_ch (v := S.1 (7, 0, 0) i) h hU
    have hs0 := see_c0 (x := (S.1 (7, 0, 0) i).toInt64) h hU
    have hset := op_save hs hi
    have hM := svR_M (T := owT (upI (lcF S (11 + i) 1 n nh) (7, 0, 0) i 1) (S.1 (7, 0, 0) i)) (i := i)
    refine OB_ch (v := S.1 (7, 0, 0) i) hsn.1 ⟨_, _, _, _, _, _, _, hset⟩ hM.1 (hM.2.trans owT_12) (fun m => x38n hL hB hi hsn.1) (fun m => ?_)
    have ev := (hs0.2.2.2.1 i hi).2.1
    have hx := x152n (sx := sx) (s0 := s0) (S := upJ (upI (lcF S (11 + i) 1 n nh) (7, 0, 0) i 1) (9, 0, 0) 0 (S.1 (7, 0, 0) i).toInt64) (m := m) hi (by rw [ev]; exact hsn.1)
    rw [ev] at hx
    exact hx
theorem Lok_eq {n' nh' t' : Nat} (h : Lok S k n nh t) (h' : Lok S k n' nh' t') : n' = n ∧ nh' = nh ∧ t' = t := by
  obtain ⟨a1, a2, a3, a4, a5, a6, _⟩ := h
  obtain ⟨b1, b2, b3, b4, b5, b6, _⟩ := h'
  exact ⟨inj0 (by omega) (by omega) (b4.symm.trans a4), inj0 (by omega) (by omega) (b5.symm.trans a5), inj0 (by omega) (by omega) (b6.symm.trans a6)⟩
/-- 39 -/
theorem o_39 (hI : Inv S) : OI s0 (X xtab sx 39 0 [some (.ref (adr s0 (0, 0, 0))), some (.int v)] []) (X xtab sx 153 0 [some (.ref (adr s0 (8, 0, 0))), some (.int v)] []) (fun e => if e = 0 then 1 else if e = 1 then 2 else 0) S := by
  have hI2 := hI
  obtain ⟨n, nh, t, pn, pc, fb, fr, h⟩ := hI
  rcases rng v (lo := 0) (hi := 1) (by decide) (by decide) with hv | ⟨i, i0, i1, rfl⟩
  · exact OI_ref hI2 0 (fun m => x39t hv) (fun m => x153t hv) rfl (by decide)
  · have hi : i < 2 := by omega
    have hsn := h.2.2.2.1 i hi
    by_cases h0 : S.1 (7, 0, 0) i = 0
    · exact OI_ref hI2 1 (fun m => x39s hi h0) (fun m => x153s hi (hsn.2.1.trans h0)) rfl (by decide)
    · have h1 : S.1 (7, 0, 0) i = 1 := by
        rcases hsn.1 with e | e
        · exact absurd e h0
        · exact e
      obtain ⟨n', nh', t', l1, l2, _, _⟩ := op_rest h hi h1
      have hU : Cfr S (upI (lcF S 1 (11 + i) n' nh') (0, 0, 0) 6 0) := Cfr_up (Fr_Cfr lcF_Fr) (by simp)
      have hs := see_ch (v := Int32.ofNat t') h hU
      have hs0 := see_c0 (x := (Int32.ofNat t').toInt64) h hU
      obtain ⟨n2, nh2, t2, m1, m2, m3, m4⟩ := op_rest hs hi h1
      obtain ⟨e1, e2, e3⟩ := Lok_eq l1 m1
      subst e1
      subst e2
      subst e3
      have hM := rsR_M (T := owT (upI (lcF S 1 (11 + i) n2 nh2) (0, 0, 0) 6 0) (Int32.ofNat t2)) (i := i)
      refine OI_ch (v := Int32.ofNat t2) ⟨_, _, _, _, _, _, _, m4⟩ hM.1 (hM.2.trans owT_12) (fun m => x39n l1 l2 hi h0) (fun m => ?_)
      have ev := (hs0.2.2.2.1 i hi).2.1
      have hx := x153n (sx := sx) (s0 := s0) (S := upJ (upI (lcF S 1 (11 + i) n2 nh2) (0, 0, 0) 6 0) (9, 0, 0) 0 (Int32.ofNat t2).toInt64) (m := m) hi (by rw [ev]; exact h0)
      have e4 : (owT (upI (lcF S 1 (11 + i) n2 nh2) (0, 0, 0) 6 0) (Int32.ofNat t2)).1 (11, 3, 0) = (upJ (upI (lcF S 1 (11 + i) n2 nh2) (0, 0, 0) 6 0) (9, 0, 0) 0 (Int32.ofNat t2).toInt64).1 (11, 3, 0) := owT_o (by simp)
      rw [e4] at m3
      rw [m3] at hx
      exact hx
theorem paF_M (he : y ≤ 700) (hB : BQ (S.1 (2, 0, 0)) (T.1 (11, 11, 0)) y) : Mfr T (paF T y) ∧ (paF T y).1 (8, 0, 0) 12 = T.1 (8, 0, 0) 12 := by
  obtain ⟨_, _, hMp⟩ := pa_DI he hB
  have mo : ∀ o : Ob, o ≠ (8, 0, 0) → o ≠ (11, 4, 0) → (pa2 T y).1 o = T.1 o := fun o x1 x2 => by
    unfold pa2
    rw [upI_fun' _ _ _ x1, hMp.1 o x1 x2, pa0_o x1 x2]
  have mJ : ∀ o : Ob, o ≠ (8, 0, 0) → o ≠ (11, 9, 0) → (pa2 T y).2.1 o = T.2.1 o := fun o x1 x2 => by
    unfold pa2
    rw [upI_2, hMp.2.1 o x1 x2, pa0_J x2]
  have m8 : (pa2 T y).1 (8, 0, 0) 12 = T.1 (8, 0, 0) 12 := by
    unfold pa2
    rw [upI_1, if_neg (by simp), hMp.2.2.1 12 (by decide), pa0_8 (by decide)]
  have a1 : Mfr T (pa2 T y) := fun o a b => ⟨mo o (fun e => a (by rw [e])) (fun e => b (by rw [e])), mJ o (fun e => a (by rw [e])) (fun e => b (by rw [e]))⟩
  unfold paF
  generalize pa2 T y = W at *
  split
  · refine ⟨a1.trans (fun o a b => ⟨?_, ?_⟩), ?_⟩
    · have n11 : ∀ y, o ≠ (11, y, 0) := fun y e => b (by rw [e])
      have n8 : o ≠ (8, 0, 0) := fun e => a (by rw [e])
      unfold pa3 cpJ cpI
      rw [upI_fun' _ _ _ (n11 _), upI_fun' _ _ _ (n11 _), upI_fun' _ _ _ n8, rwJ_1, rwI_fun' _ _ (n11 _)]
    · have n11 : ∀ y, o ≠ (11, y, 0) := fun y e => b (by rw [e])
      unfold pa3 cpJ cpI
      rw [upI_2, upI_2, upI_2, rwJ_fun' _ _ (n11 _)]
      rfl
    · unfold pa3 cpJ cpI
      rw [upI_fun' _ _ _ (by simp), upI_fun' _ _ _ (by simp), upI_1, if_neg (by simp), rwJ_1, rwI_fun' _ _ (by simp)]
      exact m8
  · exact ⟨a1, m8⟩
/-- 3 -/
theorem o_3 (hS : Sok sx) (hI : Inv S) : OI s0 (X xtab sx 3 0 [some (.ref (adr s0 (0, 0, 0))), some (.int v), none] []) (X xtab sx 88 0 [some (.ref (adr s0 (8, 0, 0))), some (.int v), none] []) cd0 S := by
  have hI2 := hI
  obtain ⟨n, nh, t, pn, pc, fb, fr, h⟩ := hI
  obtain ⟨f1, f2, f3, f4⟩ := h.2.2.2.2.1
  rcases rng v (lo := 0) (hi := fb) (by decide) (by omega) with hv | ⟨y, y0, y1, rfl⟩
  · exact OI_ref hI2 0 (fun m => x3t f2 hv) (fun m => x88t f3 hv) rfl (by decide)
  · have hBQ : BQ (S.1 (2, 0, 0)) (S.1 (11, 11, 0)) y := fun i hi => f4 i (by omega)
    have hR : Cfr S (rd2 S y) := by
      obtain ⟨_, hZ, _⟩ := pa_DI (T := S) (show y ≤ 700 by omega) hBQ
      intro o ho
      have h1 : o ≠ (1, 0, 0) := fun e => by rw [e] at ho; simp at ho
      have h2 := hZ.1 o h1 (by omega)
      exact ⟨h2.1.trans (rd0_o h1 (fun e => by rw [e] at ho; simp at ho)), h2.2⟩
    by_cases h0 : (rd2 S y).1 (1, 0, 0) 8 = 0
    · obtain ⟨n', nh', l1, l2, l3, l4⟩ := (op_parse h y1).2 h0
      have hU : Cfr S (paC (rd2 S y) n' nh') := Cfr_up (Cfr_up (Cfr_up (Cfr_tr hR (Fr_Cfr lcF_Fr)) (by decide)) (by decide)) (by decide)
      have hs := see_ch (v := Int32.ofNat n') h hU
      have hs0 := see_c0 (x := (Int32.ofNat n').toInt64) h hU
      have hs00 : InvP S (upJ (paC (rd2 S y) n' nh') (9, 0, 0) 0 (Int32.ofNat n').toInt64) n nh t pn pc fb fr := hs0
      obtain ⟨n2, nh2, m1, m2, m3, m4⟩ := (op_parse (T := upJ (paC (rd2 S y) n' nh') (9, 0, 0) 0 (Int32.ofNat n').toInt64) hs00 y1).2 h0
      obtain ⟨e1, e2, _⟩ := Lok_eq l1 m1
      subst e1
      subst e2
      have hb : BQ (S.1 (2, 0, 0)) ((owT (paC (rd2 S y) n2 nh2) (Int32.ofNat n2)).1 (11, 11, 0)) y := by
        rw [owT_o (by simp)]
        rw [(hU (11, 11, 0) (by simp)).1]
        exact hBQ
      have hT : owT (paC (rd2 S y) n2 nh2) (Int32.ofNat n2) = upI (upJ (paC (rd2 S y) n2 nh2) (9, 0, 0) 0 (Int32.ofNat n2).toInt64) (8, 0, 0) 12 0 := rfl
      rw [← hT] at m4 m3
      have hM := paF_M (by omega) hb
      refine OI_ch (v := Int32.ofNat n2) ⟨_, _, _, _, _, _, _, m4⟩ hM.1 (hM.2.trans owT_12) (fun m => x3n hS f2 f1 y1 h0 l1 l2) (fun m => ?_)
      have hx := x88n (sx := sx) (s0 := s0) (S := upJ (paC (rd2 S y) n2 nh2) (9, 0, 0) 0 (Int32.ofNat n2).toInt64) (m := m) hS hs0.2.2.2.2.1.2.2.1 f1 y1
      rw [← hT, m3] at hx
      exact hx
    · have hs := see_ch (v := -2 - (8 * (rd2 S y).1 (1, 0, 0) 9 + (rd2 S y).1 (1, 0, 0) 8)) h hR
      have hs0 := see_c0 (x := (-2 - (8 * (rd2 S y).1 (1, 0, 0) 9 + (rd2 S y).1 (1, 0, 0) 8) : Int32).toInt64) h hR
      obtain ⟨m4, m3⟩ := (op_parse hs0 y1).1 h0
      have hb : BQ (S.1 (2, 0, 0)) ((owT (rd2 S y) (-2 - (8 * (rd2 S y).1 (1, 0, 0) 9 + (rd2 S y).1 (1, 0, 0) 8))).1 (11, 11, 0)) y := by
        rw [owT_o (by simp)]
        rw [(hR (11, 11, 0) (by simp)).1]
        exact hBQ
      have hT : owT (rd2 S y) (-2 - (8 * (rd2 S y).1 (1, 0, 0) 9 + (rd2 S y).1 (1, 0, 0) 8)) = upI (upJ (rd2 S y) (9, 0, 0) 0 (-2 - (8 * (rd2 S y).1 (1, 0, 0) 9 + (rd2 S y).1 (1, 0, 0) 8) : Int32).toInt64) (8, 0, 0) 12 0 := rfl
      rw [← hT] at m4 m3
      have hM := paF_M (by omega) hb
      refine OI_ch (v := -2 - (8 * (rd2 S y).1 (1, 0, 0) 9 + (rd2 S y).1 (1, 0, 0) 8)) ⟨_, _, _, _, _, _, _, m4⟩ hM.1 (hM.2.trans owT_12) (fun m => x3e hS f2 f1 y1 h0) (fun m => ?_)
      have hx := x88n (sx := sx) (s0 := s0) (S := upJ (rd2 S y) (9, 0, 0) 0 (-2 - (8 * (rd2 S y).1 (1, 0, 0) 9 + (rd2 S y).1 (1, 0, 0) 8) : Int32).toInt64) (m := m) hS hs0.2.2.2.2.1.2.2.1 f1 y1
      rw [← hT, m3] at hx
      exact hx
end OP4
