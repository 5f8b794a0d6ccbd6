section OP5
variable {sx : xSx} {s0 n nh t k p i h z u f s c d x j e b g r y q a pn pc fb fr : Nat} {S S' T T' U V R : St} {v w o : Int32} {m : Nat × Nat × Nat}
/-! THE CALLS OF THE LAW, 5: answers compared at once, and broken numbers -/
def OD (s0 : Nat) (c d : xM → Option xR) (S : St) : Prop := ∀ m : Nat × Nat × Nat, ∃ (v : Int32) (S1 S2 : St), c (hp s0 S, m) = some (.inl (some (.int v)), (hp s0 S1, m)) ∧ d (hp s0 S1, m) = some (.inl (some (.int v)), (hp s0 S2, m)) ∧ Inv S2
def ODj (s0 : Nat) (c d : xM → Option xR) (S : St) : Prop := ∀ m : Nat × Nat × Nat, ∃ (v : Int64) (S1 S2 : St), c (hp s0 S, m) = some (.inl (some (.long v)), (hp s0 S1, m)) ∧ d (hp s0 S1, m) = some (.inl (some (.long v)), (hp s0 S2, m)) ∧ Inv S2
def ODd (s0 : Nat) (c d : xM → Option xR) (S : St) : Prop := ∀ m : Nat × Nat × Nat, ∃ (v : UInt64) (S1 S2 : St), v.toNat ≤ 9218868437227405312 ∧ c (hp s0 S, m) = some (.inl (some (.double v)), (hp s0 S1, m)) ∧ d (hp s0 S1, m) = some (.inl (some (.double v)), (hp s0 S2, m)) ∧ Inv S2
def OF (s0 : Nat) (c d : xM → Option xR) (cd : Nat → Int32) (S : St) : Prop := ∀ m : Nat × Nat × Nat, (∃ (v : UInt64) (S1 S2 : St), v.toNat ≤ 9218868437227405312 ∧ c (hp s0 S, m) = some (.inl (some (.double v)), (hp s0 S1, m)) ∧ d (hp s0 (upD S1 0 v), m) = some (.inl (some (.double v)), (hp s0 S2, m)) ∧ S2.1 (8, 0, 0) 12 = 0 ∧ S2.2.2 0 = v ∧ Inv S2) ∨ (∃ e S2, c (hp s0 S, m) = some (.inr e, (hp s0 S, thM m)) ∧ d (hp s0 S, thM m) = some (.inl (some (.double FP.dconst0)), (hp s0 S2, thM m)) ∧ S2.1 (8, 0, 0) 12 = cd e ∧ cd e ≠ 0 ∧ Inv S2)
def OG (s0 : Nat) (c d : xM → Option xR) (cd : Nat → Int32) (S : St) : Prop := ∀ m : Nat × Nat × Nat, (∃ (v : UInt32) (S1 S2 : St), v.toNat ≤ 2139095040 ∧ c (hp s0 S, m) = some (.inl (some (.float v)), (hp s0 S1, m)) ∧ d (hp s0 (upD S1 0 (FP.f2d v)), m) = some (.inl (some (.float v)), (hp s0 S2, m)) ∧ S2.1 (8, 0, 0) 12 = 0 ∧ S2.2.2 0 = FP.f2d v ∧ Inv S2) ∨ (∃ e S2, c (hp s0 S, m) = some (.inr e, (hp s0 S, thM m)) ∧ d (hp s0 S, thM m) = some (.inl (some (.float FP.fconst0)), (hp s0 S2, thM m)) ∧ S2.1 (8, 0, 0) 12 = cd e ∧ cd e ≠ 0 ∧ Inv S2)
theorem OD_get {cf df : xM → Option xR} (hI : Inv S) (hc : ∀ m : Nat × Nat × Nat, cf (hp s0 S, m) = some (.inl (some (.int v)), (hp s0 S, m))) (hd : ∀ m, df (hp s0 S, m) = some (.inl (some (.int v)), (hp s0 (upI S (8, 0, 0) 12 0), m))) : OD s0 cf df S := fun m => ⟨v, S, _, hc m, hd m, Inv_12 hI⟩
def oE (U : St) : St := upI U (8, 0, 0) 12 0
theorem Inv_c2 (hP : InvE U V) (hM : Mfr (oE U) V) : Inv V := by
  obtain ⟨n, nh, t, pn, pc, fb, fr, h⟩ := hP
  exact Inv_step h (Mfr_C Mq_12.1) hM
theorem see_e (h : InvP S S n nh t pn pc fb fr) (hU : Cfr S U) : InvP S (oE U) n nh t pn pc fb fr := Inv_m h ((Cfr_M hU).trans Mq_12.2)
theorem see_U (h : InvP S S n nh t pn pc fb fr) (hU : Cfr S U) : InvP S U n nh t pn pc fb fr := Inv_m h (Cfr_M hU)
theorem upD_12 {x : UInt64} : (upD S 0 x).1 = S.1 := rfl
theorem upD_r {x : UInt64} : (upD S 0 x).2.2 0 = x := by
  show vf_upd S.2.2 0 x 0 = x
  unfold vf_upd
  rw [if_pos rfl]
theorem see_D {x : UInt64} (h : InvP S S n nh t pn pc fb fr) : InvP S (upD S 0 x) n nh t pn pc fb fr := Inv_m h outD_M
/-- 13 -/
theorem o_13 (hI : Inv S) : OF s0 (X xtab sx 13 0 [some (.ref (adr s0 (0, 0, 0))), some (.int v)] []) (X xtab sx 121 0 [some (.ref (adr s0 (8, 0, 0))), some (.int v)] []) (fun e => if e = 3 then 1 else 0) S := by
  have hI2 := hI
  obtain ⟨n, nh, t, pn, pc, fb, fr, h⟩ := hI
  have hL := Lok_of h.1.1
  have ht := h.1.2
  by_cases hk : fkF S 1 ≤ v ∧ v < ehF S 1
  · have e1 := fk_of h.1.1
    have e2 := eh_of h.1.1
    have hb : ∃ b : Nat, b < 2 ^ 20 ∧ v = Int32.ofNat b := by
      have a1 := hk.1
      have a2 := hk.2
      rw [e1, leI, oN_toInt (by omega)] at a1
      rw [e2, ltI, oN_toInt (by omega)] at a2
      refine ⟨v.toInt.toNat, by omega, ?_⟩
      apply Int32.toInt_inj.mp
      rw [oN_toInt (by omega)]
      omega
    obtain ⟨b, hb, rfl⟩ := hb
    have hs := see_D (x := fhC S 1 n nh b) h
    have hk3 := (kept_iff hs.1.1).mp hk
    obtain ⟨q1, _, _, q4⟩ := fr_h (b := b) h.1.1
    obtain ⟨_, q2, q3, _⟩ := fr_h (b := b) hs.1.1
    refine fun m => Or.inl ⟨fhC S 1 n nh b, S, upI (upD S 0 (fhC S 1 n nh b)) (8, 0, 0) 12 0, by omega, x13n hL hb q1 hk.1 hk.2, ?_, up_12, upD_r, Inv_12 (Inv_outD hI2)⟩
    have hx := x121n (sx := sx) (s0 := s0) (S := upD S 0 (fhC S 1 n nh b)) (m := m) hL.1 hL.2.1 (nh_of hs.1.1) (n_of hs.1.1) hb q2 hk3.1 hk3.2
    rw [← q3] at hx
    exact hx
  · have hk1 : v < fkF S 1 ∨ ehF S 1 ≤ v := by
      rw [ltI, leI]
      rw [leI, ltI] at hk
      omega
    have hk2 : ¬ (S.1 (11, 0, 0) 7 / 12 - hkR S ≤ v ∧ v ≤ S.1 (11, 0, 0) 7 / 12 - 1) := fun e => hk ((kept_iff h.1.1).mpr e)
    have hk3 : v < S.1 (11, 0, 0) 7 / 12 - hkR S ∨ S.1 (11, 0, 0) 7 / 12 - 1 < v := by
      rw [leI, leI] at hk2
      rw [ltI, ltI]
      omega
    exact fun m => Or.inr ⟨3, _, x13t hk1, x121t (m := thM m) hk3, up_12, by decide, Inv_12 hI2⟩
/-- 14 -/
theorem o_14 (hI : Inv S) : ODd s0 (X xtab sx 14 0 [some (.ref (adr s0 (0, 0, 0))), none, none, none, none, none, none, none] []) (X xtab sx 122 0 [some (.ref (adr s0 (8, 0, 0))), none, none, none, none, none, none, none] []) S := by
  have hI2 := hI
  obtain ⟨n, nh, t, pn, pc, fb, fr, h⟩ := hI
  have hL := Lok_of h.1.1
  obtain ⟨q1, q2, q3, q4⟩ := fr_p h.1.1 h.1.2
  refine fun m => ⟨fpC S n, S, _, by omega, x14 hL.1 hL.2.2.2.1 q1, ?_, Inv_12 (v := 0) hI2⟩
  rw [q3]
  exact x122 hL.1 (n_of h.1.1) q2
/-- 16 -/
theorem o_16 (hI : Inv S) : OG s0 (X xtab sx 16 0 [some (.ref (adr s0 (0, 0, 0))), some (.int v), none] []) (X xtab sx 124 0 [some (.ref (adr s0 (8, 0, 0))), some (.int v)] []) (fun e => if e = 2 then 1 else 0) S := by
  have hI2 := hI
  obtain ⟨n, nh, t, pn, pc, fb, fr, h⟩ := hI
  have hL := Lok_of h.1.1
  have hn := hL.1
  rcases idx v (n := n) (by omega) with hv | ⟨i, hi, rfl⟩
  · exact fun m => Or.inr ⟨2, _, x16u (by rw [hL.2.2.2.1]; exact hv), x124u (m := thM m) hn (n_of h.1.1) hv, up_12, by decide, Inv_12 hI2⟩
  · obtain ⟨q1, q2, q3, q4⟩ := sv_eq h.1.1 hi h.1.2
    have hs := see_D (x := FP.f2d (svC S i)) h
    obtain ⟨r1, _, r3, _⟩ := sv_eq hs.1.1 hi h.1.2
    refine fun m => Or.inl ⟨svC S i, S, upI (upD S 0 (FP.f2d (svC S i))) (8, 0, 0) 12 0, q4, x16n hL hi q2, ?_, up_12, upD_r, Inv_12 (Inv_outD hI2)⟩
    have hx := x124n (sx := sx) (s0 := s0) (S := upD S 0 (FP.f2d (svC S i))) (m := m) r3 hi hn (n_of hs.1.1)
    rw [← r1] at hx
    exact hx
/-- 11 -/
theorem o_11 (hI : Inv S) : OD s0 (X xtab sx 11 0 [some (.ref (adr s0 (0, 0, 0)))] []) (X xtab sx 115 0 [some (.ref (adr s0 (8, 0, 0)))] []) S := by
  have hI2 := hI
  obtain ⟨n, nh, t, pn, pc, fb, fr, h⟩ := hI
  refine OD_get hI2 (fun m => x11 (Lob_of h.1.1).1) (fun m => ?_)
  rw [get_11 h.1.1]
  exact x115
/-- 15 -/
theorem o_15 (hI : Inv S) : OD s0 (X xtab sx 15 0 [some (.ref (adr s0 (0, 0, 0))), none, none, none, none, none, none] []) (X xtab sx 123 0 [some (.ref (adr s0 (8, 0, 0))), none, none, none] []) S := by
  have hI2 := hI
  obtain ⟨n, nh, t, pn, pc, fb, fr, h⟩ := hI
  have hL := Lok_of h.1.1
  have ht := h.1.2
  have hf : fhC S 1 n nh = fhR S n nh := funext (fun b => (fr_h (b := b) h.1.1).2.2.1)
  have hq := fkR_of h.1.1
  rw [ehR_of h.1.1] at hq
  refine OD_get hI2 (fun m => x15 (E := t / 12) (i := t / 12 - 24) hL (by omega) (eh_of h.1.1) (fun b _ => (fr_h (b := b) h.1.1).1) (by omega) (fk_of h.1.1)) (fun m => ?_)
  rw [uf_eq (fun b => (fr_h (b := b) h.1.1).2.2.2), hf]
  exact x123 (E := t / 12) hL.1 hL.2.1 (nh_of h.1.1) (n_of h.1.1) (by omega) (ehR_of h.1.1) (fun b _ => (fr_h (b := b) h.1.1).2.1) (i := t / 12 - 24) (by omega) hq
/-- 17 -/
theorem o_17 (hI : Inv S) : OD s0 (X xtab sx 17 0 [some (.ref (adr s0 (0, 0, 0))), none, none, none, none] []) (X xtab sx 125 0 [some (.ref (adr s0 (8, 0, 0))), none, none] []) S := by
  have hI2 := hI
  obtain ⟨n, nh, t, pn, pc, fb, fr, h⟩ := hI
  have hL := Lok_of h.1.1
  refine OD_get hI2 (fun m => x17 hL.1 hL.2.2.2.1) (fun m => ?_)
  have hs := see_8 (v := 0) h
  rw [get_17 hs.1.1 n (Nat.le_refl n)]
  exact x125 hL.1 (n_of h.1.1)
/-- 18 -/
theorem o_18 (hI : Inv S) : OD s0 (X xtab sx 18 0 [some (.ref (adr s0 (0, 0, 0))), some (.int v), none] []) (X xtab sx 127 0 [some (.ref (adr s0 (8, 0, 0))), some (.int v), none] []) S := by
  have hI2 := hI
  obtain ⟨n, nh, t, pn, pc, fb, fr, h⟩ := hI
  have hL := Lok_of h.1.1
  refine OD_get hI2 (fun m => x18 hL.1 hL.2.2.2.1) (fun m => ?_)
  rw [get_18 h.1.1 n 0 (by omega)]
  exact x127 hL.1 (n_of h.1.1)
/-- 40 -/
theorem o_40 (hI : Inv S) : ODj s0 (X xtab sx 40 0 [some (.ref (adr s0 (0, 0, 0))), none, none, none, none] []) (X xtab sx 154 0 [some (.ref (adr s0 (8, 0, 0))), none, none, none, none] []) S := by
  have hI2 := hI
  obtain ⟨n, nh, t, pn, pc, fb, fr, h⟩ := hI
  have hL := Lok_of h.1.1
  refine fun m => ⟨_, S, _, x40 hL, ?_, Inv_12 (v := 0) hI2⟩
  rw [ck_eq h.1.1 h.2.1 h.2.2.2.2.1]
  exact x154 hL.1 hL.2.1 (nh_of h.1.1) (n_of h.1.1)
/-- 36 -/
theorem o_36 (hI : Inv S) : OD s0 (X xtab sx 36 0 [some (.ref (adr s0 (0, 0, 0))), some (.int v)] []) (X xtab sx 150 0 [some (.ref (adr s0 (8, 0, 0))), some (.int v)] []) S := by
  have hI2 := hI
  obtain ⟨n, nh, t, pn, pc, fb, fr, h⟩ := hI
  obtain ⟨f1, f2, f3, f4⟩ := h.2.2.2.2.2.1
  rcases idx v (n := fr) (by omega) with hv | ⟨i, hi, rfl⟩
  · exact OD_get hI2 (fun m => x36t f2 hv) (fun m => x150t f3 (by omega) hv)
  · refine OD_get hI2 (fun m => x36n f2 f1 hi) (fun m => ?_)
    rw [f4 i hi]
    exact x150n f3 (by omega) hi
/-- 21 -/
theorem o_21 (hI : Inv S) : OD s0 (X xtab sx 21 0 [some (.ref (adr s0 (0, 0, 0))), none] []) (X xtab sx 131 0 [some (.ref (adr s0 (8, 0, 0))), none] []) S := by
  obtain ⟨n, nh, t, pn, pc, fb, fr, h⟩ := hI
  have hL := Lok_of h.1.1
  have hB := Lob_of h.1.1
  have ht := h.1.2
  have hU : Fr 2 S (fdF n nh (trF S n nh) 1 200).2 := fdF_Fr 200 1 _ trF_Fr
  have w1 : sameW S (oE (fdF n nh (trF S n nh) 1 200).2) := (Fr_W hU).trans (Mq_12 (v := 0)).2.1
  obtain ⟨t1, t2⟩ := try_21' h.1.1 w1 (by omega)
  have hR : Rok (fdF n nh (trF S n nh) 1 200).2 n t := Rok_of (Lnk_W h.1.1 (Fr_W hU))
  refine fun m => ⟨_, _, _, x21 hL hB (by omega), ?_, Inv_tr h hU (Mfr_C Mq_12.1) (Mq_12 (v := 0)).2 (Mq_cb (rmI_Rt (n := n) (t := t) (fdK (gasF (oE (fdF n nh (trF S n nh) 1 200).2)) n t)))⟩
  rw [t1]
  exact x131 hR (by omega) t2
/-- 22 -/
theorem o_22 (hI : Inv S) : OD s0 (X xtab sx 22 0 [some (.ref (adr s0 (0, 0, 0))), none, none] []) (X xtab sx 132 0 [some (.ref (adr s0 (8, 0, 0))), none, none] []) S := by
  obtain ⟨n, nh, t, pn, pc, fb, fr, h⟩ := hI
  have hL := Lok_of h.1.1
  have hB := Lob_of h.1.1
  have ht := h.1.2
  have hU : Fr 2 S (caF n nh (trF S n nh) 0 1 202).2 := caF_Fr 202 1 _ _ trF_Fr
  have w1 : sameW S (oE (caF n nh (trF S n nh) 0 1 202).2) := (Fr_W hU).trans (Mq_12 (v := 0)).2.1
  obtain ⟨t1, t2⟩ := try_22' h.1.1 w1 (by omega)
  have hR : Rok (caF n nh (trF S n nh) 0 1 202).2 n t := Rok_of (Lnk_W h.1.1 (Fr_W hU))
  refine fun m => ⟨_, _, _, x22 hL hB (by omega), ?_, Inv_tr h hU (Mfr_C Mq_12.1) (Mq_12 (v := 0)).2 (Mq_cb (rmI_Rt (n := n) (t := t) (caE (gasF (oE (caF n nh (trF S n nh) 0 1 202).2)) n t).2))⟩
  rw [t1]
  exact x132 hR (by omega) t2
/-- 37 -/
theorem o_37 (hI : Inv S) : OD s0 (X xtab sx 37 0 [some (.ref (adr s0 (0, 0, 0)))] []) (X xtab sx 151 0 [some (.ref (adr s0 (8, 0, 0)))] []) S := by
  have hI2 := hI
  obtain ⟨n, nh, t, pn, pc, fb, fr, h⟩ := hI
  obtain ⟨b1, b2, b3, b4, b5⟩ := h.2.1
  cases pc with
  | zero => exact OD_get hI2 (fun m => x37z b3) (fun m => x151z b5)
  | succ pc =>
    obtain ⟨n', nh', t', l1, l2, _⟩ := op_undo h
    have hU : Cfr S (lcF (unP S pn (pc + 1)) 1 (3 + (pn + 7) % 8) n' nh') := by
      have h1 : Cfr S (unP S pn (pc + 1)) := by
        unfold unP
        exact Cfr_up (Cfr_up (fun o _ => ⟨rfl, rfl⟩) (by decide)) (by decide)
      exact Cfr_tr h1 (Fr_Cfr lcF_Fr)
    have hs := see_e h hU
    have hs0 := see_U h hU
    obtain ⟨n2, nh2, t2, m1, m2, m3⟩ := op_undo hs
    obtain ⟨e1, e2, e3⟩ := Lok_eq l1 m1
    subst e1
    subst e2
    subst e3
    have hM := unR_M (T := oE (lcF (unP S pn (pc + 1)) 1 (3 + (pn + 7) % 8) n2 nh2)) (c := pc)
    refine fun m => ⟨_, _, _, x37n b1 b2 b3 ⟨by omega, b4⟩ l1 l2, ?_, Inv_c2 ⟨_, _, _, _, _, _, _, m3⟩ hM.1⟩
    rw [Nat.add_sub_cancel]
    exact x151n (by omega) hs0.2.1.2.2.2.2
/-- 2 -/
theorem o_2 {v1 v2 v3 v4 v5 : Int32} (hI : Inv S) : OD s0 (X xtab sx 2 0 [some (.ref (adr s0 (0, 0, 0))), some (.int v1), some (.int v2), some (.int v3), some (.int v4), some (.int v5)] []) (X xtab sx 70 0 [some (.ref (adr s0 (8, 0, 0))), some (.int v1), some (.int v2), some (.int v3), some (.int v4), some (.int v5)] []) S := by
  have hI2 := hI
  obtain ⟨n, nh, t, pn, pc, fb, fr, h⟩ := hI
  obtain ⟨f1, f2, f3, f4⟩ := h.2.2.2.2.1
  by_cases hb : fb + 20 ≤ 700
  · have hA := Afr_5 (S := S) (b := fb) (v1 := v1) (v2 := v2) (v3 := v3) (v4 := v4) (v5 := v5)
    have hU : Cfr S (f5F S fb v1 v2 v3 v4 v5) := fun o ho => ⟨hA.1 o (fun e => by rw [e] at ho; simp at ho) (fun e => by rw [e] at ho; simp at ho), by rw [hA.2]⟩
    have hs0 := see_U h hU
    have hset := op_2 (v1 := v1) (v2 := v2) (v3 := v3) (v4 := v4) (v5 := v5) hs0 hb
    have hB := Amr_5 (S := upI (f5F S fb v1 v2 v3 v4 v5) (8, 0, 0) 12 0) (b := fb) (v1 := v1) (v2 := v2) (v3 := v3) (v4 := v4) (v5 := v5)
    have hM : Mfr (oE (f5F S fb v1 v2 v3 v4 v5)) (p5F (upI (f5F S fb v1 v2 v3 v4 v5) (8, 0, 0) 12 0) fb v1 v2 v3 v4 v5) := fun o a b => ⟨hB.1 o (fun e => b (by rw [e])) (fun e => a (by rw [e])), by rw [hB.2.2]; rfl⟩
    exact fun m => ⟨_, _, _, x2n hb f2, x70n hb hs0.2.2.2.2.1.2.2.1, Inv_c2 ⟨_, _, _, _, _, _, _, hset⟩ hM⟩
  · exact OD_get hI2 (fun m => x2z (by omega) f1 f2) (fun m => x70z (by omega) f1 f3)
/-- 35 -/
theorem o_35 (hI : Inv S) : OD s0 (X xtab sx 35 0 [some (.ref (adr s0 (0, 0, 0))), none] []) (X xtab sx 149 0 [some (.ref (adr s0 (8, 0, 0))), none] []) S := by
  obtain ⟨n, nh, t, pn, pc, fb, fr, h⟩ := hI
  have hL := Lok_of h.1.1
  obtain ⟨q1, _, _, q4⟩ := op_35 h
  generalize hl : repC (lineT (upI S (3, 0, 0) 1 0) (rrF S) (ryF' S) (rdF' S)) n = l at *
  have hU : Cfr S (prL (upI S (3, 0, 0) 1 0) 0 l) := fun o ho => by
    refine ⟨?_, by rw [prL_22]; rfl⟩
    rw [prL_oo l _ 0 o (by omega) (by omega)]
    exact upI_fun' _ _ _ (fun e => by rw [e] at ho; simp at ho)
  have hs0 := see_U h hU
  obtain ⟨_, r2, r3, _⟩ := op_35 hs0
  rw [hl] at r3
  have hset := op_35' hs0 q4
  have hM : Mfr (oE (prL (upI S (3, 0, 0) 1 0) 0 l)) (wrL (repS (prL (upI S (3, 0, 0) 1 0) 0 l)) 0 l) := fun o a b => by
    have n8 : o ≠ (8, 0, 0) := fun e => a (by rw [e])
    refine ⟨?_, by rw [wrL_2]; rfl⟩
    rw [wrL_o l _ 0 o (fun e => b (by rw [e])) n8]
    unfold repS oE
    rw [upI_fun' _ _ _ n8]
  refine fun m => ⟨Int32.ofNat l.length, prL (upI S (3, 0, 0) 1 0) 0 l, wrL (repS (prL (upI S (3, 0, 0) 1 0) 0 l)) 0 l, ?_, ?_, Inv_c2 ⟨_, _, _, _, _, _, _, hset⟩ hM⟩
  · have hx := x35 (sx := sx) (s0 := s0) (m := m) hL.1 hL.2.2.2.1 q1
    rw [hl] at hx
    exact hx
  · have hx := x149 (sx := sx) (s0 := s0) (m := m) hL.1 (n_of hs0.1.1) r2
    rw [← r3] at hx
    exact hx
end OP5
