section OP3
variable {sx : xSx} {s0 n nh t k p i h z u f s c d x j e b g r y q a pn pc fb fr : Nat} {S S' T T' U V R : St} {v w o : Int32} {m : Nat × Nat × Nat}
/-! THE CALLS OF THE LAW, 3: changes -/
def InvE (U V : St) : Prop := ∃ n nh t pn pc fb fr, InvP U V n nh t pn pc fb fr
def owT (U : St) (v : Int32) : St := upI (upJ U (9, 0, 0) 0 v.toInt64) (8, 0, 0) 12 0
theorem owT_C : Csm U (owT U v) := (out_C).trans (Mfr_C Mq_12.1)
theorem owT_M : Msm U (owT U v) := (out_M).trans Mq_12.2
theorem owT_12 : (owT U v).1 (8, 0, 0) 12 = 0 := up_12
theorem owT_9 : (owT U v).2.1 (9, 0, 0) 0 = v.toInt64 := by
  show (upJ U (9, 0, 0) 0 v.toInt64).2.1 (9, 0, 0) 0 = _
  rw [upJ_2, if_pos ⟨rfl, rfl⟩]
theorem owT_8 (hg : g ≠ 12) : (owT U v).1 (8, 0, 0) g = U.1 (8, 0, 0) g := by
  unfold owT
  rw [upI_1, if_neg (fun e => hg e.2)]
  rfl
theorem owT_o {o : Ob} (ho : o ≠ (8, 0, 0)) : (owT U v).1 o = U.1 o := by
  unfold owT
  rw [upI_fun' _ _ _ ho]
  rfl
/-- behind a change of both -/
theorem Inv_ch (hP : InvE U V) (hM : Mfr (owT U v) V) : Inv V := by
  obtain ⟨n, nh, t, pn, pc, fb, fr, h⟩ := hP
  exact Inv_step h owT_C hM
theorem OI_ch {cf df : xM → Option xR} {cd : Nat → Int32} (hP : InvE U V) (hM : Mfr (owT U v) V) (h12 : V.1 (8, 0, 0) 12 = 0) (hc : ∀ m : Nat × Nat × Nat, cf (hp s0 S, m) = some (.inl (some (.int v)), (hp s0 U, m))) (hd : ∀ m, df (hp s0 (upJ U (9, 0, 0) 0 v.toInt64), m) = some (.inl (some (.int v)), (hp s0 V, m))) : OI s0 cf df cd S := fun m => Or.inl ⟨v, U, V, hc m, hd m, h12, (congrFun (hM (9, 0, 0) (by simp) (by simp)).2 0).trans owT_9, Inv_ch hP hM⟩
/-- with an answer of 0 or 1 -/
def OB (s0 : Nat) (c d : xM → Option xR) (cd : Nat → Int32) (S : St) : Prop := ∀ m : Nat × Nat × Nat, (∃ v S1 S2, (v = 0 ∨ v = 1) ∧ c (hp s0 S, m) = some (.inl (some (.int v)), (hp s0 S1, m)) ∧ d (hp s0 (upJ S1 (9, 0, 0) 0 v.toInt64), m) = some (.inl (some (.int v)), (hp s0 S2, m)) ∧ S2.1 (8, 0, 0) 12 = 0 ∧ S2.2.1 (9, 0, 0) 0 = v.toInt64 ∧ Inv S2) ∨ (∃ e S2, c (hp s0 S, m) = some (.inr e, (hp s0 S, thM m)) ∧ d (hp s0 S, thM m) = some (.inl (some (.int 0)), (hp s0 S2, thM m)) ∧ S2.1 (8, 0, 0) 12 = cd e ∧ cd e ≠ 0 ∧ Inv S2)
theorem OB_ref {cf df : xM → Option xR} {cd : Nat → Int32} {v : Int32} (hI : Inv S) (e : Nat) (hc : ∀ m : Nat × Nat × Nat, cf (hp s0 S, m) = some (.inr e, (hp s0 S, 0, m.2.1 + 1, m.2.2 + 6))) (hd : ∀ m, df (hp s0 S, m) = some (.inl (some (.int 0)), (hp s0 (upI S (8, 0, 0) 12 v), m))) (h1 : v = cd e) (h2 : cd e ≠ 0) : OB s0 cf df cd S := fun m => Or.inr ⟨e, _, hc m, hd (thM m), up_12.trans h1, h2, Inv_12 hI⟩
theorem OB_ch {cf df : xM → Option xR} {cd : Nat → Int32} (hv : v = 0 ∨ v = 1) (hP : InvE U V) (hM : Mfr (owT U v) V) (h12 : V.1 (8, 0, 0) 12 = 0) (hc : ∀ m : Nat × Nat × Nat, cf (hp s0 S, m) = some (.inl (some (.int v)), (hp s0 U, m))) (hd : ∀ m, df (hp s0 (upJ U (9, 0, 0) 0 v.toInt64), m) = some (.inl (some (.int v)), (hp s0 V, m))) : OB s0 cf df cd S := fun m => Or.inl ⟨v, U, V, hv, hc m, hd m, h12, (congrFun (hM (9, 0, 0) (by simp) (by simp)).2 0).trans owT_9, Inv_ch hP hM⟩
theorem Kf_M (h : Kf T V) : Mfr T V ∧ V.1 (8, 0, 0) 12 = T.1 (8, 0, 0) 12 := ⟨fun o a b => ⟨h.1 o (fun e => b (by rw [e])) (fun e => a (by rw [e])), h.2.2.1 o (fun e => b (by rw [e]))⟩, h.2.1 12 (by decide)⟩
theorem Rt_M (h : Rt T V) : Mfr T V ∧ V.1 (8, 0, 0) 12 = T.1 (8, 0, 0) 12 := ⟨fun o a b => ⟨h.1 o (fun e => b (by rw [e])) (fun e => b (by rw [e])) (fun e => b (by rw [e])) (fun e => b (by rw [e])) (fun e => a (by rw [e])), h.2.2.1 o (fun e => b (by rw [e]))⟩, h.2.1 12 (by decide)⟩
theorem seF_M {x : Int32} : Mfr T (seF T c b x) ∧ (seF T c b x).1 (8, 0, 0) 12 = T.1 (8, 0, 0) 12 := by
  have h := Kf_M (kpF_Kf (S := T) (c := c))
  unfold seF
  have f := upI_M0 (T := kpF T c) (a := b) (v := x)
  exact ⟨h.1.trans f.1, f.2.trans h.2⟩
theorem kuF_Cfr : Cfr S (kuF S n nh pn pc) := fun o ho => by
  have hF := (lcF_Fr (S := S) (k := 3 + pn) (k' := 1) (n := n) (nh := nh)).1 o (Or.inr (by omega))
  have h0 : o ≠ (0, 0, 0) := fun e => by rw [e] at ho; simp at ho
  unfold kuF
  rw [upI_fun' _ _ _ h0, upI_fun' _ _ _ h0]
  exact ⟨hF.1, hF.2⟩
theorem Cfr_up {o' : Ob} {x : Int32} (h : Cfr S U) (ho : o'.1 ≠ 8 ∧ o'.1 ≠ 11) : Cfr S (upI U o' g x) := fun o hh => by
  have e : o ≠ o' := fun e => by rw [e] at hh; omega
  exact ⟨(upI_fun' _ _ _ e).trans (h o hh).1, (h o hh).2⟩
theorem see_ch (h : InvP S S n nh t pn pc fb fr) (hU : Cfr S U) : InvP S (owT U v) n nh t pn pc fb fr := Inv_m h ((Cfr_M hU).trans owT_M)
theorem see_c0 {x : Int64} (h : InvP S S n nh t pn pc fb fr) (hU : Cfr S U) : InvP S (upJ U (9, 0, 0) 0 x) n nh t pn pc fb fr := Inv_m h ((Cfr_M hU).trans out_M)
/-- 28 -/
theorem o_28 (hI : Inv S) (hw : w = 0 ∨ w = 1) : OB s0 (X xtab sx 28 0 [some (.ref (adr s0 (0, 0, 0))), some (.int v), some (.int w), none] []) (X xtab sx 139 0 [some (.ref (adr s0 (8, 0, 0))), some (.int v), some (.int w)] []) (fun e => if e = 2 then 1 else 0) S := by
  have hI2 := hI
  obtain ⟨n, nh, t, pn, pc, fb, fr, h⟩ := hI
  have hL := Lok_of h.1.1
  have hn := hL.1
  have hC := Cst_of h
  rcases idx v (n := n) (by omega) with hv | ⟨i, hi, rfl⟩
  · exact OB_ref hI2 2 (fun m => x28u (by rw [hL.2.2.2.1]; exact hv)) (fun m => x139u (Rok_of h.1.1) hv) rfl (by decide)
  · have hP := (Num_iff.mp h.1.1.2.1).2.2.2.1 i hi
    have hU : Cfr S (upI (kuF S n nh pn pc) (17, 1, i) 11 w) := Cfr_up kuF_Cfr (by simp)
    have hs := see_ch (v := S.1 (17, 1, i) 11) h hU
    have hs0 := see_c0 (x := (S.1 (17, 1, i) 11).toInt64) h hU
    obtain ⟨pn', pc', hk⟩ := op_keep hs
    have eP : (kuF S n nh pn pc).1 (17, 1, i) = S.1 (17, 1, i) := by
      unfold kuF
      rw [upI_fun' _ _ _ (by simp), upI_fun' _ _ _ (by simp)]
      exact ((lcF_Fr (S := S) (k := 3 + pn) (k' := 1) (n := n) (nh := nh)).1 _ (Or.inl (show (1 : Nat) ≠ 3 + pn by omega))).1
    have hset := set_P (w := 10) (v := w) hk hi (by decide) (by decide) (NP_11 (by rw [eP]; exact hP) hw)
    have hM := seF_M (T := owT (upI (kuF S n nh pn pc) (17, 1, i) 11 w) (S.1 (17, 1, i) 11)) (c := pc) (b := 36 + 11 * i + 10) (x := w)
    refine OB_ch (v := S.1 (17, 1, i) 11) hP.1 ⟨_, _, _, _, _, _, _, hset⟩ hM.1 (hM.2.trans owT_12) (fun m => x28n hC hi hw) (fun m => ?_)
    have hx := x139n (sx := sx) (s0 := s0) (m := m) hi (Rok_of hs0.1.1) h.2.1.2.2.2.1 hs0.2.1.2.2.2.2 hw
    have ev : S.1 (17, 1, i) 11 = (upJ (upI (kuF S n nh pn pc) (17, 1, i) 11 w) (9, 0, 0) 0 (S.1 (17, 1, i) 11).toInt64).1 (11, 0, 0) (36 + 11 * i + 10) := hs0.1.1.1.2.2.1 i 10 hi (by decide)
    rw [← ev] at hx
    have e2 : (if S.1 (17, 1, i) 11 = 1 then 1 else 0 : Int32) = S.1 (17, 1, i) 11 := by
      rcases hP.1 with e | e <;> rw [e] <;> decide
    rw [e2] at hx
    exact hx
/-- 29 -/
theorem o_29 (hI : Inv S) : OI s0 (X xtab sx 29 0 [some (.ref (adr s0 (0, 0, 0))), some (.int v), some (.int w), none, none] []) (X xtab sx 140 0 [some (.ref (adr s0 (8, 0, 0))), some (.int v), some (.int w)] []) cd2 S := by
  have hI2 := hI
  obtain ⟨n, nh, t, pn, pc, fb, fr, h⟩ := hI
  have hL := Lok_of h.1.1
  have hn := hL.1
  have hC := Cst_of h
  rcases idx v (n := n) (by omega) with hv | ⟨i, hi, rfl⟩
  · exact OI_ref hI2 2 (fun m => x29u (by rw [hL.2.2.2.1]; exact hv)) (fun m => x140u (Rok_of h.1.1) hv) rfl (by decide)
  · have hP := (Num_iff.mp h.1.1.2.1).2.2.2.1 i hi
    have g3 : S.1 (17, 1, i) 4 = gP S i 3 := h.1.1.1.2.2.1 i 3 hi (by decide)
    have g4 : S.1 (17, 1, i) 5 = gP S i 4 := h.1.1.1.2.2.1 i 4 hi (by decide)
    by_cases hw : S.1 (17, 1, i) 4 ≤ w ∧ w ≤ S.1 (17, 1, i) 5
    · have hU : Cfr S (upI (kuF S n nh pn pc) (17, 1, i) 3 w) := Cfr_up kuF_Cfr (by simp)
      have hs := see_ch (v := S.1 (17, 1, i) 3) h hU
      have hs0 := see_c0 (x := (S.1 (17, 1, i) 3).toInt64) h hU
      obtain ⟨pn', pc', hk⟩ := op_keep hs
      have eP : (kuF S n nh pn pc).1 (17, 1, i) = S.1 (17, 1, i) := by
        unfold kuF
        rw [upI_fun' _ _ _ (by simp), upI_fun' _ _ _ (by simp)]
        exact ((lcF_Fr (S := S) (k := 3 + pn) (k' := 1) (n := n) (nh := nh)).1 _ (Or.inl (show (1 : Nat) ≠ 3 + pn by omega))).1
      have hset := set_P (w := 2) (v := w) hk hi (by decide) (by decide) (NP_3 (by rw [eP]; exact hP) (by rw [eP]; exact ⟨leI.mp hw.1, leI.mp hw.2⟩))
      have hM := seF_M (T := owT (upI (kuF S n nh pn pc) (17, 1, i) 3 w) (S.1 (17, 1, i) 3)) (c := pc) (b := 36 + 11 * i + 2) (x := w)
      refine OI_ch (v := S.1 (17, 1, i) 3) ⟨_, _, _, _, _, _, _, hset⟩ hM.1 (hM.2.trans owT_12) (fun m => x29n hC hi hw.1 hw.2) (fun m => ?_)
      have q3 : S.1 (17, 1, i) 4 = gP (upJ (upI (kuF S n nh pn pc) (17, 1, i) 3 w) (9, 0, 0) 0 (S.1 (17, 1, i) 3).toInt64) i 3 := hs0.1.1.1.2.2.1 i 3 hi (by decide)
      have q4 : S.1 (17, 1, i) 5 = gP (upJ (upI (kuF S n nh pn pc) (17, 1, i) 3 w) (9, 0, 0) 0 (S.1 (17, 1, i) 3).toInt64) i 4 := hs0.1.1.1.2.2.1 i 4 hi (by decide)
      have hx := x140n (sx := sx) (s0 := s0) (m := m) (v := w) hi (Rok_of hs0.1.1) h.2.1.2.2.2.1 hs0.2.1.2.2.2.2 (by rw [← q3]; exact hw.1) (by rw [← q4]; exact hw.2)
      have ev : S.1 (17, 1, i) 3 = (upJ (upI (kuF S n nh pn pc) (17, 1, i) 3 w) (9, 0, 0) 0 (S.1 (17, 1, i) 3).toInt64).1 (11, 0, 0) (36 + 11 * i + 2) := hs0.1.1.1.2.2.1 i 2 hi (by decide)
      rw [← ev] at hx
      exact hx
    · have hw2 : w < S.1 (17, 1, i) 4 ∨ S.1 (17, 1, i) 5 < w := by
        rw [ltI, ltI]
        rw [leI, leI] at hw
        omega
      exact OI_ref hI2 0 (fun m => x29t hC hi hw2) (fun m => x140t hi (Rok_of h.1.1) (by rw [← g3, ← g4]; exact hw2)) rfl (by decide)
/-- 30 -/
theorem o_30 (hI : Inv S) : OI s0 (X xtab sx 30 0 [some (.ref (adr s0 (0, 0, 0))), some (.int v), some (.int w), none] []) (X xtab sx 141 0 [some (.ref (adr s0 (8, 0, 0))), some (.int v), some (.int w)] []) cd2 S := by
  have hI2 := hI
  obtain ⟨n, nh, t, pn, pc, fb, fr, h⟩ := hI
  have hL := Lok_of h.1.1
  have hn := hL.1
  have hC := Cst_of h
  rcases idx v (n := n) (by omega) with hv | ⟨i, hi, rfl⟩
  · exact OI_ref hI2 2 (fun m => x30u (by rw [hL.2.2.2.1]; exact hv)) (fun m => x141u (Rok_of h.1.1) hv) rfl (by decide)
  · have hP := (Num_iff.mp h.1.1.2.1).2.2.2.1 i hi
    by_cases hw : 0 ≤ w ∧ w ≤ 100
    · have hU : Cfr S (upI (kuF S n nh pn pc) (17, 1, i) 7 w) := Cfr_up kuF_Cfr (by simp)
      have hs := see_ch (v := S.1 (17, 1, i) 7) h hU
      have hs0 := see_c0 (x := (S.1 (17, 1, i) 7).toInt64) h hU
      obtain ⟨pn', pc', hk⟩ := op_keep hs
      have eP : (kuF S n nh pn pc).1 (17, 1, i) = S.1 (17, 1, i) := by
        unfold kuF
        rw [upI_fun' _ _ _ (by simp), upI_fun' _ _ _ (by simp)]
        exact ((lcF_Fr (S := S) (k := 3 + pn) (k' := 1) (n := n) (nh := nh)).1 _ (Or.inl (show (1 : Nat) ≠ 3 + pn by omega))).1
      have hset := set_P (w := 6) (v := w) hk hi (by decide) (by decide) (NP_7 (by rw [eP]; exact hP) ⟨leI.mp hw.1, leI.mp hw.2⟩)
      have hM := seF_M (T := owT (upI (kuF S n nh pn pc) (17, 1, i) 7 w) (S.1 (17, 1, i) 7)) (c := pc) (b := 36 + 11 * i + 6) (x := w)
      refine OI_ch (v := S.1 (17, 1, i) 7) ⟨_, _, _, _, _, _, _, hset⟩ hM.1 (hM.2.trans owT_12) (fun m => x30n hC hi hw.1 hw.2) (fun m => ?_)
      have hx := x141n (sx := sx) (s0 := s0) (m := m) (v := w) hi (Rok_of hs0.1.1) h.2.1.2.2.2.1 hs0.2.1.2.2.2.2 hw.1 hw.2
      have ev : S.1 (17, 1, i) 7 = (upJ (upI (kuF S n nh pn pc) (17, 1, i) 7 w) (9, 0, 0) 0 (S.1 (17, 1, i) 7).toInt64).1 (11, 0, 0) (36 + 11 * i + 6) := hs0.1.1.1.2.2.1 i 6 hi (by decide)
      rw [← ev] at hx
      exact hx
    · have hw2 : w < 0 ∨ 100 < w := by
        rw [ltI, ltI]
        rw [leI, leI] at hw
        omega
      exact OI_ref hI2 0 (fun m => x30t hC hi hw2) (fun m => x141t hi (Rok_of h.1.1) hw2) rfl (by decide)
/-- 31 -/
theorem o_31 (hI : Inv S) : OI s0 (X xtab sx 31 0 [some (.ref (adr s0 (0, 0, 0))), some (.int v), some (.int w), none] []) (X xtab sx 142 0 [some (.ref (adr s0 (8, 0, 0))), some (.int v), some (.int w)] []) cd2 S := by
  have hI2 := hI
  obtain ⟨n, nh, t, pn, pc, fb, fr, h⟩ := hI
  have hL := Lok_of h.1.1
  have hnh := hL.2.1
  have hC := Cst_of h
  rcases idx v (n := nh) (by omega) with hv | ⟨i, hi, rfl⟩
  · exact OI_ref hI2 2 (fun m => x31u (by rw [hL.2.2.2.2.1]; exact hv)) (fun m => x142u hnh (nh_of h.1.1) hv) rfl (by decide)
  · by_cases hw : 1 ≤ w ∧ w ≤ 99999
    · have hU : Cfr S (upI (kuF S n nh pn pc) (16, 1, i) 1 w) := Cfr_up kuF_Cfr (by simp)
      have hs := see_ch (v := S.1 (16, 1, i) 1) h hU
      have hs0 := see_c0 (x := (S.1 (16, 1, i) 1).toInt64) h hU
      obtain ⟨pn', pc', hk⟩ := op_keep hs
      have hset := set_H (w := 0) (v := w) hk hi (by decide) (fun e => absurd e (by decide))
      have hM := seF_M (T := owT (upI (kuF S n nh pn pc) (16, 1, i) 1 w) (S.1 (16, 1, i) 1)) (c := pc) (b := 12 + 4 * i + 0) (x := w)
      refine OI_ch (v := S.1 (16, 1, i) 1) ⟨_, _, _, _, _, _, _, hset⟩ hM.1 (hM.2.trans owT_12) (fun m => x31n hC hi hw.1 hw.2) (fun m => ?_)
      have hx := x142n (sx := sx) (s0 := s0) (m := m) (v := w) hi hnh (nh_of hs0.1.1) h.2.1.2.2.2.1 hs0.2.1.2.2.2.2 hw.1 hw.2
      have ev : S.1 (16, 1, i) 1 = (upJ (upI (kuF S n nh pn pc) (16, 1, i) 1 w) (9, 0, 0) 0 (S.1 (16, 1, i) 1).toInt64).1 (11, 0, 0) (12 + 4 * i + 0) := hs0.1.1.1.2.1 i 0 hi (by decide)
      rw [← ev] at hx
      exact hx
    · have hw2 : w < 1 ∨ 99999 < w := by
        rw [ltI, ltI]
        rw [leI, leI] at hw
        omega
      exact OI_ref hI2 0 (fun m => x31t hC hi hw2) (fun m => x142t hi hnh (nh_of h.1.1) hw2) rfl (by decide)
def cd3 (e : Nat) : Int32 := if e = 2 then 1 else if e = 0 then 2 else if e = 1 then 3 else 0
/-- 32 -/
theorem o_32 (hI : Inv S) : OI s0 (X xtab sx 32 0 [some (.ref (adr s0 (0, 0, 0))), some (.int v), some (.int w), none] []) (X xtab sx 143 0 [some (.ref (adr s0 (8, 0, 0))), some (.int v), some (.int w), none] []) cd3 S := by
  have hI2 := hI
  obtain ⟨n, nh, t, pn, pc, fb, fr, h⟩ := hI
  have hL := Lok_of h.1.1
  have hnh := hL.2.1
  have hC := Cst_of h
  rcases idx v (n := nh) (by omega) with hv | ⟨i, hi, rfl⟩
  · exact OI_ref hI2 2 (fun m => x32u (by rw [hL.2.2.2.2.1]; exact hv)) (fun m => x143u hnh (nh_of h.1.1) hv) rfl (by decide)
  · have hB := (Num_iff.mp h.1.1.2.1).2.2.2.2 i hi
    have gB : S.1 (16, 1, i) 2 = gH S i 1 := h.1.1.1.2.1 i 1 hi (by decide)
    by_cases hw : 1 ≤ w ∧ w ≤ 99999
    · by_cases h3 : S.1 (16, 1, i) 2 + w ≤ 9999999
      · have hsum : (S.1 (16, 1, i) 2 + w).toInt = (S.1 (16, 1, i) 2).toInt + w.toInt := by
          have a1 := leI.mp hw.1
          have a2 := leI.mp hw.2
          rw [show (1 : Int32).toInt = 1 from rfl] at a1
          rw [show (99999 : Int32).toInt = 99999 from rfl] at a2
          rw [Int32.toInt_add, Int.bmod_eq_of_le (by omega) (by omega)]
        have hU : Cfr S (upI (kuF S n nh pn pc) (16, 1, i) 2 (S.1 (16, 1, i) 2 + w)) := Cfr_up kuF_Cfr (by simp)
        have hs := see_ch (v := S.1 (16, 1, i) 2 + w) h hU
        have hs0 := see_c0 (x := (S.1 (16, 1, i) 2 + w).toInt64) h hU
        obtain ⟨pn', pc', hk⟩ := op_keep hs
        have hset := set_H (w := 1) (v := S.1 (16, 1, i) 2 + w) hk hi (by decide) (fun _ => by
          have a1 := leI.mp hw.1
          have a3 := leI.mp h3
          rw [show (1 : Int32).toInt = 1 from rfl] at a1
          rw [show (9999999 : Int32).toInt = 9999999 from rfl] at a3
          omega)
        have hM := seF_M (T := owT (upI (kuF S n nh pn pc) (16, 1, i) 2 (S.1 (16, 1, i) 2 + w)) (S.1 (16, 1, i) 2 + w)) (c := pc) (b := 12 + 4 * i + 1) (x := S.1 (16, 1, i) 2 + w)
        refine OI_ch (v := S.1 (16, 1, i) 2 + w) ⟨_, _, _, _, _, _, _, hset⟩ hM.1 (hM.2.trans owT_12) (fun m => x32n hC hi hw.1 hw.2 h3) (fun m => ?_)
        have q1 : S.1 (16, 1, i) 2 = gH (upJ (upI (kuF S n nh pn pc) (16, 1, i) 2 (S.1 (16, 1, i) 2 + w)) (9, 0, 0) 0 (S.1 (16, 1, i) 2 + w).toInt64) i 1 := hs0.1.1.1.2.1 i 1 hi (by decide)
        have hx := x143n (sx := sx) (s0 := s0) (m := m) (v := w) hi hnh (nh_of hs0.1.1) h.2.1.2.2.2.1 hs0.2.1.2.2.2.2 hw.1 hw.2 (by rw [← q1]; exact h3)
        rw [← q1] at hx
        exact hx
      · have h4 : 9999999 < S.1 (16, 1, i) 2 + w := Int32.not_le.mp h3
        exact OI_ref hI2 1 (fun m => x32s hC hi hw.1 hw.2 h4) (fun m => x143s hi hnh (nh_of h.1.1) hw.1 hw.2 (by rw [← gB]; exact h4)) rfl (by decide)
    · have hw2 : w < 1 ∨ 99999 < w := by
        rw [ltI, ltI]
        rw [leI, leI] at hw
        omega
      exact OI_ref hI2 0 (fun m => x32t hC hi hw2) (fun m => x143t hi hnh (nh_of h.1.1) hw2) rfl (by decide)
/-- 33 -/
theorem o_33 (hI : Inv S) : OI s0 (X xtab sx 33 0 [some (.ref (adr s0 (0, 0, 0))), some (.int v), some (.int w), none] []) (X xtab sx 144 0 [some (.ref (adr s0 (8, 0, 0))), some (.int v), some (.int w), none] []) cd0 S := by
  have hI2 := hI
  obtain ⟨n, nh, t, pn, pc, fb, fr, h⟩ := hI
  have hC := Cst_of h
  by_cases hv : 1 ≤ v ∧ v ≤ 9999
  · by_cases hw : 1 ≤ w ∧ w ≤ 100
    · have hU : Cfr S (upI (upI (kuF S n nh pn pc) (12, 1, 0) 0 v) (12, 1, 0) 1 w) := Cfr_up (Cfr_up kuF_Cfr (by simp)) (by simp)
      have hs := see_ch (v := S.1 (12, 1, 0) 0) h hU
      have hs0 := see_c0 (x := (S.1 (12, 1, 0) 0).toInt64) h hU
      obtain ⟨pn', pc', hk⟩ := op_keep hs
      have hNK := (Num_iff.mp hk.1.1.2.1).2.2.1
      have a1 := leI.mp hv.1
      have a2 := leI.mp hv.2
      rw [show (1 : Int32).toInt = 1 from rfl] at a1
      rw [show (9999 : Int32).toInt = 9999 from rfl] at a2
      have hset := set_k2 (g := 2) (g2 := 3) (v := v) (v2 := w) hk (by decide) (by decide) (by decide) (by decide) (NK_1 (NK_0 hNK ⟨by omega, by omega⟩) ⟨leI.mp hw.1, leI.mp hw.2⟩)
      have hM := seF_M (T := owT (upI (upI (kuF S n nh pn pc) (12, 1, 0) 0 v) (12, 1, 0) 1 w) (S.1 (12, 1, 0) 0)) (c := pc) (b := 2) (x := v)
      have hM2 := upI_M0 (T := seF (owT (upI (upI (kuF S n nh pn pc) (12, 1, 0) 0 v) (12, 1, 0) 1 w) (S.1 (12, 1, 0) 0)) pc 2 v) (a := 3) (v := w)
      refine OI_ch (v := S.1 (12, 1, 0) 0) ⟨_, _, _, _, _, _, _, hset⟩ (hM.1.trans hM2.1) ((hM2.2.trans hM.2).trans owT_12) (fun m => x33n hC hv.1 hv.2 hw.1 hw.2) (fun m => ?_)
      have hx := x144n (sx := sx) (s0 := s0) (S := upJ (upI (upI (kuF S n nh pn pc) (12, 1, 0) 0 v) (12, 1, 0) 1 w) (9, 0, 0) 0 (S.1 (12, 1, 0) 0).toInt64) (m := m) (v := v) (w := w) h.2.1.2.2.2.1 hs0.2.1.2.2.2.2 hv.1 hv.2 hw.1 hw.2
      have ev : S.1 (12, 1, 0) 0 = (upJ (upI (upI (kuF S n nh pn pc) (12, 1, 0) 0 v) (12, 1, 0) 1 w) (9, 0, 0) 0 (S.1 (12, 1, 0) 0).toInt64).1 (11, 0, 0) 2 := hs0.1.1.1.1 2 (by decide)
      rw [← ev] at hx
      exact hx
    · have hw2 : w < 1 ∨ 100 < w := by
        rw [ltI, ltI]
        rw [leI, leI] at hw
        omega
      exact OI_ref hI2 0 (fun m => x33u hv.1 hv.2 hw2) (fun m => x144u hv.1 hv.2 hw2) rfl (by decide)
  · have hv2 : v < 1 ∨ 9999 < v := by
      rw [ltI, ltI]
      rw [leI, leI] at hv
      omega
    exact OI_ref hI2 0 (fun m => x33t hv2) (fun m => x144t hv2) rfl (by decide)
/-- 34 -/
theorem o_34 (hI : Inv S) : OI s0 (X xtab sx 34 0 [some (.ref (adr s0 (0, 0, 0))), some (.int v), some (.int w), none] []) (X xtab sx 145 0 [some (.ref (adr s0 (8, 0, 0))), some (.int v), some (.int w), none] []) cd0 S := by
  have hI2 := hI
  obtain ⟨n, nh, t, pn, pc, fb, fr, h⟩ := hI
  have hC := Cst_of h
  by_cases hv : 0 ≤ v ∧ v ≤ 99
  · by_cases hw : 0 ≤ w ∧ w ≤ v
    · have hU : Cfr S (upI (upI (kuF S n nh pn pc) (12, 1, 0) 2 v) (12, 1, 0) 3 w) := Cfr_up (Cfr_up kuF_Cfr (by simp)) (by simp)
      have hs := see_ch (v := S.1 (12, 1, 0) 2) h hU
      have hs0 := see_c0 (x := (S.1 (12, 1, 0) 2).toInt64) h hU
      obtain ⟨pn', pc', hk⟩ := op_keep hs
      have hNK := (Num_iff.mp hk.1.1.2.1).2.2.1
      have hset := set_k2 (g := 4) (g2 := 5) (v := v) (v2 := w) hk (by decide) (by decide) (by decide) (by decide) (NK_23 hNK ⟨leI.mp hv.1, leI.mp hv.2⟩ ⟨leI.mp hw.1, leI.mp hw.2⟩)
      have hM := seF_M (T := owT (upI (upI (kuF S n nh pn pc) (12, 1, 0) 2 v) (12, 1, 0) 3 w) (S.1 (12, 1, 0) 2)) (c := pc) (b := 4) (x := v)
      have hM2 := upI_M0 (T := seF (owT (upI (upI (kuF S n nh pn pc) (12, 1, 0) 2 v) (12, 1, 0) 3 w) (S.1 (12, 1, 0) 2)) pc 4 v) (a := 5) (v := w)
      refine OI_ch (v := S.1 (12, 1, 0) 2) ⟨_, _, _, _, _, _, _, hset⟩ (hM.1.trans hM2.1) ((hM2.2.trans hM.2).trans owT_12) (fun m => x34n hC hv.1 hv.2 hw.1 hw.2) (fun m => ?_)
      have hx := x145n (sx := sx) (s0 := s0) (S := upJ (upI (upI (kuF S n nh pn pc) (12, 1, 0) 2 v) (12, 1, 0) 3 w) (9, 0, 0) 0 (S.1 (12, 1, 0) 2).toInt64) (m := m) (v := v) (w := w) h.2.1.2.2.2.1 hs0.2.1.2.2.2.2 hv.1 hv.2 hw.1 hw.2
      have ev : S.1 (12, 1, 0) 2 = (upJ (upI (upI (kuF S n nh pn pc) (12, 1, 0) 2 v) (12, 1, 0) 3 w) (9, 0, 0) 0 (S.1 (12, 1, 0) 2).toInt64).1 (11, 0, 0) 4 := hs0.1.1.1.1 4 (by decide)
      rw [← ev] at hx
      exact hx
    · have hw2 : w < 0 ∨ v < w := by
        rw [ltI, ltI]
        rw [leI, leI] at hw
        omega
      exact OI_ref hI2 0 (fun m => x34u hv.1 hv.2 hw2) (fun m => x145u hv.1 hv.2 hw2) rfl (by decide)
  · have hv2 : v < 0 ∨ 99 < v := by
      rw [ltI, ltI]
      rw [leI, leI] at hv
      omega
    exact OI_ref hI2 0 (fun m => x34t hv2) (fun m => x145t hv2) rfl (by decide)
end OP3
