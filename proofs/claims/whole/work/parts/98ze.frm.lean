section FRM
variable {n nh t k p i h z m u f s c d x j e b g r y q a pn pc fb fr : Nat} {S S' T T' U V R X : St} {v w : Int32} {fo ff : Int32}
/-! WHAT THE TRIALS LEAVE -/
def Mq (T T' : St) : Prop := Msm T T' ∧ Mfr T T' ∧ T'.1 (8, 0, 0) 12 = T.1 (8, 0, 0) 12
theorem Mq.refl : Mq T T := ⟨Msm.refl, Mfr.refl, rfl⟩
theorem Mq.trans (h1 : Mq S U) (h2 : Mq U V) : Mq S V := ⟨h1.1.trans h2.1, h1.2.1.trans h2.2.1, h2.2.2.trans h1.2.2⟩
theorem gas_o {o : Ob} (ho : o ≠ (11, 1, 0)) : (gasF T).1 o = T.1 o := by
  unfold gasF cpJ cpI
  rw [rwJ_1, rwI_fun' _ _ ho]
theorem gas_oJ {o : Ob} (ho : o ≠ (11, 6, 0)) : (gasF T).2.1 o = T.2.1 o := by
  unfold gasF cpJ cpI
  rw [rwJ_fun' _ _ ho]
  rfl
theorem cbk_o {o : Ob} (ho : o ≠ (11, 0, 0)) : (cbkF T).1 o = T.1 o := by
  unfold cbkF cpJ cpI
  rw [rwJ_1, rwI_fun' _ _ ho]
theorem cbk_oJ {o : Ob} (ho : o ≠ (11, 5, 0)) : (cbkF T).2.1 o = T.2.1 o := by
  unfold cbkF cpJ cpI
  rw [rwJ_fun' _ _ ho]
  rfl
theorem cbk_0 (hj : j < 384) : (cbkF T).1 (11, 0, 0) j = T.1 (11, 1, 0) j := by
  unfold cbkF cpJ cpI
  rw [rwJ_1, rwI_fun, cpy_in (by omega) (by omega), Nat.sub_zero, Nat.zero_add]
theorem cbk_5 (hj : j < 114) : (cbkF T).2.1 (11, 5, 0) j = T.2.1 (11, 6, 0) j := by
  unfold cbkF cpJ cpI
  rw [rwJ_fun, cpy_in (by omega) (by omega), Nat.sub_zero, Nat.zero_add]
  rfl
theorem gas_1 (hj : j < 384) : (gasF T).1 (11, 1, 0) j = T.1 (11, 0, 0) j := by
  unfold gasF cpJ cpI
  rw [rwJ_1, rwI_fun, cpy_in (by omega) (by omega), Nat.sub_zero, Nat.zero_add]
theorem gas_6 (hj : j < 114) : (gasF T).2.1 (11, 6, 0) j = T.2.1 (11, 5, 0) j := by
  unfold gasF cpJ cpI
  rw [rwJ_fun, cpy_in (by omega) (by omega), Nat.sub_zero, Nat.zero_add]
  rfl
theorem Mq_cb (h : Rt (gasF T) X) : Mq T (cbkF X) := by
  obtain ⟨h1, h2, h3, h4⟩ := h
  have o1 : ∀ o : Ob, o ≠ (11, 0, 0) → o ≠ (11, 1, 0) → o ≠ (11, 12, 0) → o ≠ (11, 13, 0) → o ≠ (11, 14, 0) → o ≠ (8, 0, 0) → (cbkF X).1 o = T.1 o := fun o a b c d e f => by
    rw [cbk_o a, h1 o a c d e f, gas_o b]
  have o2 : ∀ o : Ob, o ≠ (11, 5, 0) → o ≠ (11, 6, 0) → (cbkF X).2.1 o = T.2.1 o := fun o a b => by
    rw [cbk_oJ a, h3 o a, gas_oJ b]
  have o8 : ∀ f, f ≠ 26 → (cbkF X).1 (8, 0, 0) f = T.1 (8, 0, 0) f := fun f hf => by
    rw [cbk_o (by simp), h2 f hf, gas_o (by simp)]
  refine ⟨⟨⟨fun j hj => ?_, fun j hj => ?_⟩, ?_, ?_, ?_, ?_, ?_, ?_, ?_, o8 _ (by decide), o8 _ (by decide), o8 _ (by decide)⟩, fun o a b => ⟨?_, ?_⟩, o8 _ (by decide)⟩
  · rw [cbk_0 hj, h1 _ (by simp) (by simp) (by simp) (by simp) (by simp), gas_1 hj]
  · rw [cbk_5 hj, h3 _ (by simp), gas_6 hj]
  · exact o1 _ (by simp) (by simp) (by simp) (by simp) (by simp) (by simp)
  · exact o1 _ (by simp) (by simp) (by simp) (by simp) (by simp) (by simp)
  · exact o1 _ (by simp) (by simp) (by simp) (by simp) (by simp) (by simp)
  · exact o1 _ (by simp) (by simp) (by simp) (by simp) (by simp) (by simp)
  · exact o1 _ (by simp) (by simp) (by simp) (by simp) (by simp) (by simp)
  · exact o2 _ (by simp) (by simp)
  · exact o2 _ (by simp) (by simp)
  · have n11 : ∀ y, o ≠ (11, y, 0) := fun y e => b (by rw [e])
    exact o1 o (n11 _) (n11 _) (n11 _) (n11 _) (n11 _) (fun e => a (by rw [e]))
  · have n11 : ∀ y, o ≠ (11, y, 0) := fun y e => b (by rw [e])
    exact o2 o (n11 _) (n11 _)
theorem Mq_ra : Mq T (raS T n t q) := Mq_cb (rmI_Rt q)
theorem upI_M0 : Mfr T (upI T (11, 0, 0) a v) ∧ (upI T (11, 0, 0) a v).1 (8, 0, 0) 12 = T.1 (8, 0, 0) 12 := ⟨fun o _ b => ⟨upI_fun' _ _ _ (fun e => b (by rw [e])), rfl⟩, by rw [upI_1, if_neg (by simp)]⟩
theorem Mq_rf : Mq T (rfS T a v n t q) := by
  have h := Mq_ra (T := upI T (11, 0, 0) a v) (n := n) (t := t) (q := q)
  obtain ⟨⟨w, m1, m2, m3, m4, m5, m6, m7, m8, m9, m10⟩, h2, h3⟩ := h
  have f1 := upI_M0 (T := T) (a := a) (v := v)
  unfold rfS
  generalize hX : raS (upI T (11, 0, 0) a v) n t q = X at *
  have f2 := upI_M0 (T := X) (a := a) (v := T.1 (11, 0, 0) a)
  have e1 : ∀ y, y ≠ 0 → (upI T (11, 0, 0) a v).1 (11, y, 0) = T.1 (11, y, 0) := fun y hy => upI_fun' _ _ _ (by simp [hy])
  have e2 : ∀ y, y ≠ 0 → (upI X (11, 0, 0) a (T.1 (11, 0, 0) a)).1 (11, y, 0) = X.1 (11, y, 0) := fun y hy => upI_fun' _ _ _ (by simp [hy])
  have e3 : ∀ g, (upI T (11, 0, 0) a v).1 (8, 0, 0) g = T.1 (8, 0, 0) g := fun g => by rw [upI_1, if_neg (by simp)]
  have e4 : ∀ g, (upI X (11, 0, 0) a (T.1 (11, 0, 0) a)).1 (8, 0, 0) g = X.1 (8, 0, 0) g := fun g => by rw [upI_1, if_neg (by simp)]
  refine ⟨⟨⟨fun j hj => ?_, fun j hj => (w.2 j hj).trans rfl⟩, ?_, ?_, ?_, ?_, ?_, m6, m7, ?_, ?_, ?_⟩, (f1.1.trans h2).trans f2.1, ?_⟩
  · rw [upI_1]
    by_cases e : j = a
    · rw [if_pos ⟨rfl, e⟩, e]
    · rw [if_neg (fun e2 => e e2.2), w.1 j hj, upI_1, if_neg (fun e2 => e e2.2)]
  · rw [e2 2 (by decide), m1, e1 2 (by decide)]
  · rw [e2 3 (by decide), m2, e1 3 (by decide)]
  · rw [e2 10 (by decide), m3, e1 10 (by decide)]
  · rw [e2 11 (by decide), m4, e1 11 (by decide)]
  · rw [e2 15 (by decide), m5, e1 15 (by decide)]
  · rw [e4, m8, e3]
  · rw [e4, m9, e3]
  · rw [e4, m10, e3]
  · rw [e4, h3, e3]
theorem Mq_bt : ∀ j (X : St) (fo ff : Int32), Mq T X → Mq T (btR n t u X fo ff j).2 := by
  intro j
  induction j with
  | zero => intro X fo ff h; exact h
  | succ j ih => intro X fo ff h; exact ih _ _ _ (h.trans Mq_rf)
theorem Mq_nc : ∀ j (X : St) c, Mq T X → Mq T (ncR n t u X c j).2 := by
  intro j
  induction j with
  | zero => intro X c h; exact h
  | succ j ih =>
    intro X c h
    unfold ncR
    split
    · exact ih _ _ (h.trans Mq_rf)
    · exact h.trans Mq_rf
theorem Mq_cu : ∀ j i (X : St) (fo ff : Int32), Mq T X → Mq T (cuR n t u X fo ff i j).2 := by
  intro j
  induction j with
  | zero => intro i X fo ff h; exact h
  | succ j ih =>
    intro i X fo ff h
    unfold cuR
    split
    · exact ih _ _ _ _ (h.trans Mq_rf)
    · exact ih _ _ _ _ h
theorem Mq_btP : Mq T (btP T n t u).2 := Mq_bt 99 _ _ _ Mq_rf
theorem Mq_cuP : Mq T (cuP T n t u).2 := Mq_cu n 0 _ _ _ Mq_ra
theorem fdF_Fr : ∀ j i (X : St), Fr 2 S X → Fr 2 S (fdF n nh X i j).2 := by
  intro j
  induction j with
  | zero => intro i X h; exact h
  | succ j ih =>
    intro i X h
    unfold fdF
    split
    · exact h.trans psF_Fr
    · exact ih _ _ (h.trans psF_Fr)
theorem caF_Fr : ∀ j i (X : St) (c : Int32), Fr 2 S X → Fr 2 S (caF n nh X c i j).2 := by
  intro j
  induction j with
  | zero => intro i X c h; exact h
  | succ j ih =>
    intro i X c h
    rw [show caF n nh X c i (j + 1) = if (if 0 < psV X 2 n then 0 else c + 1) = 3 then (Int32.ofNat i - 3 + 1, psF X 2 n nh) else caF n nh (psF X 2 n nh) (if 0 < psV X 2 n then 0 else c + 1) (i + 1) j from rfl]
    generalize (if 0 < psV X 2 n then (0 : Int32) else c + 1) = y
    split
    · exact h.trans psF_Fr
    · exact ih _ _ _ (h.trans psF_Fr)
theorem btF_Fr : ∀ j (X : St) (b f : Int32), Fr 2 S X → Fr 2 S (btF n nh u X b f j).2 := by
  intro j
  induction j with
  | zero => intro X b f h; exact h
  | succ j ih =>
    intro X b f h
    unfold btF
    split
    · split
      · exact ih _ _ _ (h.trans btS_Fr)
      · exact ih _ _ _ (h.trans btS_Fr)
    · exact h
theorem cuF_Fr : ∀ j i (X : St) (b f : Int32), Fr 2 S X → Fr 2 S (cuF n nh u X b f i j).2 := by
  intro j
  induction j with
  | zero => intro i X b f h; exact h
  | succ j ih =>
    intro i X b f h
    unfold cuF
    split
    · exact ih _ _ _ _ h
    · split
      · exact ih _ _ _ _ (h.trans cuS_Fr)
      · exact ih _ _ _ _ (h.trans cuS_Fr)
theorem naF_Fr : ∀ j (X : St) (c : Int32), Fr 2 S X → Fr 2 S (naF n nh u X c j).2 := by
  intro j
  induction j with
  | zero => intro X c h; exact h
  | succ j ih =>
    intro X c h
    unfold naF
    split
    · exact h
    · split
      · exact h.trans ncG_Fr
      · exact ih _ _ (h.trans ncG_Fr)
/-- behind a trial of both -/
theorem Inv_tr (h : InvP S S n nh t pn pc fb fr) (hU : Fr 2 S U) (hC : Csm U R) (hM : Msm U R) (hV : Mq R V) : Inv V := by
  have h1 : InvP R R n nh t pn pc fb fr := Inv_same h ((Fr_C hU).trans hC) ((Cfr_M (Fr_Cfr hU)).trans hM)
  exact ⟨n, nh, t, pn, pc, fb, fr, Inv_same h1 (Mfr_C hV.2.1) hV.1⟩
theorem Mq_12 : Mfr T (upI T (8, 0, 0) 12 v) ∧ Msm T (upI T (8, 0, 0) 12 v) := ⟨Mfr_8, Msm_8 (by decide)⟩
theorem Inv_12 (h : Inv S) : Inv (upI S (8, 0, 0) 12 v) := by
  obtain ⟨n, nh, t, pn, pc, fb, fr, h⟩ := h
  exact ⟨n, nh, t, pn, pc, fb, fr, Inv_same h (Mfr_C Mq_12.1) Mq_12.2⟩
theorem Inv_out {w : Int64} (h : Inv S) : Inv (upJ S (9, 0, 0) 0 w) := by
  obtain ⟨n, nh, t, pn, pc, fb, fr, h⟩ := h
  exact ⟨n, nh, t, pn, pc, fb, fr, Inv_same h out_C out_M⟩
theorem Inv_outD {w : UInt64} (h : Inv S) : Inv (upD S 0 w) := by
  obtain ⟨n, nh, t, pn, pc, fb, fr, h⟩ := h
  exact ⟨n, nh, t, pn, pc, fb, fr, Inv_same h outD_C outD_M⟩
theorem out_Cfr {w : Int64} : Cfr S (upJ S (9, 0, 0) 0 w) := fun o ho => ⟨rfl, upJ_fun' _ _ _ (fun e => by rw [e] at ho; simp at ho)⟩
/-- what a reading call of both sees -/
theorem see_J {w : Int64} (h : InvP S S n nh t pn pc fb fr) : InvP S (upI (upJ S (9, 0, 0) 0 w) (8, 0, 0) 12 v) n nh t pn pc fb fr := Inv_m h (out_M.trans Mq_12.2)
theorem see_0 {w : Int64} (h : InvP S S n nh t pn pc fb fr) : InvP S (upJ S (9, 0, 0) 0 w) n nh t pn pc fb fr := Inv_m h out_M
theorem see_8 (h : InvP S S n nh t pn pc fb fr) : InvP S (upI S (8, 0, 0) 12 v) n nh t pn pc fb fr := Inv_m h Mq_12.2
end FRM
