section IV
variable {n nh t k k' p i h w q g z m u f pn pc fb fr : Nat} {S S' T T' U V R : St} {a b v y x : Int32}
/-! THE STATE OF BOTH: shaper in S, reference in T -/
def Und (S T : St) (pn pc : Nat) : Prop := ∀ i, i < pc → ∃ n nh t, t ≤ 100000 ∧ Lnr (3 + (pn + 8 - pc + i) % 8) S (fun j => T.1 (11, 2, 0) (384 * i + j)) (fun j => T.2.1 (11, 7, 0) (114 * i + j)) n nh t
def Snp (S T : St) : Prop := ∀ i, i < 2 → (S.1 (7, 0, 0) i = 0 ∨ S.1 (7, 0, 0) i = 1) ∧ T.1 (11, 10, 0) i = S.1 (7, 0, 0) i ∧ (S.1 (7, 0, 0) i = 1 → ∃ n nh t, t ≤ 100000 ∧ Lnr (11 + i) S (fun j => T.1 (11, 3, 0) (384 * i + j)) (fun j => T.2.1 (11, 8, 0) (114 * i + j)) n nh t)
def ByP (v w : Int32) : Prop := (v = w ∧ 0 ≤ w.toInt ∧ w.toInt ≤ 127) ∨ (v.toInt < 0 ∧ 128 ≤ w.toInt ∧ w.toInt ≤ 255)
def Bfr (S T : St) (f : Nat) : Prop := f ≤ 700 ∧ S.1 (1, 0, 0) 7 = Int32.ofNat f ∧ T.1 (8, 0, 0) 14 = Int32.ofNat f ∧ ∀ i, i < f → ByP (S.1 (2, 0, 0) i) (T.1 (11, 11, 0) i)
def Rpt (S T : St) (f : Nat) : Prop := f ≤ 500 ∧ S.1 (3, 0, 0) 1 = Int32.ofNat f ∧ T.1 (8, 0, 0) 28 = Int32.ofNat f ∧ ∀ i, i < f → S.1 (4, 0, 0) i = T.1 (11, 15, 0) i
def Rdz (S : St) : Prop := (∀ h, h < 6 → S.1 (16, 0, h) 3 = 0 ∧ S.1 (16, 0, h) 4 = 0) ∧ (∀ p, p < 12 → S.1 (17, 0, p) 10 = 0 ∧ (∀ w, w < 6 → S.1 (18, 0, p) w = 0) ∧ (∀ w, w < 8 → S.2.1 (19, 0, p) w = 0)) ∧ (∀ z, z < 144 → S.1 (15, 0, 0) z = 0) ∧ (∀ g, 5 ≤ g → g < 9 → S.1 (12, 0, 0) g = 0)
def Und0 (S T : St) (pn pc : Nat) : Prop := S.1 (0, 0, 0) 5 = Int32.ofNat pn ∧ pn < 8 ∧ S.1 (0, 0, 0) 6 = Int32.ofNat pc ∧ pc ≤ 8 ∧ T.1 (8, 0, 0) 11 = Int32.ofNat pc
def InvR (S T : St) (pn pc fb fr : Nat) : Prop := Und0 S T pn pc ∧ Und S T pn pc ∧ Snp S T ∧ Bfr S T fb ∧ Rpt S T fr ∧ Rdz S
def InvP (S T : St) (n nh t pn pc fb fr : Nat) : Prop := (Lnk 1 S T n nh t ∧ t ≤ 100000) ∧ InvR S T pn pc fb fr
/-- what the shaper's state is made of, but the trial's link -/
def Csm (S S' : St) : Prop := ∀ o : Ob, (o.1 < 8 ∨ (12 ≤ o.1 ∧ o.2.1 ≠ 2)) → S'.1 o = S.1 o ∧ S'.2.1 o = S.2.1 o
/-- what the reference's state is made of -/
def Msm (T T' : St) : Prop := sameW T T' ∧ T'.1 (11, 2, 0) = T.1 (11, 2, 0) ∧ T'.1 (11, 3, 0) = T.1 (11, 3, 0) ∧ T'.1 (11, 10, 0) = T.1 (11, 10, 0) ∧ T'.1 (11, 11, 0) = T.1 (11, 11, 0) ∧ T'.1 (11, 15, 0) = T.1 (11, 15, 0) ∧ T'.2.1 (11, 7, 0) = T.2.1 (11, 7, 0) ∧ T'.2.1 (11, 8, 0) = T.2.1 (11, 8, 0) ∧ T'.1 (8, 0, 0) 11 = T.1 (8, 0, 0) 11 ∧ T'.1 (8, 0, 0) 14 = T.1 (8, 0, 0) 14 ∧ T'.1 (8, 0, 0) 28 = T.1 (8, 0, 0) 28
/-- only the reference's cells, only cells that are not the reference's -/
def Mfr (T T' : St) : Prop := ∀ o : Ob, o.1 ≠ 8 → o.1 ≠ 11 → T'.1 o = T.1 o ∧ T'.2.1 o = T.2.1 o
def Cfr (S S' : St) : Prop := ∀ o : Ob, (o.1 = 8 ∨ o.1 = 11) → S'.1 o = S.1 o ∧ S'.2.1 o = S.2.1 o
theorem Csm.refl : Csm S S := fun _ _ => ⟨rfl, rfl⟩
theorem Csm.trans (h1 : Csm S U) (h2 : Csm U V) : Csm S V := fun o h => ⟨(h2 o h).1.trans (h1 o h).1, (h2 o h).2.trans (h1 o h).2⟩
theorem Mfr.refl : Mfr S S := fun _ _ _ => ⟨rfl, rfl⟩
theorem Mfr.trans (h1 : Mfr S U) (h2 : Mfr U V) : Mfr S V := fun o h h' => ⟨(h2 o h h').1.trans (h1 o h h').1, (h2 o h h').2.trans (h1 o h h').2⟩
theorem Cfr.refl : Cfr S S := fun _ _ => ⟨rfl, rfl⟩
theorem Cfr.trans (h1 : Cfr S U) (h2 : Cfr U V) : Cfr S V := fun o h => ⟨(h2 o h).1.trans (h1 o h).1, (h2 o h).2.trans (h1 o h).2⟩
theorem Mfr_C (h : Mfr S U) : Csm S U := fun o ho => h o (by omega) (by omega)
theorem Msm.refl : Msm T T := ⟨sameW.refl, rfl, rfl, rfl, rfl, rfl, rfl, rfl, rfl, rfl, rfl⟩
theorem Msm.trans (h1 : Msm S U) (h2 : Msm U V) : Msm S V := by
  obtain ⟨a0, a1, a2, a3, a4, a5, a6, a7, a8, a9, a10⟩ := h1
  obtain ⟨b0, b1, b2, b3, b4, b5, b6, b7, b8, b9, b10⟩ := h2
  exact ⟨a0.trans b0, b1.trans a1, b2.trans a2, b3.trans a3, b4.trans a4, b5.trans a5, b6.trans a6, b7.trans a7, b8.trans a8, b9.trans a9, b10.trans a10⟩
theorem Cfr_M (h : Cfr S U) : Msm S U := by
  have e : ∀ k, U.1 (11, k, 0) = S.1 (11, k, 0) := fun k => (h (11, k, 0) (Or.inr rfl)).1
  have e2 : ∀ k, U.2.1 (11, k, 0) = S.2.1 (11, k, 0) := fun k => (h (11, k, 0) (Or.inr rfl)).2
  have e3 : U.1 (8, 0, 0) = S.1 (8, 0, 0) := (h (8, 0, 0) (Or.inl rfl)).1
  exact ⟨⟨fun j _ => congrFun (e 0) j, fun j _ => congrFun (e2 5) j⟩, e 2, e 3, e 10, e 11, e 15, e2 7, e2 8, congrFun e3 _, congrFun e3 _, congrFun e3 _⟩
theorem Fr_C (h : Fr 2 S U) : Csm S U := fun o ho => h.1 o (by rcases ho with h | h; exact Or.inr (by omega); exact Or.inl h.2)
theorem Fr_Cfr (h : Fr k S U) : Cfr S U := fun o ho => h.1 o (Or.inr (by omega))
theorem Msm_8 {f : Nat} (hf : f ≠ 11 ∧ f ≠ 14 ∧ f ≠ 28) : Msm T (upI T (8, 0, 0) f v) := by
  have e : ∀ o : Ob, o ≠ (8, 0, 0) → (upI T (8, 0, 0) f v).1 o = T.1 o := fun o ho => upI_fun' _ _ _ ho
  refine ⟨sameW_8, e _ (by simp), e _ (by simp), e _ (by simp), e _ (by simp), e _ (by simp), rfl, rfl, ?_, ?_, ?_⟩
  · rw [upI_1, if_neg (fun e => hf.1 e.2.symm)]
  · rw [upI_1, if_neg (fun e => hf.2.1 e.2.symm)]
  · rw [upI_1, if_neg (fun e => hf.2.2 e.2.symm)]
theorem Mfr_8 {f : Nat} : Mfr T (upI T (8, 0, 0) f v) := fun o h _ => ⟨upI_fun' _ _ _ (fun e => h (by rw [e])), rfl⟩
theorem Csm_Eqk (h : Csm S U) (hk : k ≠ 2) : Eqk k k S U n nh := Eqk_of (fun o ho h1 _ => (h o (Or.inr ⟨h1, by rw [ho]; exact hk⟩)).1) (fun o ho h1 _ => (h o (Or.inr ⟨h1, by rw [ho]; exact hk⟩)).2)
theorem InvR_c (h : InvR S T pn pc fb fr) (c : Csm S U) : InvR U T pn pc fb fr := by
  obtain ⟨h0, h1, h2, h3, h4, h5⟩ := h
  have e : ∀ a b : Nat, a < 8 → U.1 (a, b, 0) = S.1 (a, b, 0) := fun a b ha => (c (a, b, 0) (Or.inl ha)).1
  refine ⟨?_, fun i hi => ?_, fun i hi => ?_, ?_, ?_, ?_⟩
  · unfold Und0
    rw [e 0 0 (by decide)]
    exact h0
  · obtain ⟨n, nh, t, a1, a2⟩ := h1 i hi
    exact ⟨n, nh, t, a1, Lnr_Eqk a2 (Csm_Eqk c (by omega)) (fun _ _ => rfl) (fun _ _ => rfl)⟩
  · rw [e 7 0 (by decide)]
    obtain ⟨a1, a2, a3⟩ := h2 i hi
    refine ⟨a1, a2, fun e => ?_⟩
    obtain ⟨n, nh, t, b1, b2⟩ := a3 e
    exact ⟨n, nh, t, b1, Lnr_Eqk b2 (Csm_Eqk c (by omega)) (fun _ _ => rfl) (fun _ _ => rfl)⟩
  · unfold Bfr
    rw [e 1 0 (by decide), e 2 0 (by decide)]
    exact h3
  · unfold Rpt
    rw [e 3 0 (by decide), e 4 0 (by decide)]
    exact h4
  · obtain ⟨a1, a2, a3, a4⟩ := h5
    have e2 : ∀ a b : Nat, 12 ≤ a → U.1 (a, 0, b) = S.1 (a, 0, b) ∧ U.2.1 (a, 0, b) = S.2.1 (a, 0, b) := fun a b ha => c (a, 0, b) (Or.inr ⟨ha, by simp⟩)
    refine ⟨fun h hh => ?_, fun p hp => ?_, fun z hz => ?_, fun g h1 h2 => ?_⟩
    · rw [(e2 16 h (by decide)).1]; exact a1 h hh
    · rw [(e2 17 p (by decide)).1, (e2 18 p (by decide)).1, (e2 19 p (by decide)).2]; exact a2 p hp
    · rw [(e2 15 0 (by decide)).1]; exact a3 z hz
    · rw [(e2 12 0 (by decide)).1]; exact a4 g h1 h2
theorem InvR_m (h : InvR S T pn pc fb fr) (m : Msm T T') : InvR S T' pn pc fb fr := by
  obtain ⟨h0, h1, h2, h3, h4, h5⟩ := h
  obtain ⟨m0, m1, m2, m3, m4, m5, m6, m7, m8, m9, m10⟩ := m
  refine ⟨?_, ?_, ?_, ?_, ?_, h5⟩
  · unfold Und0; rw [m8]; exact h0
  · unfold Und; rw [m1, m6]; exact h1
  · unfold Snp; rw [m2, m3, m7]; exact h2
  · unfold Bfr; rw [m9, m4]; exact h3
  · unfold Rpt; rw [m10, m5]; exact h4
theorem Inv_c (h : InvP S T n nh t pn pc fb fr) (c : Csm S U) : InvP U T n nh t pn pc fb fr := ⟨⟨Lnk_Eqk h.1.1 (Csm_Eqk c (by decide)), h.1.2⟩, InvR_c h.2 c⟩
theorem Inv_m (h : InvP S T n nh t pn pc fb fr) (m : Msm T T') : InvP S T' n nh t pn pc fb fr := ⟨⟨Lnk_W h.1.1 m.1, h.1.2⟩, InvR_m h.2 m⟩
/-- both in one state -/
def Inv (S : St) : Prop := ∃ n nh t pn pc fb fr, InvP S S n nh t pn pc fb fr
/-- a call of both: the shaper's leaves U (and writes X beside it), the reference's goes from X to V -/
theorem Inv_step (h : InvP U V n nh t pn pc fb fr) (hX : Csm U R) (hV : Mfr R V) : Inv V := ⟨n, nh, t, pn, pc, fb, fr, Inv_c h (hX.trans (Mfr_C hV))⟩
theorem Inv_same (h : InvP S S n nh t pn pc fb fr) (c : Csm S U) (m : Msm S U) : InvP U U n nh t pn pc fb fr := Inv_m (Inv_c h c) m
theorem out_C {x : Int64} : Csm S (upJ S (9, 0, 0) 0 x) := fun o ho => ⟨rfl, upJ_fun' _ _ _ (fun e => by rw [e] at ho; simp at ho)⟩
theorem out_M {x : Int64} : Msm S (upJ S (9, 0, 0) 0 x) := Cfr_M (fun o ho => ⟨rfl, upJ_fun' _ _ _ (fun e => by rw [e] at ho; simp at ho)⟩)
theorem outD_C {x : UInt64} : Csm S (upD S 0 x) := fun o ho => ⟨rfl, rfl⟩
theorem outD_M {x : UInt64} : Msm S (upD S 0 x) := Cfr_M (fun o ho => ⟨rfl, rfl⟩)
end IV
