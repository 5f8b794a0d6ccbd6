section PS1
variable {n k p i h z m u f s c d x j e a b g : Nat} {S S' T T' U V R : St} {q v lo hi lo' hi' : Int32} {w w' : Int64} {cc cd : Bool} {o : Ob}
/-! WHAT PARSING LEAVES -/
def Zf (S S' : St) : Prop := (∀ o : Ob, o ≠ (1, 0, 0) → ¬ (o.2.1 = 0 ∧ (o.1 = 12 ∨ o.1 = 16 ∨ o.1 = 17)) → S'.1 o = S.1 o ∧ S'.2.1 o = S.2.1 o) ∧ (∀ h, S'.1 (16, 0, h) 3 = S.1 (16, 0, h) 3 ∧ S'.1 (16, 0, h) 4 = S.1 (16, 0, h) 4) ∧ (∀ p, S'.1 (17, 0, p) 10 = S.1 (17, 0, p) 10) ∧ (∀ g, 5 ≤ g → g < 9 → S'.1 (12, 0, 0) g = S.1 (12, 0, 0) g) ∧ S'.1 (1, 0, 0) 7 = S.1 (1, 0, 0) 7
theorem Zf.refl : Zf S S := ⟨fun _ _ _ => ⟨rfl, rfl⟩, fun _ => ⟨rfl, rfl⟩, fun _ => rfl, fun _ _ _ => rfl, rfl⟩
theorem Zf.trans (h1 : Zf S U) (h2 : Zf U V) : Zf S V := ⟨fun o a b => ⟨(h2.1 o a b).1.trans (h1.1 o a b).1, (h2.1 o a b).2.trans (h1.1 o a b).2⟩, fun h => ⟨(h2.2.1 h).1.trans (h1.2.1 h).1, (h2.2.1 h).2.trans (h1.2.1 h).2⟩, fun p => (h2.2.2.1 p).trans (h1.2.2.1 p), fun g a b => (h2.2.2.2.1 g a b).trans (h1.2.2.2.1 g a b), h2.2.2.2.2.trans h1.2.2.2.2⟩
theorem Zf_E (h : Ef S U) : Zf S U := by
  obtain ⟨h1, h2, h3, h4⟩ := h
  have e : ∀ o : Ob, o.1 ≠ 1 → U.1 o = S.1 o := fun o ho => h1 o (fun e => ho (by rw [e]))
  exact ⟨fun o a _ => ⟨h1 o a, h3 o a⟩, fun h => by rw [e (16, 0, h) (by simp)]; exact ⟨rfl, rfl⟩, fun p => by rw [e (17, 0, p) (by simp)], fun g _ _ => by rw [e (12, 0, 0) (by simp)], h2 7 (by decide) (by decide) (by decide) (by decide) (by decide)⟩
theorem Zf_i (ho : o.2.1 = 0 ∧ ((o.1 = 12 ∧ (g < 5 ∨ 9 ≤ g)) ∨ (o.1 = 16 ∧ g < 3) ∨ (o.1 = 17 ∧ g ≠ 10))) : Zf S (upI S o g v) := by
  refine ⟨fun o' h1 h2 => ⟨upI_fun' _ _ _ (fun e => h2 (by rw [e]; omega)), rfl⟩, fun h => ⟨?_, ?_⟩, fun p => ?_, fun g' h1 h2 => ?_, ?_⟩
  · rw [upI_1]; exact if_neg (fun e => by rw [← e.1] at ho; simp at ho; omega)
  · rw [upI_1]; exact if_neg (fun e => by rw [← e.1] at ho; simp at ho; omega)
  · rw [upI_1]; exact if_neg (fun e => by rw [← e.1] at ho; simp at ho; omega)
  · rw [upI_1]; exact if_neg (fun e => by rw [← e.1] at ho; simp at ho; omega)
  · rw [upI_1]; exact if_neg (fun e => by rw [← e.1] at ho; simp at ho)
theorem Zf_j (ho : o.2.1 = 0 ∧ (o.1 = 16 ∨ o.1 = 17)) : Zf S (upJ S o g w) := ⟨fun o' _ h2 => ⟨rfl, upJ_fun2 (fun e => h2 (by rw [← e]; omega))⟩, fun _ => ⟨rfl, rfl⟩, fun _ => rfl, fun _ _ _ => rfl, rfl⟩
theorem Rdz_Zf (h : Rdz S) (r : Zf S U) : Rdz U := by
  obtain ⟨a1, a2, a3, a4⟩ := h
  refine ⟨fun h hh => ?_, fun p hp => ?_, fun z hz => ?_, fun g h1 h2 => ?_⟩
  · rw [(r.2.1 h).1, (r.2.1 h).2]; exact a1 h hh
  · rw [r.2.2.1 p, (r.1 (18, 0, p) (by simp) (by simp)).1, (r.1 (19, 0, p) (by simp) (by simp)).2]; exact a2 p hp
  · rw [(r.1 (15, 0, 0) (by simp) (by simp)).1]; exact a3 z hz
  · rw [r.2.2.2.1 g h1 h2]; exact a4 g h1 h2
/-- the reference's parsing -/
def Zp (g : Nat) : Prop := 7 ≤ g ∧ (g < 12 ∨ (12 ≤ g ∧ g < 36 ∧ 2 ≤ (g - 12) % 4) ∨ (36 ≤ g ∧ g < 168 ∧ (g - 36) % 11 = 9) ∨ 168 ≤ g)
def Mp (T T' : St) : Prop := (∀ o : Ob, o ≠ (8, 0, 0) → o ≠ (11, 4, 0) → T'.1 o = T.1 o) ∧ (∀ o : Ob, o ≠ (8, 0, 0) → o ≠ (11, 9, 0) → T'.2.1 o = T.2.1 o) ∧ (∀ g, g < 16 ∨ 22 ≤ g → T'.1 (8, 0, 0) g = T.1 (8, 0, 0) g) ∧ (∀ g, Zp g → T'.1 (11, 4, 0) g = T.1 (11, 4, 0) g) ∧ (∀ j, j < 96 → T'.2.1 (11, 9, 0) j = T.2.1 (11, 9, 0) j)
theorem Mp.refl : Mp S S := ⟨fun _ _ _ => rfl, fun _ _ _ => rfl, fun _ _ => rfl, fun _ _ => rfl, fun _ _ => rfl⟩
theorem Mp.trans (h1 : Mp S U) (h2 : Mp U V) : Mp S V := ⟨fun o a b => (h2.1 o a b).trans (h1.1 o a b), fun o a b => (h2.2.1 o a b).trans (h1.2.1 o a b), fun g a => (h2.2.2.1 g a).trans (h1.2.2.1 g a), fun g a => (h2.2.2.2.1 g a).trans (h1.2.2.2.1 g a), fun g a => (h2.2.2.2.2 g a).trans (h1.2.2.2.2 g a)⟩
theorem Mp_D (h : Df S U) : Mp S U := by
  obtain ⟨h1, h2, h3, h4, h5⟩ := h
  exact ⟨fun o a _ => h1 o a, fun o a _ => h3 o a, fun g a => h2 g (by omega) (by omega) (by omega) (by omega) (by omega) (by omega), fun g _ => by rw [h1 (11, 4, 0) (by simp)], fun j _ => by rw [h3 (11, 9, 0) (by simp)]⟩
theorem Mp_i (hg : ¬ Zp g) : Mp S (upI S (11, 4, 0) g v) := by
  refine ⟨fun o _ h2 => upI_fun' _ _ _ h2, fun _ _ _ => rfl, fun g' _ => ?_, fun g' h1 => ?_, fun _ _ => rfl⟩
  · rw [upI_1]; exact if_neg (fun e => by simp at e)
  · rw [upI_1]; exact if_neg (fun (e : ((11, 4, 0) : Ob) = (11, 4, 0) ∧ g' = g) => hg (by rw [← e.2]; exact h1))
theorem Mp_j (hg : 96 ≤ g) : Mp S (upJ S (11, 9, 0) g w) := by
  refine ⟨fun o _ h2 => rfl, fun o _ h2 => upJ_fun2 h2.symm, fun g' _ => rfl, fun g' h1 => rfl, fun j hj => ?_⟩
  unfold upJ
  exact if_neg (fun e => by omega)
/-- the terms -/
def TK (S T : St) : Prop := (∀ g, g < 5 → S.1 (12, 0, 0) g = T.1 (11, 4, 0) (g + 2)) ∧ NK (S.1 (12, 0, 0))
def DH (S T : St) (h : Nat) : Prop := S.1 (16, 0, h) 1 = T.1 (11, 4, 0) (12 + 4 * h) ∧ S.1 (16, 0, h) 2 = T.1 (11, 4, 0) (12 + 4 * h + 1) ∧ (0 ≤ (S.1 (16, 0, h) 2).toInt ∧ (S.1 (16, 0, h) 2).toInt ≤ 99999) ∧ NmP (S.2.1 (16, 0, h) 0) (T.2.1 (11, 9, 0) (96 + h))
def DP (S T : St) (p nh : Nat) : Prop := (∀ w, w < 11 → w ≠ 9 → S.1 (17, 0, p) (w + 1) = T.1 (11, 4, 0) (36 + 11 * p + w)) ∧ NP (S.1 (17, 0, p)) nh ∧ NmP (S.2.1 (17, 0, p) 0) (T.2.1 (11, 9, 0) (102 + p))
def DI (e : Nat) (S T : St) (a b : Nat) : Prop := RS e S T ∧ Eok S a b ∧ Dok T a b ∧ (S.1 (1, 0, 0) 8 = 0 → TK S T ∧ (∀ h, h < a → DH S T h) ∧ (∀ p, p < b → DP S T p a))
theorem rdc_8 : (rdc S e g lo hi).1 (1, 0, 0) 8 = (rnC S e lo hi).1 (1, 0, 0) 8 := by unfold rdc; rw [upI_1, if_neg (by simp)]
theorem rdc_k : (rdc S e g lo hi).1 (12, 0, 0) d = if d = g then S.1 (1, 0, 0) 5 else S.1 (12, 0, 0) d := by
  unfold rdc
  rw [upI_1, rnC_Ef.1 _ (by simp)]
  by_cases hd : d = g
  · rw [if_pos ⟨rfl, hd⟩, if_pos hd]
  · rw [if_neg (fun e => hd e.2), if_neg hd]
theorem rdr_k : (rdr T e g lo hi).1 (11, 4, 0) d = if d = g then rnV T e lo hi else T.1 (11, 4, 0) d := by
  unfold rdr
  rw [upI_1, rnF_Df.1 _ (by simp)]
  by_cases hd : d = g
  · rw [if_pos ⟨rfl, hd⟩, if_pos hd]
  · rw [if_neg (fun e => hd e.2), if_neg hd]
theorem RS_rd (h : RS e S T) (hb : S.1 (1, 0, 0) 8 = 0 → lo = lo' ∧ hi = hi') : RS e (rdc S e g lo hi) (rdr T e d lo' hi') := RS_Ci (RS_Mi (RS_rn h hb) (by simp) (by simp)) (by simp) (by simp)
theorem RS_lit {lo hi : Int32} : S.1 (1, 0, 0) 8 = 0 → lo = lo ∧ hi = hi := fun _ => ⟨rfl, rfl⟩
theorem spC_gd (h : gC0 (spC S e) = true) : gC0 S = true := (rqC_gd (by decide) (goC_gd h)).1
theorem rdc_En9 (hg : g < 5) : (rdc S e g lo hi).1 (12, 0, 0) 9 = S.1 (12, 0, 0) 9 ∧ (rdc S e g lo hi).1 (12, 0, 0) 10 = S.1 (12, 0, 0) 10 := by
  rw [rdc_k, rdc_k, if_neg (by omega), if_neg (by omega)]
  exact ⟨rfl, rfl⟩
theorem RS_t5 (h : RS e S T) : RS e (rt4 S e) (rl4 T e) ∧ ((rt4 S e).1 (1, 0, 0) 8 = 0 → (rt4 S e).1 (12, 0, 0) 2 = (rl4 T e).1 (11, 4, 0) 4) := by
  have r0 : RS e (rt0 S e) (rl0 T e) := RS_go (RS_rq h (by decide) (fun h0 => RS_wd h (by decide) h0))
  have r2 : RS e (rt2 S e) (rl2 T e) := RS_rd r0 RS_lit
  have r3 : RS e (rt3 S e) (rl3 T e) := RS_rd r2 RS_lit
  refine ⟨RS_rd r3 RS_lit, fun h0 => ?_⟩
  have v3 := RS_val r3 RS_lit ((rdc_8 (S := rt3 S e) (e := e) (g := 2) (lo := 0) (hi := 99)).symm.trans h0)
  unfold rt4 rl4
  rw [rdc_k, rdr_k, if_pos rfl, if_pos rfl]
  exact v3.2.1.symm
theorem RS_t (h : RS e S T) : RS e (rtF S e) (rlkF T e) ∧ ((rtF S e).1 (1, 0, 0) 8 = 0 → TK (rtF S e) (rlkF T e)) := by
  have r0 : RS e (rt0 S e) (rl0 T e) := RS_go (RS_rq h (by decide) (fun h0 => RS_wd h (by decide) h0))
  have r2 : RS e (rt2 S e) (rl2 T e) := RS_rd r0 RS_lit
  have r3 : RS e (rt3 S e) (rl3 T e) := RS_rd r2 RS_lit
  have r4 : RS e (rt4 S e) (rl4 T e) := RS_rd r3 RS_lit
  have h4 := (RS_t5 h).2
  have b5 : (rt4 S e).1 (1, 0, 0) 8 = 0 → (0 : Int32) = 0 ∧ (rt4 S e).1 (12, 0, 0) 2 = (rl4 T e).1 (11, 4, 0) 4 := fun h0 => ⟨rfl, h4 h0⟩
  have r5 : RS e (rt5 S e) (rl5 T e) := RS_rd r4 b5
  have r6 : RS e (rt6 S e) (rl6 T e) := RS_rd r5 RS_lit
  refine ⟨RS_sp r6, fun h0 => ?_⟩
  have h1 := h0
  unfold rtF at h1
  have g6 : (rt6 S e).1 (1, 0, 0) 8 = 0 := gcE (spC_gd (gcI h1))
  have v5 := RS_val r5 RS_lit ((rdc_8 (S := rt5 S e) (e := e) (g := 4) (lo := 0) (hi := 9)).symm.trans g6)
  have v4 := RS_val r4 b5 ((rdc_8 (S := rt4 S e) (e := e) (g := 3) (lo := 0) (hi := (rt4 S e).1 (12, 0, 0) 2)).symm.trans v5.1)
  have v3 := RS_val r3 RS_lit ((rdc_8 (S := rt3 S e) (e := e) (g := 2) (lo := 0) (hi := 99)).symm.trans v4.1)
  have v2 := RS_val r2 RS_lit ((rdc_8 (S := rt2 S e) (e := e) (g := 1) (lo := 1) (hi := 100)).symm.trans v3.1)
  have v0 := RS_val r0 RS_lit ((rdc_8 (S := rt0 S e) (e := e) (g := 0) (lo := 1) (hi := 9999)).symm.trans v2.1)
  have kF : ∀ d, (rtF S e).1 (12, 0, 0) d = (rt6 S e).1 (12, 0, 0) d := fun d => by unfold rtF; rw [spC_Ef.1 _ (by simp)]
  have k6 : ∀ d, (rt6 S e).1 (12, 0, 0) d = if d = 4 then (rt5 S e).1 (1, 0, 0) 5 else (rt5 S e).1 (12, 0, 0) d := fun d => by unfold rt6; exact rdc_k
  have k5 : ∀ d, (rt5 S e).1 (12, 0, 0) d = if d = 3 then (rt4 S e).1 (1, 0, 0) 5 else (rt4 S e).1 (12, 0, 0) d := fun d => by unfold rt5; exact rdc_k
  have k4' : ∀ d, (rt4 S e).1 (12, 0, 0) d = if d = 2 then (rt3 S e).1 (1, 0, 0) 5 else (rt3 S e).1 (12, 0, 0) d := fun d => by unfold rt4; exact rdc_k
  have k3' : ∀ d, (rt3 S e).1 (12, 0, 0) d = if d = 1 then (rt2 S e).1 (1, 0, 0) 5 else (rt2 S e).1 (12, 0, 0) d := fun d => by unfold rt3; exact rdc_k
  have k2' : ∀ d, (rt2 S e).1 (12, 0, 0) d = if d = 0 then (rt0 S e).1 (1, 0, 0) 5 else (rt0 S e).1 (12, 0, 0) d := fun d => by unfold rt2; exact rdc_k
  have lF : ∀ d, (rlkF T e).1 (11, 4, 0) d = (rl6 T e).1 (11, 4, 0) d := fun d => by unfold rlkF; rw [spF_Df.1 _ (by simp)]
  have l6 : ∀ d, (rl6 T e).1 (11, 4, 0) d = if d = 6 then rnV (rl5 T e) e 0 9 else (rl5 T e).1 (11, 4, 0) d := fun d => by unfold rl6; exact rdr_k
  have l5 : ∀ d, (rl5 T e).1 (11, 4, 0) d = if d = 5 then rnV (rl4 T e) e 0 ((rl4 T e).1 (11, 4, 0) 4) else (rl4 T e).1 (11, 4, 0) d := fun d => by unfold rl5; exact rdr_k
  have l4' : ∀ d, (rl4 T e).1 (11, 4, 0) d = if d = 4 then rnV (rl3 T e) e 0 99 else (rl3 T e).1 (11, 4, 0) d := fun d => by unfold rl4; exact rdr_k
  have l3' : ∀ d, (rl3 T e).1 (11, 4, 0) d = if d = 3 then rnV (rl2 T e) e 1 100 else (rl2 T e).1 (11, 4, 0) d := fun d => by unfold rl3; exact rdr_k
  have l2' : ∀ d, (rl2 T e).1 (11, 4, 0) d = if d = 2 then rnV (rl0 T e) e 1 9999 else (rl0 T e).1 (11, 4, 0) d := fun d => by unfold rl2; exact rdr_k
  have w2 : (rt4 S e).1 (12, 0, 0) 2 = (rt3 S e).1 (1, 0, 0) 5 := by rw [k4', if_pos rfl]
  clear r0 r2 r3 r4 r5 r6 b5 h h4 h0 h1 g6
  generalize rtF S e = RF at *
  generalize rt6 S e = R6 at *
  generalize rt5 S e = R5 at *
  generalize rt4 S e = R4 at *
  generalize rt3 S e = R3 at *
  generalize rt2 S e = R2 at *
  generalize rt0 S e = R0 at *
  generalize rlkF T e = QF at *
  generalize rl6 T e = Q6 at *
  generalize rl5 T e = Q5 at *
  generalize rl4 T e = Q4 at *
  generalize rl3 T e = Q3 at *
  generalize rl2 T e = Q2 at *
  generalize rl0 T e = Q0 at *
  rw [w2] at v4
  have k0 : RF.1 (12, 0, 0) 0 = R0.1 (1, 0, 0) 5 := by rw [kF, k6, if_neg (by decide), k5, if_neg (by decide), k4', if_neg (by decide), k3', if_neg (by decide), k2', if_pos rfl]
  have k1 : RF.1 (12, 0, 0) 1 = R2.1 (1, 0, 0) 5 := by rw [kF, k6, if_neg (by decide), k5, if_neg (by decide), k4', if_neg (by decide), k3', if_pos rfl]
  have k2 : RF.1 (12, 0, 0) 2 = R3.1 (1, 0, 0) 5 := by rw [kF, k6, if_neg (by decide), k5, if_neg (by decide), k4', if_pos rfl]
  have k3 : RF.1 (12, 0, 0) 3 = R4.1 (1, 0, 0) 5 := by rw [kF, k6, if_neg (by decide), k5, if_pos rfl]
  have k4 : RF.1 (12, 0, 0) 4 = R5.1 (1, 0, 0) 5 := by rw [kF, k6, if_pos rfl]
  have e0 : (1 : Int32).toInt = 1 := rfl
  have e1 : (9999 : Int32).toInt = 9999 := rfl
  have e2 : (100 : Int32).toInt = 100 := rfl
  have e3 : (99 : Int32).toInt = 99 := rfl
  have e4 : (9 : Int32).toInt = 9 := rfl
  have e5 : (0 : Int32).toInt = 0 := rfl
  rw [e0, e1] at v0
  rw [e0, e2] at v2
  rw [e5, e3] at v3
  rw [e5] at v4
  rw [e5, e4] at v5
  refine ⟨?_, ?_⟩
  · intro g hg
    have l0 : QF.1 (11, 4, 0) (0 + 2) = rnV Q0 e 1 9999 := by rw [lF, l6, if_neg (by decide), l5, if_neg (by decide), l4', if_neg (by decide), l3', if_neg (by decide), l2', if_pos rfl]
    have l1 : QF.1 (11, 4, 0) (1 + 2) = rnV Q2 e 1 100 := by rw [lF, l6, if_neg (by decide), l5, if_neg (by decide), l4', if_neg (by decide), l3', if_pos rfl]
    have l2 : QF.1 (11, 4, 0) (2 + 2) = rnV Q3 e 0 99 := by rw [lF, l6, if_neg (by decide), l5, if_neg (by decide), l4', if_pos rfl]
    have l3 : QF.1 (11, 4, 0) (3 + 2) = rnV Q4 e 0 (Q4.1 (11, 4, 0) 4) := by rw [lF, l6, if_neg (by decide), l5, if_pos rfl]
    have l4 : QF.1 (11, 4, 0) (4 + 2) = rnV Q5 e 0 9 := by rw [lF, l6, if_pos rfl]
    rcases (show g = 0 ∨ g = 1 ∨ g = 2 ∨ g = 3 ∨ g = 4 by omega) with hh | hh | hh | hh | hh <;> subst hh
    · rw [k0, l0, v0.2.1]
    · rw [k1, l1, v2.2.1]
    · rw [k2, l2, v3.2.1]
    · rw [k3, l3, v4.2.1]
    · rw [k4, l4, v5.2.1]
  · unfold NK
    rw [k0, k1, k2, k3, k4]
    exact ⟨⟨by omega, v0.2.2.2⟩, v2.2.2, v3.2.2, v4.2.2, v5.2.2⟩
theorem rtF_Rf : Zf S (rtF S e) := by
  have r : ∀ {S : St} {g : Nat} {lo hi : Int32}, g < 5 → Zf S (rdc S e g lo hi) := fun hg => (Zf_E rnC_Ef).trans (Zf_i ⟨rfl, Or.inl ⟨rfl, Or.inl hg⟩⟩)
  exact (((((((Zf_E (rqC_Ef.trans goC_Ef)).trans (r (by decide))).trans (r (by decide))).trans (r (by decide))).trans (r (by decide))).trans (r (by decide)))).trans (Zf_E spC_Ef)
theorem rlkF_Mp : Mp T (rlkF T e) := by
  have r : ∀ {S : St} {g : Nat} {lo hi : Int32}, g < 7 → Mp S (rdr S e g lo hi) := fun hg => (Mp_D rnF_Df).trans (Mp_i (fun e => by unfold Zp at e; omega))
  exact (((((((Mp_D (muF_Df.trans goF_Df)).trans (r (by decide))).trans (r (by decide))).trans (r (by decide))).trans (r (by decide))).trans (r (by decide)))).trans (Mp_D spF_Df)
theorem DI_t (h : RS e S T) (hE : Eok S 0 0) (hD : Dok T 0 0) : DI e (rtF S e) (rlkF T e) 0 0 := ⟨(RS_t h).1, rtF_E hE, rlkF_D hD, fun h0 => ⟨(RS_t h).2 h0, fun h hh => absurd hh (Nat.not_lt_zero h), fun p hp => absurd hp (Nat.not_lt_zero p)⟩⟩
end PS1
