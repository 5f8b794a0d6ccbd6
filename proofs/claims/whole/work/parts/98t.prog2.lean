section PP2
variable {n k p i h z m u f s c d x j e a b g r : Nat} {S S' T T' U V R : St} {q v lo hi lo' hi' : Int32} {w w' : Int64} {cc cd : Bool} {o : Ob}
/-! A PROGRAM IS READ: the name, the kind, the household -/
theorem wd_ne {k k' : Nat} (h : pkC (strL k) 0 0 ≠ pkC (strL k') 0 0) (h1 : wdC S k = true) : wdC S k' = false := by
  unfold wdC at *
  rw [Bool.and_eq_true] at h1
  have e1 := of_decide_eq_true h1.2
  rw [decide_eq_false (p := pkC (strL k') 0 0 = S.2.1 (1, 0, 0) 4) (fun e => h (e1.trans e.symm)), Bool.and_false]
theorem khF_dead (h : S.1 (1, 0, 0) 8 ≠ 0) : khF S e = S := by
  unfold khF
  split
  · exact goC_dead h
  · split
    · exact goC_dead h
    · split
      · exact goC_dead h
      · rw [rqC_dead h, goC_dead h]
theorem RS_kh (h : RS e S T) : RS e (khF S e) (goF (muF T (!decide (khV T = -1)) 1) e) ∧ ((khF S e).1 (1, 0, 0) 8 = 0 → S.1 (1, 0, 0) 8 = 0 ∧ khC S = khV T) := by
  by_cases h0 : S.1 (1, 0, 0) 8 = 0
  · have w4 := RS_wd (k := 4) h (by decide) h0
    have w5 := RS_wd (k := 5) h (by decide) h0
    have w6 := RS_wd (k := 6) h (by decide) h0
    have w7 := RS_wd (k := 7) h (by decide) h0
    have x57 := wd_ne (S := S) (k := 5) (k' := 7) (by decide)
    have x67 := wd_ne (S := S) (k := 6) (k' := 7) (by decide)
    unfold khF khC khV
    rw [← w4, ← w5, ← w6, ← w7]
    by_cases a4 : wdC S 4 = true
    · rw [if_pos a4, if_pos a4, if_pos a4]
      rw [muF_same (by decide)]
      exact ⟨RS_go h, fun _ => ⟨h0, rfl⟩⟩
    · rw [if_neg a4, if_neg a4, if_neg a4]
      by_cases a5 : wdC S 5 = true
      · have a7 := x57 a5
        rw [if_pos a5, if_pos a5, a7, if_neg (by decide), if_pos a5]
        rw [muF_same (by decide)]
        exact ⟨RS_go h, fun _ => ⟨h0, rfl⟩⟩
      · rw [if_neg a5, if_neg a5, if_neg a5]
        by_cases a6 : wdC S 6 = true
        · have a7 := x67 a6
          rw [if_pos a6, if_pos a6, a7, if_neg (by decide), if_pos a6]
          rw [muF_same (by decide)]
          exact ⟨RS_go h, fun _ => ⟨h0, rfl⟩⟩
        · rw [if_neg a6, if_neg a6, if_neg a6]
          by_cases a7 : wdC S 7 = true
          · rw [if_pos a7, a7, muF_same (by decide), rqC_same rfl]
            exact ⟨RS_go h, fun _ => ⟨h0, rfl⟩⟩
          · rw [if_neg a7]
            have a8 : wdC S 7 = false := by cases hb : wdC S 7 with | true => exact absurd hb a7 | false => rfl
            rw [a8]
            refine ⟨RS_go (RS_rq h (by decide) (fun _ => by decide)), fun e1 => ?_⟩
            have := (rqC_gd (v := 1) (by decide) (goC_gd (gcI e1))).2
            exact absurd this (by decide)
  · have h20 : T.1 (8, 0, 0) 20 ≠ 0 := by rw [h.2.2.2.1]; exact h0
    rw [khF_dead h0, muF_dead h20, goF_dead h20]
    exact ⟨h, fun e => absurd e h0⟩
theorem khC_3 : khC S = 0 ∨ khC S = 1 ∨ khC S = 2 ∨ khC S = 3 := by
  unfold khC
  split
  · exact Or.inl rfl
  · split
    · exact Or.inr (Or.inr (Or.inl rfl))
    · split
      · exact Or.inr (Or.inr (Or.inr rfl))
      · exact Or.inr (Or.inl rfl)
def hdC (S : St) (e a b : Nat) : St := pc12 (pc10 (pc8 (pc6 (pc4 (pc2 S e b) b) e b) e b) a b) e b
theorem khF_8 (h : (khF S e).1 (1, 0, 0) 8 = 0) : S.1 (1, 0, 0) 8 = 0 := by
  by_cases h0 : S.1 (1, 0, 0) 8 = 0
  · exact h0
  · rw [khF_dead h0] at h; exact h
theorem hdC_Pf : Pf b S (hdC S e a b) := by
  have p2 : Pf b S (pc2 S e b) := (Pf_E goC_Ef).trans Pf_i
  have p4 : ∀ {S : St}, Pf b S (pc4 S b) := Pf_E (mkC_Ef.trans rqC_Ef)
  have p6 : ∀ {S : St}, Pf b S (pc6 S e b) := Pf_j.trans (Pf_E goC_Ef)
  have p8 : ∀ {S : St}, Pf b S (pc8 S e b) := (Pf_E khF_Ef).trans Pf_i
  have p10 : ∀ {S : St}, Pf b S (pc10 S a b) := (Pf_E mkC_Ef).trans Pf_i
  have p12 : ∀ {S : St}, Pf b S (pc12 S e b) := Pf_E (rqC_Ef.trans goC_Ef)
  exact ((((p2.trans p4).trans p6).trans p8).trans p10).trans p12
theorem ph (h : RS e S T) (h0 : S.1 (1, 0, 0) 8 = 0) (ha : a ≤ 6) (hb : b < 12) (hN : ∀ r, r < a → NmP (S.2.1 (16, 0, r) 0) (T.2.1 (11, 9, 0) (96 + r))) (hM : ∀ r, r < b → NmP (S.2.1 (17, 0, r) 0) (T.2.1 (11, 9, 0) (102 + r))) : RS e (hdC S e a b) (pq7 T e a b) ∧ ((hdC S e a b).1 (1, 0, 0) 8 = 0 → ((hdC S e a b).1 (17, 0, b) 11 = 1 ∧ (hdC S e a b).1 (17, 0, b) 2 = khV (pq4 T e b) ∧ (khV (pq4 T e b) = 0 ∨ khV (pq4 T e b) = 1 ∨ khV (pq4 T e b) = 2 ∨ khV (pq4 T e b) = 3) ∧ (hdC S e a b).1 (17, 0, b) 1 = fdV (fdH (pq6 T e b) a) ∧ (∃ r, r < a ∧ fdH (pq6 T e b) a = some r) ∧ NmP ((hdC S e a b).2.1 (17, 0, b) 0) ((pq3 T e b).2.1 (8, 0, 0) 22))) := by
  have hm12 : muF T (decide (b < 12)) 5 = T := muF_same (decide_eq_true hb)
  have r2 : RS e (pc2 S e b) (pq1 T e b) := by
    unfold pq1
    rw [hm12]
    exact RS_Ci (RS_go h) (by simp) (by simp)
  have p2 : Pf b S (pc2 S e b) := (Pf_E goC_Ef).trans Pf_i
  have d1 : Df T (pq1 T e b) := muF_Df.trans goF_Df
  have k2 : (pc2 S e b).1 (17, 0, b) 11 = 1 := by unfold pc2; rw [upI_1, if_pos ⟨rfl, rfl⟩]
  unfold hdC
  generalize pc2 S e b = A2 at *
  have r3 : RS e (mkC A2) (mk1 (pq1 T e b)) := RS_mk r2
  have r4 : RS e (pc4 A2 b) (pq3 T e b) := by
    refine RS_rq r3 (by decide) (fun e0 => ?_)
    have hm := mkC_gd e0
    rw [fP_eq r3 e0 (by rw [hm.2.2]; exact hm.2.1) (fun r hr => by rw [mkC_Ef.2.2.1 _ (by simp), mk1_Df.2.2.1 _ (by simp), (p2 _ (by simp) (by simp <;> omega)).2, d1.2.2.1 _ (by simp)]; exact hM r hr)]
  have p4 : Pf b S (pc4 A2 b) := p2.trans (Pf_E (mkC_Ef.trans rqC_Ef))
  have d3 : Df T (pq3 T e b) := (d1.trans mk1_Df).trans muF_Df
  have k4 : (pc4 A2 b).1 (17, 0, b) 11 = 1 := by unfold pc4; rw [rqC_Ef.1 _ (by simp), mkC_Ef.1 _ (by simp)]; exact k2
  have n4 : (pc4 A2 b).1 (1, 0, 0) 8 = 0 → NmP ((pc4 A2 b).2.1 (1, 0, 0) 4) ((pq3 T e b).2.1 (8, 0, 0) 22) := fun e0 => by
    have g1 := rqC_gd (v := 3) (by decide) (gcI e0)
    have hm := mkC_gd (gcE g1.1)
    refine RS_nm r4 e0 ?_
    unfold pc4
    rw [rqC_same g1.2, hm.2.2]
    exact hm.2.1
  generalize pc4 A2 b = A4 at *
  have r6 : RS e (pc6 A4 e b) (pq4 T e b) := RS_go (RS_Cj r4 (by simp))
  have p6 : Pf b S (pc6 A4 e b) := p4.trans (Pf_j.trans (Pf_E goC_Ef))
  have k6 : (pc6 A4 e b).1 (17, 0, b) 11 = 1 := by unfold pc6; rw [goC_Ef.1 _ (by simp)]; exact k4
  have c6 : (pc6 A4 e b).1 (1, 0, 0) 8 = A4.1 (1, 0, 0) 8 := by unfold pc6; rw [goC_8]; rfl
  have n6 : (pc6 A4 e b).2.1 (17, 0, b) 0 = A4.2.1 (1, 0, 0) 4 := by unfold pc6; rw [goC_Ef.2.2.1 _ (by simp), upJ_2, if_pos ⟨rfl, rfl⟩]
  generalize pc6 A4 e b = A6 at *
  have kk := RS_kh r6
  have r8 : RS e (pc8 A6 e b) (pq5 T e b) := RS_Ci kk.1 (by simp) (by simp)
  have p8 : Pf b S (pc8 A6 e b) := p6.trans ((Pf_E khF_Ef).trans Pf_i)
  have k8 : (pc8 A6 e b).1 (17, 0, b) 11 = 1 := by unfold pc8; rw [upI_1, if_neg (by simp), khF_Ef.1 _ (by simp)]; exact k6
  have k82 : (pc8 A6 e b).1 (17, 0, b) 2 = khC A6 := by unfold pc8; rw [upI_1, if_pos ⟨rfl, rfl⟩]
  have c8 : (pc8 A6 e b).1 (1, 0, 0) 8 = (khF A6 e).1 (1, 0, 0) 8 := by unfold pc8; rw [upI_1, if_neg (by simp)]
  have n8 : (pc8 A6 e b).2.1 (17, 0, b) 0 = A4.2.1 (1, 0, 0) 4 := by unfold pc8; rw [← n6]; exact congrFun (khF_Ef.2.2.1 _ (by simp)) 0
  generalize pc8 A6 e b = A8 at *
  have r9 : RS e (mkC A8) (pq6 T e b) := RS_mk r8
  have d6 : Df T (pq6 T e b) := pq6_Df
  have f9 : (mkC A8).1 (1, 0, 0) 8 = 0 → fHc (mkC A8) a = fdH (pq6 T e b) a := fun e0 => by
    have hm := mkC_gd e0
    exact fH_eq r9 e0 (by rw [hm.2.2]; exact hm.2.1) (fun r hr => by rw [mkC_Ef.2.2.1 _ (by simp), (p8 _ (by simp) (by simp)).2, d6.2.2.1 _ (by simp)]; exact hN r hr)
  have r10 : RS e (pc10 A8 a b) (pq6 T e b) := RS_Ci r9 (by simp) (by simp)
  have c10 : (pc10 A8 a b).1 (1, 0, 0) 8 = (mkC A8).1 (1, 0, 0) 8 := by unfold pc10; rw [upI_1, if_neg (by simp)]
  have k10 : (pc10 A8 a b).1 (17, 0, b) 11 = 1 := by unfold pc10; rw [upI_1, if_neg (by simp), mkC_Ef.1 _ (by simp)]; exact k8
  have k102 : (pc10 A8 a b).1 (17, 0, b) 2 = khC A6 := by unfold pc10; rw [upI_1, if_neg (by simp), mkC_Ef.1 _ (by simp)]; exact k82
  have k101 : (pc10 A8 a b).1 (17, 0, b) 1 = fdV (fHc (mkC A8) a) := by unfold pc10; rw [upI_1, if_pos ⟨rfl, rfl⟩]
  have n10 : (pc10 A8 a b).2.1 (17, 0, b) 0 = A4.2.1 (1, 0, 0) 4 := by unfold pc10; rw [← n8]; exact congrFun (mkC_Ef.2.2.1 _ (by simp)) 0
  generalize pc10 A8 a b = A10 at *
  have hlt : ∀ i, fHc (mkC A8) a = some i → i < 100 := fun i hi => by have := fHc_lt hi; omega
  have r12 : RS e (pc12 A10 e b) (pq7 T e a b) := by
    refine RS_go (RS_rq r10 (by decide) (fun e0 => ?_))
    rw [k101, ← f9 (c10.symm.trans e0)]
    rw [show decide (fdV (fHc (mkC A8) a) = -1) = decide (fHc (mkC A8) a = none) from decide_eq_decide.mpr (Eq.to_iff (fdV_m hlt))]
  refine ⟨r12, fun e0 => ?_⟩
  have g10 := rqC_gd (v := 4) (by decide) (goC_gd (gcI e0))
  have e10 := gcE g10.1
  have e9 := c10.symm.trans e10
  have e8 := (mkC_gd e9).1
  have e8' := kk.2 (c8.symm.trans e8)
  have e4 := c6.symm.trans e8'.1
  have q : ∀ d, (pc12 A10 e b).1 (17, 0, b) d = A10.1 (17, 0, b) d := fun d => by unfold pc12; rw [goC_Ef.1 _ (by simp), rqC_Ef.1 _ (by simp)]
  have qn : (pc12 A10 e b).2.1 (17, 0, b) 0 = A10.2.1 (17, 0, b) 0 := by unfold pc12; rw [goC_Ef.2.2.1 _ (by simp), rqC_Ef.2.2.1 _ (by simp)]
  rw [q, q, q, qn, k10, k102, k101, n10, ← e8'.2, f9 e9]
  refine ⟨rfl, rfl, khC_3, rfl, ?_, n4 e4⟩
  have g11 := g10.2
  rw [k101, f9 e9] at g11
  cases hf : fdH (pq6 T e b) a with
  | none => rw [hf] at g11; exact absurd g11 (by decide)
  | some r => exact ⟨r, fdH_lt hf, rfl⟩
end PP2
