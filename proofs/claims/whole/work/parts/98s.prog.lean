section PP1
variable {n k p i h z m u f s c d x j e a b g r : Nat} {S S' T T' U V R : St} {q v lo hi lo' hi' : Int32} {w w' : Int64} {cc cd : Bool} {o : Ob}
/-! A PROGRAM IS READ -/
def Pf (b : Nat) (S S' : St) : Prop := ∀ o : Ob, o ≠ (1, 0, 0) → o ≠ (17, 0, b) → S'.1 o = S.1 o ∧ S'.2.1 o = S.2.1 o
theorem Pf.trans (h1 : Pf b S U) (h2 : Pf b U V) : Pf b S V := fun o a c => ⟨(h2 o a c).1.trans (h1 o a c).1, (h2 o a c).2.trans (h1 o a c).2⟩
theorem Pf_E (h : Ef S U) : Pf b S U := fun o a _ => ⟨h.1 o a, h.2.2.1 o a⟩
theorem Pf_i : Pf b S (upI S (17, 0, b) g v) := fun o _ c => ⟨upI_fun' _ _ _ c, rfl⟩
theorem Pf_j : Pf b S (upJ S (17, 0, b) g w) := fun o _ c => ⟨rfl, upJ_fun' _ _ _ c⟩
theorem rdp_8 : (rdp S e b g lo hi).1 (1, 0, 0) 8 = (rnC S e lo hi).1 (1, 0, 0) 8 := by unfold rdp; rw [upI_1, if_neg (by simp)]
theorem rdp_k : (rdp S e b g lo hi).1 (17, 0, b) d = if d = g then S.1 (1, 0, 0) 5 else S.1 (17, 0, b) d := by
  unfold rdp
  rw [upI_1, rnC_Ef.1 _ (by simp)]
  by_cases hd : d = g
  · rw [if_pos ⟨rfl, hd⟩, if_pos hd]
  · rw [if_neg (fun e => hd e.2), if_neg hd]
theorem rdp_J : (rdp S e b g lo hi).2.1 (17, 0, r) = S.2.1 (17, 0, r) := rnC_Ef.2.2.1 _ (by simp)
theorem rdp_Pf : Pf b S (rdp S e b g lo hi) := (Pf_E rnC_Ef).trans Pf_i
theorem RS_p (h : RS e S T) (hb : S.1 (1, 0, 0) 8 = 0 → lo = lo' ∧ hi = hi') : RS e (rdp S e b g lo hi) (rnF T e lo' hi') := RS_Ci (RS_rn h hb) (by simp) (by simp)
def chC (S : St) (e b : Nat) : St := pc20 (pc19 (pc18 (pc17 (pc16 (pc15 (pc14 S e b) e b) e b) e b) e b) b) e b
theorem chC_Pf : Pf b S (chC S e b) := (((((rdp_Pf.trans rdp_Pf).trans rdp_Pf).trans rdp_Pf).trans rdp_Pf).trans Pf_i).trans rdp_Pf
theorem pn (h : RS e V (pq7 T e a b)) : RS e (chC V e b) (pq13 T e a b) ∧ ((chC V e b).1 (1, 0, 0) 8 = 0 → V.1 (1, 0, 0) 8 = 0 ∧ (∀ d, (chC V e b).1 (17, 0, b) d = if d = 8 then pqLe T e a b else if d = 7 then pqYi T e a b else if d = 9 then pqYi T e a b else if d = 6 then pqGa T e a b else if d = 3 then pqRa T e a b else if d = 5 then pqCe T e a b else if d = 4 then pqFl T e a b else V.1 (17, 0, b) d) ∧ (0 ≤ (pqFl T e a b).toInt ∧ (pqFl T e a b).toInt ≤ (pqRa T e a b).toInt ∧ (pqRa T e a b).toInt ≤ (pqCe T e a b).toInt ∧ (pqCe T e a b).toInt ≤ 999) ∧ (0 ≤ (pqGa T e a b).toInt ∧ (pqGa T e a b).toInt ≤ 99) ∧ (0 ≤ (pqYi T e a b).toInt ∧ (pqYi T e a b).toInt ≤ 100) ∧ (0 ≤ (pqLe T e a b).toInt ∧ (pqLe T e a b).toInt ≤ 50)) := by
  have r14 : RS e (pc14 V e b) (pq8 T e a b) := RS_p h RS_lit
  have f4 : (pc14 V e b).1 (1, 0, 0) 8 = 0 → (pc14 V e b).1 (17, 0, b) 4 = pqFl T e a b := fun h0 => by
    unfold pc14
    rw [rdp_k, if_pos rfl]
    exact (RS_val h RS_lit (rdp_8.symm.trans h0)).2.1.symm
  have b15 : (pc14 V e b).1 (1, 0, 0) 8 = 0 → (pc14 V e b).1 (17, 0, b) 4 = pqFl T e a b ∧ (999 : Int32) = 999 := fun h0 => ⟨f4 h0, rfl⟩
  have r15 : RS e (pc15 (pc14 V e b) e b) (pq9 T e a b) := RS_p r14 b15
  generalize h14 : pc14 V e b = A14 at *
  have f5 : (pc15 A14 e b).1 (1, 0, 0) 8 = 0 → (pc15 A14 e b).1 (17, 0, b) 4 = pqFl T e a b ∧ (pc15 A14 e b).1 (17, 0, b) 5 = pqCe T e a b := fun h0 => by
    have v := RS_val r14 b15 (rdp_8.symm.trans h0)
    unfold pc15
    rw [rdp_k, if_neg (by decide), rdp_k, if_pos rfl]
    exact ⟨f4 v.1, v.2.1.symm⟩
  have r16 : RS e (pc16 (pc15 A14 e b) e b) (pq10 T e a b) := RS_p r15 f5
  generalize h15 : pc15 A14 e b = A15 at *
  have r17 : RS e (pc17 (pc16 A15 e b) e b) (pq11 T e a b) := RS_p r16 RS_lit
  generalize h16 : pc16 A15 e b = A16 at *
  have r18 : RS e (pc18 (pc17 A16 e b) e b) (pq12 T e a b) := RS_p r17 RS_lit
  generalize h17 : pc17 A16 e b = A17 at *
  generalize h18 : pc18 A17 e b = A18 at *
  have r19 : RS e (pc19 A18 b) (pq12 T e a b) := RS_Ci r18 (by simp) (by simp)
  have hch : chC V e b = pc20 (pc19 A18 b) e b := by unfold chC; rw [h14, h15, h16, h17, h18]
  have c19 : (pc19 A18 b).1 (1, 0, 0) = A18.1 (1, 0, 0) := upI_fun' _ _ _ (by simp)
  rw [hch]
  refine ⟨RS_p r19 RS_lit, fun h0 => ?_⟩
  have v19 := RS_val r19 RS_lit (rdp_8.symm.trans h0)
  have c18 : A18.1 (1, 0, 0) 8 = 0 := by rw [← c19]; exact v19.1
  rw [← h18] at c18
  have v17 := RS_val r17 RS_lit (rdp_8.symm.trans c18)
  have c17 := v17.1
  rw [← h17] at c17
  have v16 := RS_val r16 RS_lit (rdp_8.symm.trans c17)
  have c16 := v16.1
  rw [← h16] at c16
  have v15 := RS_val r15 f5 (rdp_8.symm.trans c16)
  have f5' := f5 v15.1
  have c15 := v15.1
  rw [← h15] at c15
  have v14 := RS_val r14 b15 (rdp_8.symm.trans c15)
  have c14 := v14.1
  rw [← h14] at c14
  have v12 := RS_val h RS_lit (rdp_8.symm.trans c14)
  have q19 : (pc19 A18 b).1 (1, 0, 0) 5 = pqLe T e a b := v19.2.1.symm
  have q17 : A17.1 (1, 0, 0) 5 = pqYi T e a b := v17.2.1.symm
  have q16 : A16.1 (1, 0, 0) 5 = pqGa T e a b := v16.2.1.symm
  have q15 : A15.1 (1, 0, 0) 5 = pqRa T e a b := v15.2.1.symm
  have q14 : A14.1 (1, 0, 0) 5 = pqCe T e a b := v14.2.1.symm
  have q12 : V.1 (1, 0, 0) 5 = pqFl T e a b := v12.2.1.symm
  have k18 : ∀ d, A18.1 (17, 0, b) d = if d = 9 then pqYi T e a b else if d = 6 then pqGa T e a b else if d = 3 then pqRa T e a b else if d = 5 then pqCe T e a b else if d = 4 then pqFl T e a b else V.1 (17, 0, b) d := by
    intro d
    rw [← h18]
    unfold pc18
    rw [rdp_k, q17]
    congr 1
    rw [← h17]
    unfold pc17
    rw [rdp_k, q16]
    congr 1
    rw [← h16]
    unfold pc16
    rw [rdp_k, q15]
    congr 1
    rw [← h15]
    unfold pc15
    rw [rdp_k, q14]
    congr 1
    rw [← h14]
    unfold pc14
    rw [rdp_k, q12]
  have e5 : (0 : Int32).toInt = 0 := rfl
  have e1 : (999 : Int32).toInt = 999 := rfl
  have e2 : (99 : Int32).toInt = 99 := rfl
  have e3 : (100 : Int32).toInt = 100 := rfl
  have e4 : (50 : Int32).toInt = 50 := rfl
  rw [e5, e4, q19] at v19
  rw [e5, e3, q17] at v17
  rw [e5, e2, q16] at v16
  rw [f5'.1, f5'.2, q15] at v15
  rw [f4 v14.1, e1, q14] at v14
  rw [e5, e1, q12] at v12
  refine ⟨v12.1, ?_, ⟨v12.2.2.1, v15.2.2.1, v15.2.2.2, v14.2.2.2⟩, v16.2.2, v17.2.2, v19.2.2⟩
  intro d
  have k9 : A18.1 (17, 0, b) 9 = pqYi T e a b := by rw [k18, if_pos rfl]
  unfold pc20
  rw [rdp_k]
  by_cases h8 : d = 8
  · rw [if_pos h8, if_pos h8]
    exact q19
  · rw [if_neg h8, if_neg h8]
    unfold pc19
    rw [upI_1, k9, k18 d]
    by_cases h7 : d = 7
    · rw [if_pos ⟨rfl, h7⟩, if_pos h7]
    · rw [if_neg (fun e => h7 e.2), if_neg h7]
end PP1
