section PP3
variable {n k p i h z m u f s c d x j e a b g r y : Nat} {S S' T T' U V R : St} {q v lo hi lo' hi' : Int32} {w w' : Int64} {cc cd : Bool} {o : Ob} {ho kd ra fl ce ga yi le : Int32}
/-! A PROGRAM IS READ: its row -/
theorem pqW_r : (pqW T b w ho kd ra fl ce ga yi le).1 (11, 4, 0) (36 + 11 * b + d) = if d = 10 then 1 else if d = 8 then yi else if d = 7 then le else if d = 6 then yi else if d = 5 then ga else if d = 4 then ce else if d = 3 then fl else if d = 2 then ra else if d = 1 then kd else if d = 0 then ho else T.1 (11, 4, 0) (36 + 11 * b + d) := by
  have hc : ∀ y, (36 + 11 * b + d = 36 + 11 * b + y) = (d = y) := fun y => propext ⟨fun e => by omega, fun e => by omega⟩
  have h0 : (36 + 11 * b + d = 36 + 11 * b) = (d = 0) := propext ⟨fun e => by omega, fun e => by omega⟩
  have h1 : ¬ (((11, 4, 0) : Ob) = (11, 4, 0) ∧ 36 + 11 * b + d = 1) := fun e => by have := e.2; omega
  unfold pqW
  rw [upI_1, if_neg h1]
  simp only [upI_1, upJ_1, hc, h0, true_and]
theorem pqW_o (h1 : j ≠ 1) (h2 : j < 36 + 11 * b ∨ 36 + 11 * b + 11 ≤ j) : (pqW T b w ho kd ra fl ce ga yi le).1 (11, 4, 0) j = T.1 (11, 4, 0) j := by
  have hc : ∀ y, y < 11 → ¬ (((11, 4, 0) : Ob) = (11, 4, 0) ∧ j = 36 + 11 * b + y) := fun y hy e => by have := e.2; omega
  have h0 : ¬ (((11, 4, 0) : Ob) = (11, 4, 0) ∧ j = 36 + 11 * b) := fun e => by have := e.2; omega
  unfold pqW
  rw [upI_1, if_neg (fun e => h1 e.2), upI_1, if_neg (hc 10 (by decide)), upI_1, if_neg (hc 8 (by decide)), upI_1, if_neg (hc 7 (by decide)), upI_1, if_neg (hc 6 (by decide)), upI_1, if_neg (hc 5 (by decide)), upI_1, if_neg (hc 4 (by decide)), upI_1, if_neg (hc 3 (by decide)), upI_1, if_neg (hc 2 (by decide)), upI_1, if_neg (hc 1 (by decide)), upI_1, if_neg h0]
  rfl
theorem pqW_1 : (pqW T b w ho kd ra fl ce ga yi le).1 (11, 4, 0) 1 = Int32.ofNat (b + 1) := by unfold pqW; rw [upI_1, if_pos ⟨rfl, rfl⟩]
theorem pqW_f (ho' : o ≠ (11, 4, 0)) : (pqW T b w ho kd ra fl ce ga yi le).1 o = T.1 o := by
  unfold pqW
  rw [upI_fun' _ _ _ ho', upI_fun' _ _ _ ho', upI_fun' _ _ _ ho', upI_fun' _ _ _ ho', upI_fun' _ _ _ ho', upI_fun' _ _ _ ho', upI_fun' _ _ _ ho', upI_fun' _ _ _ ho', upI_fun' _ _ _ ho', upI_fun' _ _ _ ho', upI_fun' _ _ _ ho']
  rfl
theorem pqW_J : (pqW T b w ho kd ra fl ce ga yi le).2.1 = (upJ T (11, 9, 0) (102 + b) w).2.1 := rfl
theorem pq_Mp (hb : b < 12) : Mp T (pqW T b w ho kd ra fl ce ga yi le) := by
  refine ⟨fun o _ h2 => pqW_f h2, fun o _ h2 => ?_, fun g _ => ?_, fun g h1 => ?_, fun j hj => ?_⟩
  · rw [pqW_J, upJ_fun2 h2.symm]
  · rw [pqW_f (by simp)]
  · by_cases hg : g < 36 + 11 * b ∨ 36 + 11 * b + 11 ≤ g
    · exact pqW_o (by unfold Zp at h1; omega) hg
    · have e : g = 36 + 11 * b + (g - (36 + 11 * b)) := by omega
      have e9 : g - (36 + 11 * b) = 9 := by unfold Zp at h1; omega
      rw [e9] at e
      rw [e, pqW_r]
      rfl
  · rw [pqW_J, upJ_2, if_neg (by simp <;> omega)]
theorem pcT_eq : pcT S e a b = chC (hdC S e a b) e b := rfl
theorem pcT_Pf : Pf b S (pcT S e a b) := hdC_Pf.trans chC_Pf
theorem rdp_Jb : (chC S e b).2.1 (17, 0, b) = S.2.1 (17, 0, b) := by
  have h14 : ∀ S : St, (pc14 S e b).2.1 (17, 0, b) = S.2.1 (17, 0, b) := fun S => rdp_J
  have h15 : ∀ S : St, (pc15 S e b).2.1 (17, 0, b) = S.2.1 (17, 0, b) := fun S => rdp_J
  have h16 : ∀ S : St, (pc16 S e b).2.1 (17, 0, b) = S.2.1 (17, 0, b) := fun S => rdp_J
  have h17 : ∀ S : St, (pc17 S e b).2.1 (17, 0, b) = S.2.1 (17, 0, b) := fun S => rdp_J
  have h18 : ∀ S : St, (pc18 S e b).2.1 (17, 0, b) = S.2.1 (17, 0, b) := fun S => rdp_J
  have h19 : ∀ S : St, (pc19 S b).2.1 (17, 0, b) = S.2.1 (17, 0, b) := fun S => rfl
  have h20 : ∀ S : St, (pc20 S e b).2.1 (17, 0, b) = S.2.1 (17, 0, b) := fun S => rdp_J
  unfold chC
  rw [h20, h19, h18, h17, h16, h15, h14]
theorem pcE_o (ho' : o ≠ (12, 0, 0)) : (pcE S b).1 o = S.1 o := by
  unfold pcE
  split
  · exact upI_fun' _ _ _ ho'
  · rfl
theorem pcE_J : (pcE S b).2.1 = S.2.1 := by
  unfold pcE
  split <;> rfl
theorem pc_dead (h0 : S.1 (1, 0, 0) 8 = 0) (hb : ¬ b < 12) (h : RS e S T) : RS e (pcF S e a b) (pqFn T e a b) ∧ (pcF S e a b).1 (1, 0, 0) 8 ≠ 0 ∧ Ef S (pcF S e a b) ∧ Df T (pqFn T e a b) := by
  have r0 : RS e (pc0 S b) (muF T (decide (b < 12)) 5) := RS_rq h (by decide) (fun _ => rfl)
  have hg : ¬ gC0 (pc0 S b) = true := fun e => hb (of_decide_eq_true (rqC_gd (by decide) e).2)
  have h8 : (pc0 S b).1 (1, 0, 0) 8 ≠ 0 := fun e => hg (gcI e)
  have e1 : pcF S e a b = pc0 S b := if_neg hg
  have h20 : (muF T (decide (b < 12)) 5).1 (8, 0, 0) 20 ≠ 0 := by rw [r0.2.2.2.1]; exact h8
  have q1 : pq1 T e b = muF T (decide (b < 12)) 5 := goF_dead h20
  have dB : Df T (muF T (decide (b < 12)) 5) := muF_Df
  generalize muF T (decide (b < 12)) 5 = B at *
  have q2 : mk1 B = B := muF_dead h20
  have q3 : pq3 T e b = B := by unfold pq3; rw [q1, q2, muF_dead h20]
  have q4 : pq4 T e b = B := by unfold pq4; rw [q3, goF_dead h20]
  have q5 : pq5 T e b = B := by unfold pq5; rw [q4, muF_dead h20, goF_dead h20]
  have q6 : pq6 T e b = B := by unfold pq6; rw [q5, q2]
  have q7 : pq7 T e a b = B := by unfold pq7; rw [q6, muF_dead h20, goF_dead h20]
  have q8 : pq8 T e a b = B := by unfold pq8; rw [q7, rnF_dead h20]
  have q9 : pq9 T e a b = B := by unfold pq9; rw [q8, rnF_dead h20]
  have q10 : pq10 T e a b = B := by unfold pq10; rw [q9, rnF_dead h20]
  have q11 : pq11 T e a b = B := by unfold pq11; rw [q10, rnF_dead h20]
  have q12 : pq12 T e a b = B := by unfold pq12; rw [q11, rnF_dead h20]
  have q13 : pq13 T e a b = B := by unfold pq13; rw [q12, rnF_dead h20]
  have e2 : pqFn T e a b = B := by
    unfold pqFn
    rw [q13, if_neg (fun e => h20 (gdE e))]
  rw [e1, e2]
  exact ⟨r0, h8, rqC_Ef, dB⟩
theorem pr_DI (h : DI e S T a b) (h0 : S.1 (1, 0, 0) 8 = 0) : ∃ b', DI e (pcF S e a b) (pqFn T e a b) a b' := by
  have hh := h
  obtain ⟨hR, hE, hD, hI⟩ := h
  by_cases hb : b < 12
  · obtain ⟨t1, t2, t3⟩ := hI h0
    have hpc0 : pc0 S b = S := rqC_same (decide_eq_true hb)
    obtain ⟨r7, f7⟩ := ph hR h0 hE.2.1 hb (fun r hr => (t2 r hr).2.2.2) (fun r hr => (t3 r hr).2.2)
    obtain ⟨r13, f13⟩ := pn r7
    have pP : Pf b S (pcT S e a b) := pcT_Pf
    have d13 : Df T (pq13 T e a b) := pq13_Df
    have eF : pcF S e a b = pcE (pcT S e a b) b := by unfold pcF; rw [hpc0, if_pos (gcI h0)]
    have hJ : (pcT S e a b).2.1 (17, 0, b) = (hdC S e a b).2.1 (17, 0, b) := by rw [pcT_eq]; exact rdp_Jb
    have hET : Eok (pcT S e a b) a b := Eok_En hE pcT_En
    have hD13 := Dok_Df hD d13
    rw [eF]
    rw [← pcT_eq] at r13 f13
    unfold pqFn
    by_cases hg : (pcT S e a b).1 (1, 0, 0) 8 = 0
    · obtain ⟨g7, k, b1, b2, b3, b4⟩ := f13 hg
      obtain ⟨c1, c2, c3, c4, ⟨r, c5, c6⟩, c7⟩ := f7 g7
      rw [if_pos (gdI (r13.2.2.2.1.trans hg))]
      refine ⟨b + 1, ?_, ?_, ?_, fun _ => ⟨?_, fun r hr => ?_, fun r hr => ?_⟩⟩
      · refine RS_C (RS_M r13 (pqW_f (by simp)) (pqW_f (by simp)) ?_) (pcE_o (by simp)) (pcE_o (by simp)) (by rw [pcE_J])
        rw [pqW_J]
        exact upJ_fun2 (by simp)
      · unfold pcE
        rw [if_pos (gcI hg)]
        refine ⟨?_, hE.2.1, ?_, by omega⟩
        · rw [upI_1, if_neg (by simp)]; exact hET.1
        · rw [upI_1, if_pos ⟨rfl, rfl⟩]
      · refine ⟨?_, hD.2.1, pqW_1, by omega⟩
        rw [pqW_o (by decide) (by omega)]
        exact hD13.1
      · refine TK_f t1 (fun g hg' => ?_) (fun g hg' => ?_)
        · unfold pcE
          rw [if_pos (gcI hg), upI_1, if_neg (by simp <;> omega), (pP _ (by simp) (by simp)).1]
        · rw [pqW_o (by omega) (by omega), d13.1 _ (by simp)]
      · refine DH_f (t2 r hr) ?_ ?_ ?_ ?_ ?_
        · rw [pcE_o (by simp)]; exact (pP _ (by simp) (by simp)).1
        · rw [pcE_J]; exact (pP _ (by simp) (by simp)).2
        · have := hE.2.1; rw [pqW_o (by omega) (by omega), d13.1 _ (by simp)]
        · have := hE.2.1; rw [pqW_o (by omega) (by omega), d13.1 _ (by simp)]
        · have := hE.2.1; rw [pqW_J, upJ_2, if_neg (by simp <;> omega), d13.2.2.1 _ (by simp)]
      · by_cases hrb : r = b
        · subst hrb
          rename_i r0 _
          have k' : ∀ d, (pcE (pcT S e a r) r).1 (17, 0, r) d = (pcT S e a r).1 (17, 0, r) d := fun d => by rw [pcE_o (by simp)]
          have v1 : (pcT S e a r).1 (17, 0, r) 1 = Int32.ofNat r0 := (k 1).trans (by simp only [c4, c6, fdV]; simp)
          have v2 : (pcT S e a r).1 (17, 0, r) 2 = khV (pq4 T e r) := (k 2).trans (by simp [c2])
          have v3 : (pcT S e a r).1 (17, 0, r) 3 = pqRa T e a r := (k 3).trans (by simp)
          have v4 : (pcT S e a r).1 (17, 0, r) 4 = pqFl T e a r := (k 4).trans (by simp)
          have v5 : (pcT S e a r).1 (17, 0, r) 5 = pqCe T e a r := (k 5).trans (by simp)
          have v6 : (pcT S e a r).1 (17, 0, r) 6 = pqGa T e a r := (k 6).trans (by simp)
          have v7 : (pcT S e a r).1 (17, 0, r) 7 = pqYi T e a r := (k 7).trans (by simp)
          have v8 : (pcT S e a r).1 (17, 0, r) 8 = pqLe T e a r := (k 8).trans (by simp)
          have v9 : (pcT S e a r).1 (17, 0, r) 9 = pqYi T e a r := (k 9).trans (by simp)
          have v11 : (pcT S e a r).1 (17, 0, r) 11 = 1 := (k 11).trans (by simp [c1])
          refine ⟨fun w hw h9 => ?_, ?_, ?_⟩
          · rw [k', pqW_r]
            rcases (show w = 0 ∨ w = 1 ∨ w = 2 ∨ w = 3 ∨ w = 4 ∨ w = 5 ∨ w = 6 ∨ w = 7 ∨ w = 8 ∨ w = 10 by omega) with hh | hh | hh | hh | hh | hh | hh | hh | hh | hh <;> subst hh
            · simp [v1, c6, fdV]
            · simpa using v2
            · simpa using v3
            · simpa using v4
            · simpa using v5
            · simpa using v6
            · simpa using v7
            · simpa using v8
            · simpa using v9
            · simpa using v11
          · unfold NP
            rw [k', k', k', k', k', k', k', k', k', k', v1, v2, v3, v4, v5, v6, v7, v8, v9, v11]
            have := hE.2.1
            refine ⟨Or.inr rfl, ⟨?_, ?_⟩, c3, b1, b2.1, b2.2, b3.1, b3.2, b4.1, b4.2, b3.1, b3.2⟩
            · rw [oN_neg (by omega)]; exact fun e => e
            · rw [oN_clamp (by omega)]; exact c5
          · rw [pcE_J, hJ, pqW_J, upJ_2, if_pos ⟨rfl, rfl⟩]
            exact c7
        · refine DP_f (t3 r (by omega)) ?_ ?_ (fun w hw => ?_) ?_
          · rw [pcE_o (by simp)]; exact (pP _ (by simp) (by simp <;> omega)).1
          · rw [pcE_J]; exact (pP _ (by simp) (by simp <;> omega)).2
          · rw [pqW_o (by omega) (by omega), d13.1 _ (by simp)]
          · rw [pqW_J, upJ_2, if_neg (by simp <;> omega), d13.2.2.1 _ (by simp)]
    · have hn : ¬ gd (pq13 T e a b) = true := fun e => hg (r13.2.2.2.1.symm.trans (gdE e))
      have hE' : pcE (pcT S e a b) b = pcT S e a b := if_neg (fun e => hg (gcE e))
      rw [if_neg hn, hE']
      exact ⟨b, r13, hET, hD13, fun e => absurd e hg⟩
  · obtain ⟨a1, a2, a3, a4⟩ := pc_dead (a := a) h0 hb hR
    exact ⟨b, DI_f hh a1 a3 a4 (fun e => absurd e a2)⟩
theorem hdC_Zf : Zf S (hdC S e a b) := by
  have ri : ∀ {S : St} {g : Nat} {v : Int32}, g ≠ 10 → Zf S (upI S (17, 0, b) g v) := fun hg => Zf_i ⟨rfl, Or.inr (Or.inr ⟨rfl, hg⟩)⟩
  have p2 : Zf S (pc2 S e b) := (Zf_E goC_Ef).trans (ri (by decide))
  have p4 : ∀ {S : St}, Zf S (pc4 S b) := Zf_E (mkC_Ef.trans rqC_Ef)
  have p6 : ∀ {S : St}, Zf S (pc6 S e b) := (Zf_j ⟨rfl, Or.inr rfl⟩).trans (Zf_E goC_Ef)
  have p8 : ∀ {S : St}, Zf S (pc8 S e b) := (Zf_E khF_Ef).trans (ri (by decide))
  have p10 : ∀ {S : St}, Zf S (pc10 S a b) := (Zf_E mkC_Ef).trans (ri (by decide))
  have p12 : ∀ {S : St}, Zf S (pc12 S e b) := Zf_E (rqC_Ef.trans goC_Ef)
  exact ((((p2.trans p4).trans p6).trans p8).trans p10).trans p12
theorem chC_Zf : Zf S (chC S e b) := by
  have rp : ∀ (S : St) (g : Nat) (lo hi : Int32), g ≠ 10 → Zf S (rdp S e b g lo hi) := fun S g lo hi hg => (Zf_E rnC_Ef).trans (Zf_i ⟨rfl, Or.inr (Or.inr ⟨rfl, hg⟩)⟩)
  have h14 : ∀ {S : St}, Zf S (pc14 S e b) := fun {S} => rp _ _ _ _ (by decide)
  have h15 : ∀ {S : St}, Zf S (pc15 S e b) := fun {S} => rp _ _ _ _ (by decide)
  have h16 : ∀ {S : St}, Zf S (pc16 S e b) := fun {S} => rp _ _ _ _ (by decide)
  have h17 : ∀ {S : St}, Zf S (pc17 S e b) := fun {S} => rp _ _ _ _ (by decide)
  have h18 : ∀ {S : St}, Zf S (pc18 S e b) := fun {S} => rp _ _ _ _ (by decide)
  have h19 : ∀ {S : St}, Zf S (pc19 S b) := fun {S} => Zf_i ⟨rfl, Or.inr (Or.inr ⟨rfl, by decide⟩)⟩
  have h20 : ∀ {S : St}, Zf S (pc20 S e b) := fun {S} => rp _ _ _ _ (by decide)
  exact (((((h14.trans h15).trans h16).trans h17).trans h18).trans h19).trans h20
theorem pcT_Rf : Zf S (pcT S e a b) := by
  rw [pcT_eq]
  exact hdC_Zf.trans chC_Zf
theorem pcF_Rf : Zf S (pcF S e a b) := by
  have h0 : Zf S (pc0 S b) := Zf_E rqC_Ef
  unfold pcF
  split
  · refine h0.trans ((pcT_Rf (S := pc0 S b) (e := e) (a := a) (b := b)).trans ?_)
    unfold pcE
    split
    · exact Zf_i ⟨rfl, Or.inl ⟨rfl, Or.inr (by decide)⟩⟩
    · exact Zf.refl
  · exact h0
theorem pqFn_Mp : Mp T (pqFn T e a b) := by
  unfold pqFn
  by_cases hg : gd (pq13 T e a b) = true
  · rw [if_pos hg]
    exact (Mp_D pq13_Df).trans (pq_Mp (pq13_gd hg).2.2.1)
  · rw [if_neg hg]; exact Mp_D pq13_Df
end PP3
