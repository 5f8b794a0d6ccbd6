section TW
variable {n nh t k k' p i j h w q g z m u f : Nat} {S S' T T' U V R : St} {a b c v y pr rf e fo x : Int32}
/-! a link of another capacity -/
theorem sw (ho : q ≠ 12 ∨ f ≠ 0) : upI (upI T (12, k, 0) 0 x) (q, k, p) f v = upI (upI T (q, k, p) f v) (12, k, 0) 0 x := by
  refine Prod.ext (funext fun o => funext fun g => ?_) rfl
  rw [upI_1, upI_1, upI_1, upI_1]
  by_cases e1 : o = (q, k, p) ∧ g = f
  · have e2 : ¬ (o = (12, k, 0) ∧ g = 0) := fun e2 => by
      have h1 := e1.1.symm.trans e2.1
      injection h1 with h3 _
      rcases ho with h | h
      · exact h h3
      · exact h (e1.2.symm.trans e2.2)
    rw [if_pos e1, if_neg e2, if_pos e1]
  · rw [if_neg e1]
    by_cases e2 : o = (12, k, 0) ∧ g = 0
    · rw [if_pos e2, if_pos e2]
    · rw [if_neg e2, if_neg e2, if_neg e1]
theorem sw15 : upI (upI T (12, k, 0) 0 x) (15, k, p) f v = upI (upI T (15, k, p) f v) (12, k, 0) 0 x := sw (Or.inl (by decide))
theorem sw16 : upI (upI T (12, k, 0) 0 x) (16, k, p) f v = upI (upI T (16, k, p) f v) (12, k, 0) 0 x := sw (Or.inl (by decide))
theorem sw17 : upI (upI T (12, k, 0) 0 x) (17, k, p) f v = upI (upI T (17, k, p) f v) (12, k, 0) 0 x := sw (Or.inl (by decide))
theorem sw18 : upI (upI T (12, k, 0) 0 x) (18, k, p) f v = upI (upI T (18, k, p) f v) (12, k, 0) 0 x := sw (Or.inl (by decide))
theorem sw5 : upI (upI T (12, k, 0) 0 x) (12, k, 0) 5 v = upI (upI T (12, k, 0) 5 v) (12, k, 0) 0 x := sw (Or.inr (by decide))
theorem sw6 : upI (upI T (12, k, 0) 0 x) (12, k, 0) 6 v = upI (upI T (12, k, 0) 6 v) (12, k, 0) 0 x := sw (Or.inr (by decide))
theorem sw8 : upI (upI T (12, k, 0) 0 x) (12, k, 0) 8 v = upI (upI T (12, k, 0) 8 v) (12, k, 0) 0 x := sw (Or.inr (by decide))
theorem swJ {o : Ob} {v : Int64} : upJ (upI T (12, k, 0) 0 x) o f v = upI (upJ T o f v) (12, k, 0) 0 x := rfl
theorem ru15 : (upI T (12, k, 0) 0 x).1 (15, k, p) = T.1 (15, k, p) := upI_fun' _ _ _ (by simp)
theorem ru16 : (upI T (12, k, 0) 0 x).1 (16, k, p) = T.1 (16, k, p) := upI_fun' _ _ _ (by simp)
theorem ru17 : (upI T (12, k, 0) 0 x).1 (17, k, p) = T.1 (17, k, p) := upI_fun' _ _ _ (by simp)
theorem ru18 : (upI T (12, k, 0) 0 x).1 (18, k, p) = T.1 (18, k, p) := upI_fun' _ _ _ (by simp)
theorem ru12 : (upI T (12, k, 0) 0 x).1 (12, k, 0) (g + 1) = T.1 (12, k, 0) (g + 1) := by rw [upI_1, if_neg (by simp)]
theorem ru1 : (upI T (12, k, 0) 0 x).1 (12, k, 0) 1 = T.1 (12, k, 0) 1 := ru12
theorem ru2 : (upI T (12, k, 0) 0 x).1 (12, k, 0) 2 = T.1 (12, k, 0) 2 := ru12
theorem ru3 : (upI T (12, k, 0) 0 x).1 (12, k, 0) 3 = T.1 (12, k, 0) 3 := ru12
theorem ru4 : (upI T (12, k, 0) 0 x).1 (12, k, 0) 4 = T.1 (12, k, 0) 4 := ru12
theorem ru5 : (upI T (12, k, 0) 0 x).1 (12, k, 0) 5 = T.1 (12, k, 0) 5 := ru12
theorem ru6 : (upI T (12, k, 0) 0 x).1 (12, k, 0) 6 = T.1 (12, k, 0) 6 := ru12
theorem ru8 : (upI T (12, k, 0) 0 x).1 (12, k, 0) 8 = T.1 (12, k, 0) 8 := ru12
theorem ruJ : (upI T (12, k, 0) 0 x).2 = T.2 := rfl
theorem hisF_E : hisF (upI T (12, k, 0) 0 x) k p = hisF T k p := by unfold hisF; rw [ru17]
theorem adm_E : adm (upI T (12, k, 0) 0 x) k p = adm T k p := by unfold adm; rw [ru18]
theorem offF_E {pri : Int32} : offF (upI T (12, k, 0) 0 x) k p i pri = upI (offF T k p i pri) (12, k, 0) 0 x := by
  unfold offF offA offW offO
  simp only [ru16, ru17, ru18, sw16, sw18]
theorem ofL_E : ∀ j, ofL (upI T (12, k, 0) 0 x) k j = upI (ofL T k j) (12, k, 0) 0 x := by
  intro j
  induction j with
  | zero => rfl
  | succ j ih => unfold ofL; rw [ih, hisF_E, ru2, offF_E]
theorem yldF_E {r : Int32} : yldF (upI T (12, k, 0) 0 x) k p i r = upI (yldF T k p i r) (12, k, 0) 0 x := by
  unfold yldF yldN
  simp only [ru16, ru17, ru18, sw16, sw18, adm_E]
theorem ylL_E : ∀ j, ylL (upI T (12, k, 0) 0 x) k j = upI (ylL T k j) (12, k, 0) 0 x := by
  intro j
  induction j with
  | zero => rfl
  | succ j ih => unfold ylL; rw [ih, hisF_E, ru3, yldF_E]
theorem ps2_E (hw : psW (upI T (12, k, 0) 0 x) k n = psW T k n) : ps2 (upI T (12, k, 0) 0 x) k n = upI (ps2 T k n) (12, k, 0) 0 x := by
  unfold ps2
  rw [hw]
  by_cases e : psW T k n = true
  · rw [if_pos e, if_pos e, ru6, sw8, sw6, ylL_E]
  · rw [if_neg e, if_neg e, sw8]
theorem dlvF_E : dlvF (upI T (12, k, 0) 0 x) k p i pr rf = upI (dlvF T k p i pr rf) (12, k, 0) 0 x := by
  unfold dlvF dlvN
  simp only [ru16, ru17, ru18, sw16, sw18, adm_E, swJ, ruJ]
theorem dvL_E : ∀ j, dvL (upI T (12, k, 0) 0 x) k j = upI (dvL T k j) (12, k, 0) 0 x := by
  intro j
  induction j with
  | zero => rfl
  | succ j ih => unfold dvL; rw [ih, hisF_E, ru2, ru3, dlvF_E]
theorem ldF_E : ∀ j, ldF (upI T (12, k, 0) 0 x) k j = ldF T k j := by
  intro j
  induction j with
  | zero => rfl
  | succ j ih => unfold ldF; rw [ih, ru17, ru18]
theorem lrnF_E {wn fg ld : Int32} : lrnF (upI T (12, k, 0) 0 x) k p wn fg ld = upI (lrnF T k p wn fg ld) (12, k, 0) 0 x := by
  unfold lrnF rsdF
  simp only [ru17, ru18, sw17]
  split
  · rfl
  · split
    · rfl
    · split <;> rfl
theorem laF_E {ld : Int32} : ∀ j, laF (upI T (12, k, 0) 0 x) k ld j = upI (laF T k ld j) (12, k, 0) 0 x := by
  intro j
  induction j with
  | zero => rfl
  | succ j ih =>
    unfold laF
    rw [ih, ru17, ru8, ru4, lrnF_E]
    split <;> rfl
theorem phR_E : phR (upI T (12, k, 0) 0 x) k j = upI (phR T k j) (12, k, 0) 0 x := by
  unfold phR ehF
  simp only [ru16, ru5, sw15, sw16]
theorem ptL_E : ∀ j, ptL (upI T (12, k, 0) 0 x) k j = upI (ptL T k j) (12, k, 0) 0 x := by
  intro j
  induction j with
  | zero => rfl
  | succ j ih => unfold ptL; rw [ih, phR_E]
theorem ptF_E : ptF (upI T (12, k, 0) 0 x) k nh = upI (ptF T k nh) (12, k, 0) 0 x := by
  have e : ptT (upI T (12, k, 0) 0 x) k = upI (ptT T k) (12, k, 0) 0 x := by unfold ptT; rw [ru5, sw5]
  unfold ptF
  rw [e, ru5, ptL_E]
  split <;> rfl
theorem ps3_0 (h : deV T k n = 0) : ps3 T k n = T := by
  have h1 : ¬ 0 < deV T k n := by rw [h]; decide
  have h2 : ¬ 0 < exF T k n := fun e => by
    unfold deV at h1
    rw [if_pos e] at h1
    exact h1 e
  unfold ps3
  rw [if_neg h1]
  unfold deF
  rw [if_neg h2]
theorem psF_E (hw : psW (upI (ofL T k n) (12, k, 0) 0 x) k n = psW (ofL T k n) k n) (h1 : psV T k n = 0) (h2 : psV (upI T (12, k, 0) 0 x) k n = 0) : psF (upI T (12, k, 0) 0 x) k n nh = upI (psF T k n nh) (12, k, 0) 0 x := by
  unfold psV at h1 h2
  rw [ofL_E, ps2_E hw] at h2
  unfold psF ps4
  rw [ofL_E, ps2_E hw, ps3_0 h1, ps3_0 h2, dvL_E, ldF_E, laF_E, ptF_E]
end TW
