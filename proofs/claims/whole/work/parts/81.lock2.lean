section LK2
variable {n nh t k p i j h w q g z : Nat} {S T U : St} {d6 d7 : Nat → Int64} {v pr : Int32}
theorem roF_z (hz : z < 12) (hj : j < 12) (hi : i < 6) : (roF T j i).1 (11, 0, 0) z = T.1 (11, 0, 0) z := by
  unfold roF roL sL sH sC
  simp [upI_1, upJ_1]
  repeat' (first | rw [if_neg (by omega)])
theorem roF_hi (hz : 240 ≤ z) (hj : j < 12) (hi : i < 6) : (roF T j i).1 (11, 0, 0) z = T.1 (11, 0, 0) z := by
  unfold roF roL sL sH sC
  simp [upI_1, upJ_1]
  repeat' (first | rw [if_neg (by omega)])
theorem roF_nm (hz : 96 ≤ z) (hj : j < 12) : (roF T j i).2.1 (11, 5, 0) z = T.2.1 (11, 5, 0) z := by
  unfold roF sC
  simp [upI_2, upJ_2]
  rw [if_neg (by omega)]
  rfl
/-- what an offer computes is the same on both sides -/
theorem off_O (hM : Mit k S T n nh d6 d7) (hp : p < n) (hon : S.1 (17, k, p) 11 = 0 ∨ S.1 (17, k, p) 11 = 1) : offO S k p = rU T p := by
  have h1 := hM.2.2.1 p 10 hp (by decide)
  have h2 := hM.2.2.1 p 2 hp (by decide)
  unfold offO rU gP
  rw [← h1, ← h2]
  rcases hon with h | h <;> simp [h]
theorem off_W (hM : Mit k S T n nh d6 d7) (hp : p < n) (hi : i < nh) (hon : S.1 (17, k, p) 11 = 0 ∨ S.1 (17, k, p) 11 = 1) : offW S k p i = rW T p i := by
  have h1 := hM.2.1 i 0 hi (by decide)
  have h2 := hM.2.1 i 2 hi (by decide)
  unfold offW rW gH
  rw [off_O hM hp hon, ← h1, ← h2]
theorem off_A (hM : Mit k S T n nh d6 d7) (hp : p < n) (hi : i < nh) (hon : S.1 (17, k, p) 11 = 0 ∨ S.1 (17, k, p) 11 = 1) (hpr : 0 ≤ S.1 (12, k, 0) 2) : offA S k p i (S.1 (12, k, 0) 2) = rQ T p i := by
  have h4 := hM.1 4 (by decide)
  have h1 := hM.2.1 i 1 hi (by decide)
  rw [show scI 4 = 2 from rfl] at h4
  unfold offA rQ gH
  rw [off_W hM hp hi hon, ← h1, ← h4]
  by_cases h0 : S.1 (12, k, 0) 2 = 0
  · rw [if_pos h0, h0, if_neg (by decide)]
  · rw [if_neg h0, if_pos (Int32.lt_of_le_of_ne hpr (fun e => h0 e.symm))]
theorem sub_sub {x y : Int32} : x - (x - y) = y := by
  rw [Int32.sub_eq_add_neg, Int32.neg_sub, Int32.sub_eq_add_neg, Int32.add_comm y, ← Int32.add_assoc, Int32.add_right_neg, Int32.zero_add]
theorem adm_off : adm (offF S k p i pr) k p = offA S k p i pr := by
  unfold adm
  rw [offF_L, offF_L, offF_L, if_pos ⟨rfl, by decide⟩, if_pos ⟨rfl, by decide⟩, if_pos ⟨rfl, by decide⟩]
  unfold offV
  simp
  generalize offO S k p = a
  generalize offW S k p i = b
  generalize offA S k p i pr = c
  rw [sub_sub, sub_sub]
theorem adm_off' (hq : q ≠ p) : adm (offF S k p i pr) k q = adm S k q := by
  unfold adm
  rw [offF_L, offF_L, offF_L, if_neg (fun e => hq e.1), if_neg (fun e => hq e.1), if_neg (fun e => hq e.1)]
/-- one offer -/
theorem off_step (hM : Mit k S T n nh d6 d7) (hn : n ≤ 12) (hnh : nh ≤ 6) (hp : p < n) (hi : i < nh) (hon : S.1 (17, k, p) 11 = 0 ∨ S.1 (17, k, p) 11 = 1) (hpr : 0 ≤ S.1 (12, k, 0) 2) : Mit k (offF S k p i (S.1 (12, k, 0) 2)) (upI (roF T p i) (11, 14, 0) p v) n nh (fun q => if q = p then d6 p + (offA S k p i (S.1 (12, k, 0) 2) * S.1 (12, k, 0) 2).toInt64 else d6 q) d7 := by
  have eO := off_O hM hp hon
  have eW := off_W hM hp hi hon
  have eA := off_A hM hp hi hon hpr
  have h4 := hM.1 4 (by decide)
  rw [show scI 4 = 2 from rfl] at h4
  obtain ⟨m1, m2, m3, m4, m5, m6, m7, m8, m9⟩ := hM
  have e1 : ∀ z, (upI (roF T p i) (11, 14, 0) p v).1 (11, 0, 0) z = (roF T p i).1 (11, 0, 0) z := fun z => by rw [upI_1, if_neg (by simp)]
  refine ⟨?_, ?_, ?_, ?_, ?_, ?_, ?_, ?_, ?_⟩
  · intro g hg
    rw [offF_lk, e1, roF_z (by omega) (by omega) (by omega)]
    exact m1 g hg
  · intro h w hh hw
    rw [e1, show (roF T p i).1 (11, 0, 0) (12 + 4 * h + w) = gH (roF T p i) h w from rfl, offF_H, roF_H (by omega) hw (by omega) (by omega), eA, h4]
    have a2 := m2 i 2 hi (by decide)
    have a1 := m2 i 1 hi (by decide)
    rw [a2, a1, m2 h w hh hw]
    rfl
  · intro q w hq hw
    rw [e1, show (roF T p i).1 (11, 0, 0) (36 + 11 * q + w) = gP (roF T p i) q w from rfl, offF_P, roF_P (by omega) hw (by omega) (by omega)]
    exact m3 q w hq hw
  · intro q w hq hw
    rw [e1, show (roF T p i).1 (11, 0, 0) (168 + 6 * q + w) = gL (roF T p i) q w from rfl, offF_L, roF_L (by omega) hw (by omega) (by omega), m4 q w hq hw]
    unfold offV roV
    rw [eO, eW, eA]
    rfl
  · intro q w hq hw
    rw [show (upI (roF T p i) (11, 14, 0) p v).2.1 (11, 5, 0) (8 * q + w) = gC (roF T p i) q w from rfl, roF_C (by omega), if_neg (by omega), offF_J]
    exact m5 q w hq hw
  · intro q hq
    rw [show (upI (roF T p i) (11, 14, 0) p v).2.1 (11, 5, 0) (8 * q + 6) = gC (roF T p i) q 6 from rfl, show (upI (roF T p i) (11, 14, 0) p v).2.1 (11, 5, 0) (8 * q + 7) = gC (roF T p i) q 7 from rfl, roF_C (by decide), roF_C (by decide), offF_J, if_neg (by omega : ¬ (q = p ∧ 7 = 6))]
    refine ⟨?_, (m6 q hq).2⟩
    dsimp only
    by_cases hqp : q = p
    · subst hqp
      rw [if_pos rfl, if_pos ⟨rfl, rfl⟩, ← eA, ← h4, ← Int64.add_assoc, (m6 q hq).1]
      rfl
    · rw [if_neg hqp, if_neg (fun e => hqp e.1)]
      exact (m6 q hq).1
  · intro q h hq hh
    rw [e1, offF_hr, roF_hi (by omega) (by omega) (by omega)]
    exact m7 q h hq hh
  · intro h hh
    rw [offF_J, show (upI (roF T p i) (11, 14, 0) p v).2.1 (11, 5, 0) (96 + h) = (roF T p i).2.1 (11, 5, 0) (96 + h) from rfl, roF_nm (by omega) (by omega)]
    exact m8 h hh
  · intro q hq
    rw [offF_J, show (upI (roF T p i) (11, 14, 0) p v).2.1 (11, 5, 0) (102 + q) = (roF T p i).2.1 (11, 5, 0) (102 + q) from rfl, roF_nm (by omega) (by omega)]
    exact m9 q hq
/-- what a slot asks of the link -/
def Bok (S : St) (k n nh : Nat) : Prop := n ≤ 12 ∧ nh ≤ 6 ∧ 0 ≤ S.1 (12, k, 0) 2 ∧ (∀ p, p < n → (S.1 (17, k, p) 11 = 0 ∨ S.1 (17, k, p) 11 = 1)) ∧ (∀ p, p < n → ¬ S.1 (17, k, p) 1 < 0 ∧ hisF S k p < nh)
theorem ofL_p : ∀ j, (ofL S k j).1 (17, k, q) g = S.1 (17, k, q) g := by
  intro j
  induction j with
  | zero => rfl
  | succ j ih => unfold ofL; rw [offF_P, ih]
theorem ofL_pr : ∀ j, (ofL S k j).1 (12, k, 0) g = S.1 (12, k, 0) g := by
  intro j
  induction j with
  | zero => rfl
  | succ j ih => unfold ofL; rw [offF_lk, ih]
theorem off_loop (hM : Mit k S T n nh (fun _ => 0) (fun _ => 0)) (hB : Bok S k n nh) : ∀ j, j ≤ n → Mit k (ofL S k j) (rpO T j) n nh (fun p => if p < j then (adm (ofL S k j) k p * S.1 (12, k, 0) 2).toInt64 else 0) (fun _ => 0) ∧ (∀ p, p < j → (rpO T j).1 (11, 12, 0) p = adm (ofL S k j) k p ∧ (rpO T j).1 (11, 13, 0) p = adm (ofL S k j) k p ∧ (rpO T j).1 (11, 14, 0) p = S.1 (17, k, p) 7) := by
  obtain ⟨hn, hnh, hpr, hon, hhs⟩ := hB
  intro j
  induction j with
  | zero =>
    intro _
    refine ⟨?_, fun p hp => absurd hp (Nat.not_lt_zero p)⟩
    have e : (fun p => if p < 0 then (adm (ofL S k 0) k p * S.1 (12, k, 0) 2).toInt64 else 0) = (fun _ : Nat => (0 : Int64)) := by funext p; rw [if_neg (Nat.not_lt_zero p)]
    rw [e]
    exact hM
  | succ j ih =>
    intro hj
    obtain ⟨ihM, ihA⟩ := ih (by omega)
    have hi := (hhs j (by omega)).2
    have hh : rh T j = hisF S k j := by
      unfold rh hisF gP
      rw [← hM.2.2.1 j 0 (by omega) (by decide)]
    have st := off_step (v := gP (roF (rpO T j) j (rh T j)) j 6) ihM hn hnh (p := j) (by omega) hi (by rw [ofL_p]; exact hon j (by omega)) (by rw [ofL_pr]; exact hpr)
    rw [ofL_pr] at st
    have eS : ofL S k (j + 1) = offF (ofL S k j) k j (hisF S k j) (S.1 (12, k, 0) 2) := rfl
    have eT : rpO T (j + 1) = upI (roF (rpO T j) j (rh T j)) (11, 14, 0) j (gP (roF (rpO T j) j (rh T j)) j 6) := rfl
    have eA := off_A ihM (p := j) (by omega) hi (by rw [ofL_p]; exact hon j (by omega)) (by rw [ofL_pr]; exact hpr)
    rw [ofL_pr] at eA
    have ead := adm_off (S := ofL S k j) (k := k) (p := j) (i := hisF S k j) (pr := S.1 (12, k, 0) 2)
    rw [eS, eT]
    constructor
    · rw [hh] at st ⊢
      have e : (fun p => if p < j + 1 then (adm (offF (ofL S k j) k j (hisF S k j) (S.1 (12, k, 0) 2)) k p * S.1 (12, k, 0) 2).toInt64 else 0) = (fun q => if q = j then (if j < j then (adm (ofL S k j) k j * S.1 (12, k, 0) 2).toInt64 else 0) + (offA (ofL S k j) k j (hisF S k j) (S.1 (12, k, 0) 2) * S.1 (12, k, 0) 2).toInt64 else (if q < j then (adm (ofL S k j) k q * S.1 (12, k, 0) 2).toInt64 else 0)) := by
        funext q
        by_cases hq : q = j
        · subst hq
          rw [if_pos (by omega), if_pos rfl, if_neg (by omega), ead, Int64.zero_add]
        · rw [if_neg hq, adm_off' hq]
          by_cases hlt : q < j
          · rw [if_pos (by omega), if_pos hlt]
          · rw [if_neg (by omega), if_neg hlt]
      rw [e]
      exact st
    · intro p hp
      rw [hh]
      by_cases hpj : p = j
      · subst hpj
        rw [ead]
        have hj12 : p < 12 := by omega
        have hi6 : hisF S k p < 6 := by omega
        refine ⟨?_, ?_, ?_⟩
        · rw [upI_1, if_neg (by simp)]; unfold roF; simp [upI_1, eA]
        · rw [upI_1, if_neg (by simp)]; unfold roF; simp [upI_1, eA]
        · rw [upI_1, if_pos ⟨rfl, rfl⟩, roF_P hj12 (by decide) hj12 hi6, show gP (rpO T p) p 6 = (rpO T p).1 (11, 0, 0) (36 + 11 * p + 6) from rfl, ← ihM.2.2.1 p 6 (by omega) (by decide), ofL_p]
      · obtain ⟨a1, a2, a3⟩ := ihA p (by omega)
        rw [adm_off' hpj]
        refine ⟨?_, ?_, ?_⟩
        · rw [upI_1, if_neg (by simp)]
          unfold roF
          rw [upI_1, if_neg (by simp), upI_1, if_neg (by simp [hpj])]
          unfold sC
          rw [upJ_1]
          unfold sH roL sL
          simp [upI_1]
          exact a1
        · rw [upI_1, if_neg (by simp)]
          unfold roF
          rw [upI_1, if_neg (by simp [hpj]), upI_1, if_neg (by simp)]
          unfold sC
          rw [upJ_1]
          unfold sH roL sL
          simp [upI_1]
          exact a2
        · rw [upI_1, if_neg (by simp [hpj])]
          unfold roF
          rw [upI_1, if_neg (by simp), upI_1, if_neg (by simp)]
          unfold sC
          rw [upJ_1]
          unfold sH roL sL
          simp [upI_1]
          exact a3
end LK2
