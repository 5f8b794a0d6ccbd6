section NU4
variable {n nh t k p i j h w q g z : Nat} {S T U V : St} {a b c v y pr rf : Int32}
/-- drops are within what was sent -/
def Dbd (S : St) (k n : Nat) : Prop := ∀ p, p < n → 0 ≤ (S.1 (18, k, p) 4).toInt ∧ (S.1 (18, k, p) 4).toInt ≤ (snt S k p).toInt
theorem oN_toInt {b : Nat} (h : b < 2 ^ 31) : (Int32.ofNat b).toInt = b := Int32.toInt_ofNat_of_lt h
theorem snt_toInt (h : Sbd S k n) (hp : p < n) : (snt S k p).toInt = sN S k p := by
  have := (h p hp).2
  rw [(h p hp).1, oN_toInt (by omega)]
theorem daB_bd (hs : ∀ p, p < n → (snt S k p).toInt ≤ 999) (hD : Dbd S k n) {l : Int32} : ∀ j, j ≤ n → Dbd (daB S k y l j).1 k n := by
  intro j
  induction j with
  | zero => intro _; exact hD
  | succ j ih =>
    intro hj p hp
    have ihp := ih (by omega)
    rw [sntB]
    have e := ihp p hp
    rw [sntB] at e
    unfold daB
    split
    · rename_i hc
      dsimp only
      rw [upI_1]
      by_cases hpj : p = j
      · subst hpj
        rw [if_pos ⟨rfl, rfl⟩]
        have hc2 := hc.2.2
        rw [ltI] at hc2
        have h9 := hs p hp
        rw [addI (by rw [show (1 : Int32).toInt = 1 from rfl]; omega) (by rw [show (1 : Int32).toInt = 1 from rfl]; omega), show (1 : Int32).toInt = 1 from rfl]
        omega
      · rw [if_neg (by simp [hpj])]
        exact e
    · exact e
theorem daF_bd (h : Sbd S k n) (hn : n ≤ 12) {a b : Nat} (hb : b = sumN (gN S k y) n) (ha : a ≤ b) (hb2 : b < 2 ^ 31) (hD : Dbd S k n) : Dbd (daF S k n y (Int32.ofNat a) (Int32.ofNat b)) k n := by
  unfold daF
  split
  · rename_i h0
    have h0' : 0 < b := by rw [show (0 : Int32) = Int32.ofNat 0 from rfl, oN_lt hb2 (by decide)] at h0; exact h0
    have hA := daA_left (y := y) h hn hb h0' ha n (Nat.le_refl n)
    refine daB_bd (fun p hp => ?_) (fun p hp => ?_) n (Nat.le_refl n)
    · rw [sntA, snt_toInt h hp]
      have := (h p hp).2
      omega
    · rw [sntA, hA.2 p hp]
      by_cases e : p < n ∧ hyF S k p = y
      · rw [if_pos e, snt_toInt h hp]
        have hg : gN S k y p = sN S k p := if_pos e.2
        have h9 := (h p hp).2
        have hq : a * gN S k y p / b ≤ sN S k p := by
          rw [hg]
          exact Nat.div_le_of_le_mul (Nat.mul_le_mul_right _ ha)
        generalize a * gN S k y p / b = qq at hq ⊢
        rw [oN_toInt (by omega)]
        omega
      · rw [if_neg e]
        exact hD p hp
  · exact hD
/-- what is dropped: the two cases -/
theorem deF_cases (h : Sbd S k n) (hn : n ≤ 12) {c : Nat} (hc : S.1 (12, k, 0) 0 = Int32.ofNat c) (hc9 : c ≤ 9999) : (deF S k n = S ∧ deV S k n = 0 ∧ sumN (gN S k 0) n + sumN (gN S k 1) n ≤ c) ∨ ∃ x, c + x = sumN (gN S k 0) n + sumN (gN S k 1) n ∧ 0 < x ∧ deV S k n = Int32.ofNat x ∧ deF S k n = daF (daF S k n 0 (Int32.ofNat (min x (sumN (gN S k 0) n))) (Int32.ofNat (sumN (gN S k 0) n))) k n 1 (Int32.ofNat (x - min x (sumN (gN S k 0) n))) (Int32.ofNat (sumN (gN S k 1) n)) := by
  have b0 := gsum_le (y := 0) h hn
  have b1 := gsum_le (y := 1) h hn
  have e0 := sb_sum (y := 0) h
  have e1 := sb_sum (y := 1) h
  generalize hB0 : sumN (gN S k 0) n = B0 at *
  generalize hB1 : sumN (gN S k 1) n = B1 at *
  have eX : exF S k n = Int32.ofNat (B0 + B1) - Int32.ofNat c := by unfold exF; rw [e0, e1, hc, oN_add]
  by_cases hx : c < B0 + B1
  · refine Or.inr ⟨B0 + B1 - c, by omega, by omega, ?_⟩
    have eX2 : Int32.ofNat (B0 + B1) - Int32.ofNat c = Int32.ofNat (B0 + B1 - c) := oN_sub (by omega)
    rw [eX2] at eX
    have hpos : (0 : Int32) < Int32.ofNat (B0 + B1 - c) := by rw [show (0 : Int32) = Int32.ofNat 0 from rfl, oN_lt (by omega) (by decide)]; omega
    generalize hxx : B0 + B1 - c = x at *
    have hO : imin (Int32.ofNat x) (Int32.ofNat B0) = Int32.ofNat (min x B0) := by
      unfold imin
      by_cases hle : B0 < x
      · rw [if_pos (by rw [oN_lt (by omega) (by omega)]; exact hle), Nat.min_eq_right (by omega)]
      · rw [if_neg (by rw [oN_lt (by omega) (by omega)]; exact hle), Nat.min_eq_left (by omega)]
    have hU : Int32.ofNat x - Int32.ofNat (min x B0) = Int32.ofNat (x - min x B0) := oN_sub (by omega)
    refine ⟨?_, ?_⟩
    · unfold deV
      rw [eX, if_pos hpos]
    · unfold deF deO
      rw [eX, e0, e1, hO, hU, if_pos hpos]
  · have hneg : ¬ (0 : Int32) < Int32.ofNat (B0 + B1) - Int32.ofNat c := by
      rw [Int32.lt_iff_toInt_lt, toInt_sub' (by omega) (by omega), show (0 : Int32).toInt = 0 from rfl]
      omega
    exact Or.inl ⟨by unfold deF; rw [eX, if_neg hneg], by unfold deV; rw [eX, if_neg hneg], by omega⟩
theorem deF_bd (h : Sbd S k n) (hn : n ≤ 12) {c : Nat} (hc : S.1 (12, k, 0) 0 = Int32.ofNat c) (hc9 : c ≤ 9999) (hD : Dbd S k n) : Dbd (deF S k n) k n := by
  have b0 := gsum_le (y := 0) h hn
  have b1 := gsum_le (y := 1) h hn
  rcases deF_cases h hn hc hc9 with e | ⟨x, e1, e2, _, e3⟩
  · rw [e.1]; exact hD
  · rw [e3]
    have d1 := daF_bd (y := 0) (a := min x (sumN (gN S k 0) n)) h hn rfl (by omega) (by omega) hD
    generalize hS1 : daF S k n 0 (Int32.ofNat (min x (sumN (gN S k 0) n))) (Int32.ofNat (sumN (gN S k 0) n)) = S1 at *
    have hhy : ∀ p, hyF S1 k p = hyF S k p := fun p => by rw [← hS1]; exact hy_da
    have hsn : ∀ p, snt S1 k p = snt S k p := fun p => by rw [← hS1]; exact snt_da
    have hSb : Sbd S1 k n := fun p hp => by unfold sN; rw [hsn]; exact h p hp
    have hgn : gN S1 k 1 = gN S k 1 := by funext p; unfold gN sN; rw [hhy, hsn]
    exact daF_bd (y := 1) hSb hn (by rw [hgn]) (by omega) (by omega) d1
theorem deV_num (h : Sbd S k n) (hn : n ≤ 12) {c : Nat} (hc : S.1 (12, k, 0) 0 = Int32.ofNat c) (hc9 : c ≤ 9999) : 0 ≤ (deV S k n).toInt ∧ (deV S k n).toInt ≤ 23976 := by
  have b0 := gsum_le (y := 0) h hn
  have b1 := gsum_le (y := 1) h hn
  rcases deF_cases h hn hc hc9 with e | ⟨x, e1, e2, e4, e3⟩
  · rw [e.2.1]; exact ⟨by decide, by decide⟩
  · rw [e4, oN_toInt (by omega)]; omega
theorem psV_num (hN : Num S k n nh) : 0 ≤ (psV S k n).toInt ∧ (psV S k n).toInt ≤ 23976 := by
  have hP := ps2_num (yok_of hN)
  have h0 := (Nok_of hN).2.1
  obtain ⟨c, hc, hc9⟩ := h0
  unfold psV
  exact deV_num hP.1 hN.1 (by rw [ps2_lk (by decide), ofL_pr]; exact hc) hc9
theorem ptF_P : (ptF S k nh).1 (17, k, q) g = S.1 (17, k, q) g := by
  unfold ptF
  split
  · rw [ptL_o (by simp) (by simp)]
    unfold ptT
    rw [upI_1, if_neg (by simp)]
  · unfold ptT
    rw [upI_1, if_neg (by simp)]
theorem ptF_H1 : (ptF S k nh).1 (16, k, h) 2 = S.1 (16, k, h) 2 := by
  have e : (ptT S k).1 (16, k, h) 2 = S.1 (16, k, h) 2 := by unfold ptT; rw [upI_1, if_neg (by simp)]
  unfold ptF
  split
  · rw [ptL_H (w := 1), if_neg (by omega), e]
  · exact e
theorem dvL_H1 : ∀ j, (dvL S k j).1 (16, k, h) 2 = S.1 (16, k, h) 2 := by
  intro j
  induction j with
  | zero => rfl
  | succ j ih => unfold dvL; rw [dlvF_H (w := 1), if_neg (by omega), ih]
/-- behind the deliveries -/
def ps5 (S : St) (k n : Nat) : St := dvL (ps3 (ps2 (ofL S k n) k n) k n) k n
theorem psF_eq : psF S k n nh = ptF (laF (ps5 S k n) k (ldF (ps5 S k n) k n).2 n) k nh := rfl
theorem ps5_P : (ps5 S k n).1 (17, k, q) g = S.1 (17, k, q) g := by
  unfold ps5
  rw [dvL_P, ps3_o (by simp) (Or.inl (by simp)), ps2_P, ofL_p]
theorem ps5_k (hg : g ≠ 6 ∧ g ≠ 7 ∧ g ≠ 8) : (ps5 S k n).1 (12, k, 0) g = S.1 (12, k, 0) g := by
  unfold ps5
  rw [dvL_k, ps3_o (by simp) (Or.inr hg.2.1), ps2_lk ⟨hg.1, hg.2.2⟩, ofL_pr]
theorem psF_k (hg : g ≠ 5 ∧ g ≠ 6 ∧ g ≠ 7 ∧ g ≠ 8) : (psF S k n nh).1 (12, k, 0) g = S.1 (12, k, 0) g := by
  rw [psF_eq, ptF_lk hg.1, laF_k, ps5_k hg.2]
theorem psF_5 : (psF S k n nh).1 (12, k, 0) 5 = S.1 (12, k, 0) 5 + 1 := by
  rw [psF_eq, ptF_5, laF_k, ps5_k (by decide)]
theorem psF_f (hg : g ≠ 3 ∧ g ≠ 7 ∧ g ≠ 10) : (psF S k n nh).1 (17, k, q) g = S.1 (17, k, q) g := by
  rw [psF_eq, ptF_P, laF_f hg, ps5_P]
theorem psF_H1 : (psF S k n nh).1 (16, k, h) 2 = (ps2 (ofL S k n) k n).1 (16, k, h) 2 := by
  rw [psF_eq, ptF_H1, laF_o' (by simp)]
  unfold ps5
  rw [dvL_H1, ps3_o (by simp) (Or.inl (by simp))]
/-- THE SLOT keeps the bounds -/
theorem psF_num (hN : Num S k n nh) : Num (psF S k n nh) k n nh := by
  have hP := ps2_num (yok_of hN)
  obtain ⟨hn, hnh, hcap, hthr, hpr, hrf, hfg, hon, hhs, hkd, hrt, hpg, hbl⟩ := hN
  have hB0 : ∀ p, p < n → pgB (ps5 S k n) k p := fun p hp => by
    unfold pgB
    rw [ps5_P, ps5_P, ps5_P, ps5_P, ps5_P, ps5_P, ps5_P]
    exact ⟨hrt p hp, hpg p hp⟩
  have hl : (ldF (ps5 S k n) k n).2.toInt ≤ 100 := ldF_num (fun p hp => by rw [ps5_P]; exact (hpg p hp).2.2.2.1) n (Nat.le_refl n)
  have h3 : ∀ p, p < n → 0 ≤ ((ps5 S k n).1 (18, k, p) 3).toInt ∧ ((ps5 S k n).1 (18, k, p) 3).toInt ≤ 999 := fun p hp => by
    unfold ps5
    rw [dvL_L (by decide), ps3_o (by simp) (Or.inl (by simp))]
    exact hP.2.1 p hp
  have hB := laF_num hB0 h3 hl (by rw [ps5_k (by decide)]; exact hfg) n (Nat.le_refl n)
  have hB2 : ∀ p, p < n → pgB (psF S k n nh) k p := fun p hp => by
    have := hB p hp
    rw [psF_eq]
    unfold pgB at this ⊢
    rw [ptF_P, ptF_P, ptF_P, ptF_P, ptF_P, ptF_P, ptF_P]
    exact this
  have k0 := psF_k (S := S) (k := k) (n := n) (nh := nh) (g := 0) (by decide)
  have k1 := psF_k (S := S) (k := k) (n := n) (nh := nh) (g := 1) (by decide)
  have k2 := psF_k (S := S) (k := k) (n := n) (nh := nh) (g := 2) (by decide)
  have k3 := psF_k (S := S) (k := k) (n := n) (nh := nh) (g := 3) (by decide)
  have k4 := psF_k (S := S) (k := k) (n := n) (nh := nh) (g := 4) (by decide)
  refine ⟨hn, hnh, by rw [k0]; exact hcap, by rw [k1]; exact hthr, by rw [k2]; exact hpr, by rw [k3, k2]; exact hrf, by rw [k4]; exact hfg, fun p hp => ?_, fun p hp => ?_, fun p hp => ?_, fun p hp => (hB2 p hp).1, fun p hp => (hB2 p hp).2, fun h hh => ?_⟩
  · rw [psF_f (by decide)]; exact hon p hp
  · unfold hisF
    rw [psF_f (by decide)]; exact hhs p hp
  · rw [psF_f (by decide)]; exact hkd p hp
  · rw [psF_H1]; exact hP.2.2 h hh
end NU4
