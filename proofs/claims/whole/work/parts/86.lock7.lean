section LK7
variable {n nh t k p i j h w q g z : Nat} {S T U : St} {d6 d7 : Nat → Int64} {v pr y u s l : Int32}
theorem toInt_sub' {a b : Nat} (ha : a < 2 ^ 30) (hb : b < 2 ^ 30) : (Int32.ofNat a - Int32.ofNat b).toInt = (a : Int) - b := by
  rw [Int32.toInt_sub, Int32.toInt_ofNat_small (by omega), Int32.toInt_ofNat_small (by omega)]
  apply Int.bmod_eq_of_le <;> omega
theorem Aux_fr {S' T' : St} (h : Aux k S T n) (h1 : ∀ p, adm S' k p = adm S k p) (h2 : ∀ p, snt S' k p = snt S k p) (h3 : ∀ p, S'.1 (17, k, p) 7 = S.1 (17, k, p) 7) (h4 : ∀ o, o ≠ (11, 0, 0) → T'.1 o = T.1 o) : Aux k S' T' n := by
  intro p hp
  rw [h1, h2, h3, h4 _ (by simp), h4 _ (by simp), h4 _ (by simp)]
  exact h p hp
theorem rdA_oo {o : Ob} (ho : o ≠ (11, 0, 0)) : ∀ j, (rdA T y u s j).1.1 o = T.1 o := by
  intro j
  induction j with
  | zero => rfl
  | succ j ih => unfold rdA sL; dsimp only; rw [upI_fun' _ _ _ ho]; exact ih
theorem rdB_oo {o : Ob} (ho : o ≠ (11, 0, 0)) : ∀ j, (rdB T y l j).1.1 o = T.1 o := by
  intro j
  induction j with
  | zero => rfl
  | succ j ih =>
    unfold rdB
    split
    · unfold sL; dsimp only; rw [upI_fun' _ _ _ ho]; exact ih
    · exact ih
theorem rdB_0 : ∀ j, rdB T y 0 j = (T, 0) := by
  intro j
  induction j with
  | zero => rfl
  | succ j ih =>
    unfold rdB
    rw [ih, if_neg (fun e => absurd (show (0 : Int32) < 0 from e.1) (by decide))]
theorem adm_A {j : Nat} : adm (daA S k y u s j).1 k p = adm S k p := by unfold adm; simp [daA_o]
theorem adm_B {j : Nat} : adm (daB S k y l j).1 k p = adm S k p := by unfold adm; simp [daB_o]
theorem adm_da : adm (daF S k n y u s) k p = adm S k p := by unfold adm; simp [daF_o]
theorem snt_da : snt (daF S k n y u s) k p = snt S k p := by unfold snt; rw [adm_da, daF_o (by simp)]
theorem hy_da : hyF (daF S k n y u s) k p = hyF S k p := by unfold hyF; rw [daF_o (by simp)]
theorem rs_sum (hX : Mix k S T n nh d6 d7) (hA : Aux k S T n) : sumF (rsF T y) n = sumF (sbF S k y) n := by
  refine sumF_congr n (fun p hp => ?_)
  unfold rsF sbF
  have hg := hy_rg (y := y) hX hp
  by_cases e : hyF S k p = y
  · rw [if_pos e, if_pos (by rw [hg]; exact e), (hA p hp).2.1]
    rfl
  · rw [if_neg e, if_neg (by rw [hg]; exact e)]
theorem sb_sum (h : Sbd S k n) : sumF (sbF S k y) n = Int32.ofNat (sumN (gN S k y) n) := sumF_oN n (fun p hp => sbF_gN h hp)
theorem gsum_le (h : Sbd S k n) (hn : n ≤ 12) : sumN (gN S k y) n ≤ 11988 := by
  have h1 : ∀ m, m ≤ n → sumN (gN S k y) m ≤ 999 * m := by
    intro m
    induction m with
    | zero => intro _; exact Nat.le_refl _
    | succ m ih => intro hm; have := ih (by omega); have := gN_le (y := y) h (p := m) (by omega); unfold sumN; omega
  have := h1 n (Nat.le_refl n)
  omega
theorem rdF_mix (hX : Mix k S T n nh d6 d7) (hA : Aux k S T n) (h : Sbd S k n) (hn : n ≤ 12) (hnh : nh ≤ 6) {a b : Nat} (hb : b = sumN (gN S k y) n) (ha : a ≤ b) (h4 : ∀ p, p < n → hyF S k p = y → S.1 (18, k, p) 4 = 0) : Mix k (daF S k n y (Int32.ofNat a) (Int32.ofNat b)) (rdF T n (Int32.ofNat a) y).1 n nh d6 d7 ∧ (rdF T n (Int32.ofNat a) y).2 = 0 ∧ Aux k (daF S k n y (Int32.ofNat a) (Int32.ofNat b)) (rdF T n (Int32.ofNat a) y).1 n := by
  have hb9 := gsum_le (y := y) h hn
  have hs : sumF (rsF T y) n = Int32.ofNat b := by rw [rs_sum hX hA, sb_sum h, hb]
  have l0 : ((0 : Int32) < Int32.ofNat b) = (0 < b) := by rw [show (0 : Int32) = Int32.ofNat 0 from rfl, oN_lt (by omega) (by decide)]
  unfold rdF daF
  rw [hs]
  by_cases h0 : 0 < b
  · rw [if_pos (by rw [l0]; exact h0), if_pos (by rw [l0]; exact h0)]
    have m1 := daA_mix (u := Int32.ofNat a) (s := Int32.ofNat b) hX hA hn hnh h4 n (Nat.le_refl n)
    have hA1 : Aux k (daA S k y (Int32.ofNat a) (Int32.ofNat b) n).1 (rdA T y (Int32.ofNat a) (Int32.ofNat b) n).1 n := Aux_fr hA (fun p => adm_A) (fun p => sntA) (fun p => daA_o (by simp) n) (fun o ho => rdA_oo ho n)
    have m2 := daB_mix (y := y) (l := (daA S k y (Int32.ofNat a) (Int32.ofNat b) n).2) m1.1 hA1 hn hnh n (Nat.le_refl n)
    have hz := da_zero h hn hb h0 ha (by omega)
    rw [m1.2.1] at m2 hz
    rw [m2.2] at hz
    rw [m1.2.1]
    refine ⟨m2.1, hz, ?_⟩
    exact Aux_fr hA1 (fun p => adm_B) (fun p => sntB) (fun p => daB_o (by simp) n) (fun o ho => rdB_oo ho n)
  · rw [if_neg (by rw [l0]; exact h0), if_neg (by rw [l0]; exact h0)]
    have ha0 : a = 0 := by omega
    subst ha0
    rw [show Int32.ofNat 0 = 0 from rfl, rdB_0]
    exact ⟨hX, rfl, hA⟩
theorem hy_01 : hyF S k p = 0 ∨ hyF S k p = 1 := by
  unfold hyF
  split
  · exact Or.inr rfl
  · exact Or.inl rfl
theorem tot_mem {V : St} : sumF (fun p => V.1 (18, k, p) 4) n = sumF (memF S V k 0) n + sumF (memF S V k 1) n := by
  induction n with
  | zero => rfl
  | succ n ih =>
    unfold sumF
    rw [ih]
    have e : V.1 (18, k, n) 4 = memF S V k 0 n + memF S V k 1 n := by
      unfold memF
      rcases hy_01 (S := S) (k := k) (p := n) with e | e
      · rw [e, if_pos rfl, if_neg (by decide), Int32.add_zero]
      · rw [e, if_neg (by decide), if_pos rfl, Int32.zero_add]
    rw [e, Int32.add_assoc, Int32.add_assoc, ← Int32.add_assoc (sumF (memF S V k 1) n), Int32.add_comm (sumF (memF S V k 1) n), Int32.add_assoc]
/-- dropExcess on both sides -/
theorem dex_mix (hX : Mix k S T n nh d6 d7) (hA : Aux k S T n) (h : Sbd S k n) (hn : n ≤ 12) (hnh : nh ≤ 6) {c : Nat} (hc : S.1 (12, k, 0) 0 = Int32.ofNat c) (hc2 : T.1 (11, 0, 0) 2 = Int32.ofNat c) (hc9 : c ≤ 9999) (h4 : ∀ p, p < n → S.1 (18, k, p) 4 = 0) : Mix k (deF S k n) (rxF T n) n nh d6 d7 ∧ Rone T n ∧ Aux k (deF S k n) (rxF T n) n ∧ sumF (fun p => (deF S k n).1 (18, k, p) 4) n = deV S k n := by
  have b0 := gsum_le (y := 0) h hn
  have b1 := gsum_le (y := 1) h hn
  have e0 := sb_sum (y := 0) h
  have e1 := sb_sum (y := 1) h
  have r0 := rs_sum (y := 0) hX hA
  have r1 := rs_sum (y := 1) hX hA
  generalize hB0 : sumN (gN S k 0) n = B0 at *
  generalize hB1 : sumN (gN S k 1) n = B1 at *
  have eX : exF S k n = Int32.ofNat (B0 + B1) - Int32.ofNat c := by unfold exF; rw [e0, e1, hc, oN_add]
  have eR : rxE T n = Int32.ofNat (B0 + B1) - Int32.ofNat c := by unfold rxE; rw [r0, r1, e0, e1, hc2, oN_add]
  by_cases hx : c < B0 + B1
  · have eX2 : Int32.ofNat (B0 + B1) - Int32.ofNat c = Int32.ofNat (B0 + B1 - c) := oN_sub (by omega)
    rw [eX2] at eX eR
    have hpos : (0 : Int32) < Int32.ofNat (B0 + B1 - c) := by rw [show (0 : Int32) = Int32.ofNat 0 from rfl, oN_lt (by omega) (by decide)]; omega
    generalize hxx : B0 + B1 - c = x at *
    have hO : imin (Int32.ofNat x) (Int32.ofNat B0) = Int32.ofNat (min x B0) := by
      unfold imin
      by_cases hle : B0 < x
      · rw [if_pos (by rw [oN_lt (by omega) (by omega)]; exact hle), Nat.min_eq_right (by omega)]
      · rw [if_neg (by rw [oN_lt (by omega) (by omega)]; exact hle), Nat.min_eq_left (by omega)]
    have hQ : imax 0 (Int32.ofNat x - Int32.ofNat B0) = Int32.ofNat (x - min x B0) := by
      unfold imax
      by_cases hle : B0 < x
      · rw [oN_sub (by omega), Nat.min_eq_right (by omega), if_pos (by rw [show (0 : Int32) = Int32.ofNat 0 from rfl, oN_lt (by omega) (by decide)]; omega)]
      · rw [Nat.min_eq_left (by omega), Nat.sub_self, if_neg (by
          rw [Int32.lt_iff_toInt_lt, toInt_sub' (by omega) (by omega), show (0 : Int32).toInt = 0 from rfl]
          omega)]
        rfl
    have hU : Int32.ofNat x - Int32.ofNat (min x B0) = Int32.ofNat (x - min x B0) := oN_sub (by omega)
    have m1 := rdF_mix (y := 0) (a := min x B0) (b := B0) hX hA h hn hnh hB0.symm (by omega) (fun p hp _ => h4 p hp)
    have s1 := daF_sum (y := 0) (a := min x B0) (b := B0) h hn hB0.symm (by omega) (by omega) (fun p hp _ => h4 p hp)
    generalize hS1 : daF S k n 0 (Int32.ofNat (min x B0)) (Int32.ofNat B0) = S1 at *
    have hhy : ∀ p, hyF S1 k p = hyF S k p := fun p => by rw [← hS1]; exact hy_da
    have hsn : ∀ p, snt S1 k p = snt S k p := fun p => by rw [← hS1]; exact snt_da
    have hSb : Sbd S1 k n := fun p hp => by unfold sN; rw [hsn]; exact h p hp
    have hgn : gN S1 k 1 = gN S k 1 := by funext p; unfold gN sN; rw [hhy, hsn]
    have h41 : ∀ p, p < n → hyF S1 k p = 1 → S1.1 (18, k, p) 4 = 0 := fun p hp e => by
      rw [hhy] at e
      rw [← hS1, daF_oth (by rw [e]; decide)]
      exact h4 p hp
    have m2 := rdF_mix (y := 1) (a := x - min x B0) (b := B1) m1.1 m1.2.2 hSb hn hnh (by rw [hgn]; exact hB1.symm) (by omega) h41
    have s2 := daF_sum (y := 1) (a := x - min x B0) (b := B1) hSb hn (by rw [hgn]; exact hB1.symm) (by omega) (by omega) h41
    have eS : deF S k n = daF S1 k n 1 (Int32.ofNat (x - min x B0)) (Int32.ofNat B1) := by
      unfold deF deO
      rw [eX, e0, e1, hO, hS1, hU, if_pos hpos]
    have f1 : rx1 T n = rdF T n (Int32.ofNat (min x B0)) 0 := by unfold rx1; rw [eR, r0, e0, hO]
    have f2 : rx2 T n = rdF (rx1 T n).1 n (Int32.ofNat (x - min x B0)) 1 := by unfold rx2; rw [eR, r0, e0, hQ]
    have eT : rxF T n = (rdF (rdF T n (Int32.ofNat (min x B0)) 0).1 n (Int32.ofNat (x - min x B0)) 1).1 := by
      unfold rxF
      rw [eR, if_pos hpos, f2, f1]
    refine ⟨?_, ?_, ?_, ?_⟩
    · rw [eS, eT]; exact m2.1
    · unfold Rone
      intro _
      rw [f2, f1, m1.2.1, m2.2.1]
      exact ⟨by decide, by decide⟩
    · rw [eS, eT]; exact m2.2.2
    · rw [eS, tot_mem (S := S1)]
      have c0 : sumF (memF S1 (daF S1 k n 1 (Int32.ofNat (x - min x B0)) (Int32.ofNat B1)) k 0) n = sumF (memF S S1 k 0) n := by
        refine sumF_congr n (fun p hp => ?_)
        unfold memF
        rw [hhy]
        by_cases e : hyF S k p = 0
        · rw [if_pos e, if_pos e, daF_oth (by rw [hhy, e]; decide)]
        · rw [if_neg e, if_neg e]
      rw [c0, s1, s2, oN_add]
      unfold deV
      rw [eX, if_pos hpos]
      congr 1
      omega
  · have hneg : ¬ (0 : Int32) < Int32.ofNat (B0 + B1) - Int32.ofNat c := by
      rw [Int32.lt_iff_toInt_lt, toInt_sub' (by omega) (by omega), show (0 : Int32).toInt = 0 from rfl]
      omega
    have eS : deF S k n = S := by unfold deF; rw [eX, if_neg hneg]
    have eT : rxF T n = T := by unfold rxF; rw [eR, if_neg hneg]
    rw [eS, eT]
    refine ⟨hX, ?_, hA, ?_⟩
    · unfold Rone
      rw [eR]
      exact fun e => absurd e hneg
    · unfold deV
      rw [eX, if_neg hneg]
      exact sumF_0 n h4
end LK7
