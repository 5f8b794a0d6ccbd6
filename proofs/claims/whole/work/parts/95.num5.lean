section NU5
variable {n nh t k p i j h w q g z : Nat} {S T U V : St} {a b c v y pr rf : Int32}
theorem add64 {x y : Int64} (h1 : -9223372036854775808 ≤ x.toInt + y.toInt) (h2 : x.toInt + y.toInt < 9223372036854775808) : (x + y).toInt = x.toInt + y.toInt := by
  rw [Int64.toInt_add]
  apply Int.bmod_eq_of_le <;> omega
theorem off_bds {pri : Int32} (hr : 0 ≤ (S.1 (17, k, p) 3).toInt ∧ (S.1 (17, k, p) 3).toInt ≤ 999) (hb : 0 ≤ (S.1 (16, k, i) 2).toInt) (hp0 : 0 ≤ pri.toInt) : 0 ≤ (offA S k p i pri).toInt ∧ (offA S k p i pri).toInt ≤ (offW S k p i).toInt ∧ (offW S k p i).toInt ≤ (offO S k p).toInt ∧ (offO S k p).toInt ≤ 999 := by
  have hO : 0 ≤ (offO S k p).toInt ∧ (offO S k p).toInt ≤ 999 := by
    unfold offO
    split
    · rw [show (0 : Int32).toInt = 0 from rfl]; omega
    · exact hr
  have hW : 0 ≤ (offW S k p i).toInt ∧ (offW S k p i).toInt ≤ (offO S k p).toInt := by
    unfold offW
    rw [iminI, imaxI, show (0 : Int32).toInt = 0 from rfl]
    omega
  have hA := offA_num (S := S) (k := k) (p := p) (i := i) hr hb hp0
  refine ⟨hA.1, ?_, hW.2, hO.2⟩
  unfold offA
  by_cases h0 : 0 < pri
  · rw [if_pos h0, iminI]
    omega
  · rw [if_neg h0]
    exact Int.le_refl _
theorem ofL_w (hN : Num S k n nh) : ∀ j, j ≤ n → ∀ p, p < j → ∀ w, w < 3 → 0 ≤ ((ofL S k j).1 (18, k, p) w).toInt ∧ ((ofL S k j).1 (18, k, p) w).toInt ≤ 999 := by
  have hL := ofL_num hN
  obtain ⟨hn, hnh, hcap, hthr, hpr, hrf, hfg, hon, hhs, hkd, hrt, hpg, hbl⟩ := hN
  intro j
  induction j with
  | zero => intro _ p hp; exact absurd hp (Nat.not_lt_zero p)
  | succ j ih =>
    intro hj p hp w hw
    have hr := hrt j (by omega)
    have hi := (hhs j (by omega)).2
    have hb := off_bds (S := ofL S k j) (k := k) (p := j) (i := hisF S k j) (pri := S.1 (12, k, 0) 2) (by rw [ofL_p]; omega) ((hL j (by omega)).2 _ hi).1 hpr.1
    rw [show ofL S k (j + 1) = offF (ofL S k j) k j (hisF S k j) (S.1 (12, k, 0) 2) from rfl, offF_L]
    by_cases e : p = j
    · rw [if_pos ⟨e, by omega⟩]
      unfold offV
      rcases (show w = 0 ∨ w = 1 ∨ w = 2 by omega) with e2 | e2 | e2
      · rw [if_pos e2]; omega
      · rw [if_neg (by omega), if_pos e2, subI (by omega) (by omega)]; omega
      · rw [if_neg (by omega), if_neg (by omega), if_pos e2, subI (by omega) (by omega)]; omega
    · rw [if_neg (fun e2 => e e2.1)]
      exact ih (by omega) p (by omega) w hw
/-- before the deliveries -/
def ps6 (S : St) (k n : Nat) : St := ps3 (ps2 (ofL S k n) k n) k n
theorem ps5_6 : ps5 S k n = dvL (ps6 S k n) k n := rfl
theorem ps6_in (hN : Num S k n nh) : (∀ p, p < n → ∀ w, w < 5 → 0 ≤ ((ps6 S k n).1 (18, k, p) w).toInt ∧ ((ps6 S k n).1 (18, k, p) w).toInt ≤ 999) ∧ (∀ p, p < n → 0 ≤ (dlvN (ps6 S k n) k p).toInt ∧ (dlvN (ps6 S k n) k p).toInt ≤ 999) := by
  have hP := ps2_num (yok_of hN)
  obtain ⟨c, hc, hc9⟩ := (Nok_of hN).2.1
  have hD0 : Dbd (ps2 (ofL S k n) k n) k n := fun p hp => by
    rw [ps2_L (by decide), ofL_34 (Or.inr rfl) n hp, show (0 : Int32).toInt = 0 from rfl, snt_toInt hP.1 hp]
    omega
  have hD := deF_bd hP.1 hN.1 (c := c) (by rw [ps2_lk (by decide), ofL_pr]; exact hc) hc9 hD0
  have h4 : ∀ p, p < n → 0 ≤ ((ps6 S k n).1 (18, k, p) 4).toInt ∧ ((ps6 S k n).1 (18, k, p) 4).toInt ≤ (snt (ps2 (ofL S k n) k n) k p).toInt := fun p hp => by
    unfold ps6
    rw [ps3_4]
    have h1 := hD p hp
    have e : snt (deF (ps2 (ofL S k n) k n) k n) k p = snt (ps2 (ofL S k n) k n) k p := by
      unfold snt adm
      rw [deF_o (by simp), deF_o (by simp), deF_o (by simp), deF_o (by simp)]
    rw [e] at h1
    exact h1
  have hs9 : ∀ p, p < n → (snt (ps2 (ofL S k n) k n) k p).toInt ≤ 999 := fun p hp => by
    rw [snt_toInt hP.1 hp]
    have := (hP.1 p hp).2
    omega
  constructor
  · intro p hp w hw
    by_cases e4 : w = 4
    · subst e4
      have := h4 p hp
      have := hs9 p hp
      omega
    · unfold ps6
      rw [ps3_o (by omega) (Or.inl (by simp))]
      by_cases e3 : w = 3
      · subst e3; exact hP.2.1 p hp
      · rw [ps2_L e3]
        exact ofL_w hN n (Nat.le_refl n) p hp w (by omega)
  · intro p hp
    have e : dlvN (ps6 S k n) k p = snt (ps2 (ofL S k n) k n) k p - (ps6 S k n).1 (18, k, p) 4 := by
      unfold dlvN snt adm ps6
      rw [ps3_o (g := 0) (by simp) (Or.inl (by simp)), ps3_o (g := 1) (by simp) (Or.inl (by simp)), ps3_o (g := 2) (by simp) (Or.inl (by simp)), ps3_o (g := 3) (by simp) (Or.inl (by simp))]
    have h1 := h4 p hp
    have h2 := hs9 p hp
    rw [e, subI (by omega) (by omega)]
    omega
theorem dvL_N : dlvN (dvL S k j) k p = dlvN S k p := by
  unfold dlvN
  rw [dvL_adm, dvL_L (by decide), dvL_L (by decide)]
theorem dvL_C (hw : w < 6) : ∀ j, (dvL S k j).2.1 (19, k, p) w = if p < j then S.2.1 (19, k, p) w + (if w = 5 then (dlvN S k p).toInt64 else (S.1 (18, k, p) w).toInt64) else S.2.1 (19, k, p) w := by
  intro j
  induction j with
  | zero => rw [if_neg (Nat.not_lt_zero p)]; rfl
  | succ j ih =>
    rw [show dvL S k (j + 1) = dlvF (dvL S k j) k j (hisF S k j) (S.1 (12, k, 0) 2) (S.1 (12, k, 0) 3) from rfl, dlvF_C (by omega)]
    by_cases e : p = j
    · subst e
      rw [if_pos rfl, if_pos (by omega), ih, if_neg (by omega)]
      congr 1
      unfold dlvC
      rw [dvL_N, if_neg (by omega : ¬ w = 6), if_neg (by omega : ¬ w = 7)]
      by_cases e5 : w = 5
      · rw [if_pos e5, if_pos e5]
      · rw [if_neg e5, if_neg e5, dvL_L e5]
    · rw [if_neg e, ih]
      by_cases hlt : p < j
      · rw [if_pos hlt, if_pos (show p < j + 1 by omega)]
      · rw [if_neg hlt, if_neg (show ¬ p < j + 1 by omega)]
theorem dvL_H4 (hd : ∀ p, p < n → 0 ≤ (dlvN S k p).toInt ∧ (dlvN S k p).toInt ≤ 999) (hn : n ≤ 12) (h0 : 0 ≤ (S.1 (16, k, h) 4).toInt ∧ (S.1 (16, k, h) 4).toInt < 1000000000) : ∀ j, j ≤ n → (S.1 (16, k, h) 4).toInt ≤ ((dvL S k j).1 (16, k, h) 4).toInt ∧ ((dvL S k j).1 (16, k, h) 4).toInt ≤ (S.1 (16, k, h) 4).toInt + 999 * j := by
  intro j
  induction j with
  | zero => intro _; exact ⟨Int.le_refl _, by show _ ≤ _ + 999 * ((0 : Nat) : Int); show (S.1 (16, k, h) 4).toInt ≤ _; omega⟩
  | succ j ih =>
    intro hj
    have i1 := ih (by omega)
    rw [show dvL S k (j + 1) = dlvF (dvL S k j) k j (hisF S k j) (S.1 (12, k, 0) 2) (S.1 (12, k, 0) 3) from rfl, dlvF_H (w := 3)]
    have hd2 := hd j (by omega)
    by_cases e : h = hisF S k j
    · rw [if_pos ⟨e, rfl⟩, ← e, dvL_N, addI (by omega) (by omega)]
      omega
    · rw [if_neg (fun e2 => e e2.1)]
      show _ ≤ ((dvL S k j).1 (16, k, h) 4).toInt ∧ ((dvL S k j).1 (16, k, h) 4).toInt ≤ _
      omega
/-- counts, deliveries and hours are bounded by the time -/
def Cok (S : St) (k n nh t : Nat) : Prop := (∀ p, p < n → ∀ w, w < 6 → 0 ≤ (S.2.1 (19, k, p) w).toInt ∧ (S.2.1 (19, k, p) w).toInt ≤ 999 * t) ∧ (∀ h, h < nh → 0 ≤ (S.1 (16, k, h) 4).toInt ∧ (S.1 (16, k, h) 4).toInt ≤ 11988 * ((t % 12 : Nat) : Int)) ∧ (∀ z h, z < 24 → h < nh → 0 ≤ (S.1 (15, k, 0) (z * 6 + h)).toInt ∧ (S.1 (15, k, 0) (z * 6 + h)).toInt ≤ 143856)
theorem ofL_2 : ∀ j, (ofL S k j).2 = S.2 := by
  intro j
  induction j with
  | zero => rfl
  | succ j ih => unfold ofL; rw [offF_J, ih]
theorem ylL_2 : ∀ j, (ylL S k j).2 = S.2 := by
  intro j
  induction j with
  | zero => rfl
  | succ j ih => unfold ylL; rw [yldF_J, ih]
theorem ps2_2 : (ps2 S k n).2 = S.2 := by
  unfold ps2
  split
  · rw [ylL_2]; rfl
  · rfl
theorem daA_2 {s u : Int32} : ∀ j, (daA S k y u s j).1.2 = S.2 := by
  intro j
  induction j with
  | zero => rfl
  | succ j ih =>
    unfold daA
    split
    · dsimp only; exact ih
    · exact ih
theorem daB_2 {u : Int32} : ∀ j, (daB S k y u j).1.2 = S.2 := by
  intro j
  induction j with
  | zero => rfl
  | succ j ih =>
    unfold daB
    split
    · dsimp only; exact ih
    · exact ih
theorem daF_2 {u s : Int32} : (daF S k n y u s).2 = S.2 := by
  unfold daF
  split
  · rw [daB_2, daA_2]
  · rfl
theorem deF_2 : (deF S k n).2 = S.2 := by
  unfold deF
  split
  · rw [daF_2, daF_2]
  · rfl
theorem ps6_2 : (ps6 S k n).2 = S.2 := by
  unfold ps6 ps3
  split
  · show (deF _ _ _).2 = _
    rw [deF_2, ps2_2, ofL_2]
  · rw [deF_2, ps2_2, ofL_2]
theorem lrnF_2 {wn fg ld : Int32} : (lrnF S k p wn fg ld).2 = S.2 := by
  unfold lrnF
  split
  · rfl
  · split
    · rfl
    · split <;> rfl
theorem laF_2 {l : Int32} : ∀ j, (laF S k l j).2 = S.2 := by
  intro j
  induction j with
  | zero => rfl
  | succ j ih =>
    unfold laF
    split
    · exact ih
    · rw [lrnF_2, ih]
theorem ptF_2 : (ptF S k nh).2 = S.2 := by
  unfold ptF
  split
  · rw [ptL_2]; rfl
  · rfl
theorem psF_2 : (psF S k n nh).2 = (ps5 S k n).2 := by
  rw [psF_eq, ptF_2, laF_2]
/-- THE SLOT keeps what the time bounds -/
theorem ofL_H4 : ∀ j, (ofL S k j).1 (16, k, h) 4 = S.1 (16, k, h) 4 := by
  intro j
  induction j with
  | zero => rfl
  | succ j ih => unfold ofL; rw [offF_H (w := 3), if_neg (by omega), if_neg (by omega), ih]
theorem ylL_H4 : ∀ j, (ylL S k j).1 (16, k, h) 4 = S.1 (16, k, h) 4 := by
  intro j
  induction j with
  | zero => rfl
  | succ j ih => unfold ylL; rw [yldF_H (w := 3), if_neg (by omega), ih]
theorem ps6_H4 : (ps6 S k n).1 (16, k, h) 4 = S.1 (16, k, h) 4 := by
  unfold ps6
  rw [ps3_o (by simp) (Or.inl (by simp))]
  unfold ps2
  split
  · rw [ylL_H4, upI_1, if_neg (by simp), upI_1, if_neg (by simp), ofL_H4]
  · rw [upI_1, if_neg (by simp), ofL_H4]
theorem ofL_hr : ∀ j, (ofL S k j).1 (15, k, 0) g = S.1 (15, k, 0) g := by
  intro j
  induction j with
  | zero => rfl
  | succ j ih => unfold ofL; rw [offF_hr, ih]
theorem ylL_hr : ∀ j, (ylL S k j).1 (15, k, 0) g = S.1 (15, k, 0) g := by
  intro j
  induction j with
  | zero => rfl
  | succ j ih => unfold ylL; rw [yldF_hr, ih]
theorem dvL_hr : ∀ j, (dvL S k j).1 (15, k, 0) g = S.1 (15, k, 0) g := by
  intro j
  induction j with
  | zero => rfl
  | succ j ih => unfold dvL; rw [dlvF_hr, ih]
theorem ps5_hr : (ps5 S k n).1 (15, k, 0) g = S.1 (15, k, 0) g := by
  unfold ps5
  rw [dvL_hr, ps3_o (by simp) (Or.inl (by simp))]
  unfold ps2
  split
  · rw [ylL_hr, upI_1, if_neg (by simp), upI_1, if_neg (by simp), ofL_hr]
  · rw [upI_1, if_neg (by simp), ofL_hr]
theorem ptT_o {o : Ob} (h : o ≠ (12, k, 0)) : (ptT S k).1 o g = S.1 o g := by
  unfold ptT
  rw [upI_1, if_neg (fun e => h e.1)]
theorem psF_Cok (hN : Num S k n nh) (hC : Cok S k n nh t) (ht : t < 2 ^ 20) (h5 : S.1 (12, k, 0) 5 = Int32.ofNat t) : Cok (psF S k n nh) k n nh (t + 1) := by
  obtain ⟨hI, hD⟩ := ps6_in hN
  obtain ⟨c1, c2, c3⟩ := hC
  have hn := hN.1
  have hnh := hN.2.1
  have hH : ∀ h, h < nh → 0 ≤ ((ps5 S k n).1 (16, k, h) 4).toInt ∧ ((ps5 S k n).1 (16, k, h) 4).toInt ≤ 11988 * ((t % 12 : Nat) : Int) + 11988 := fun h hh => by
    have e := c2 h hh
    have e2 := dvL_H4 (S := ps6 S k n) (k := k) (h := h) hD hn (by rw [ps6_H4]; omega) n (Nat.le_refl n)
    rw [ps6_H4] at e2
    rw [ps5_6]
    omega
  have hcnt : ∀ p, p < n → ∀ w, w < 6 → 0 ≤ ((psF S k n nh).2.1 (19, k, p) w).toInt ∧ ((psF S k n nh).2.1 (19, k, p) w).toInt ≤ 999 * ((t + 1 : Nat) : Int) := fun p hp w hw => by
    have e := c1 p hp w hw
    rw [psF_2, ps5_6, dvL_C hw, if_pos hp, ps6_2]
    have key : 0 ≤ ((if w = 5 then (dlvN (ps6 S k n) k p).toInt64 else ((ps6 S k n).1 (18, k, p) w).toInt64) : Int64).toInt ∧ ((if w = 5 then (dlvN (ps6 S k n) k p).toInt64 else ((ps6 S k n).1 (18, k, p) w).toInt64) : Int64).toInt ≤ 999 := by
      by_cases e5 : w = 5
      · rw [if_pos e5, Int32.toInt_toInt64]; exact hD p hp
      · rw [if_neg e5, Int32.toInt_toInt64]; exact hI p hp w (by omega)
    generalize (if w = 5 then (dlvN (ps6 S k n) k p).toInt64 else ((ps6 S k n).1 (18, k, p) w).toInt64) = X at *
    rw [add64 (by omega) (by omega)]
    omega
  refine ⟨hcnt, ?_⟩
  have q4 : ∀ h, (laF (ps5 S k n) k (ldF (ps5 S k n) k n).2 n).1 (16, k, h) 4 = (ps5 S k n).1 (16, k, h) 4 := fun h => by rw [laF_o' (by simp)]
  have qh : ∀ z, (laF (ps5 S k n) k (ldF (ps5 S k n) k n).2 n).1 (15, k, 0) z = S.1 (15, k, 0) z := fun z => by rw [laF_o' (by simp), ps5_hr]
  have q5 : (laF (ps5 S k n) k (ldF (ps5 S k n) k n).2 n).1 (12, k, 0) 5 = Int32.ofNat t := by rw [laF_k, ps5_k (by decide)]; exact h5
  rw [psF_eq]
  generalize laF (ps5 S k n) k (ldF (ps5 S k n) k n).2 n = U at *
  have e5 : (ptT U k).1 (12, k, 0) 5 = Int32.ofNat (t + 1) := by
    unfold ptT
    rw [upI_1, if_pos ⟨rfl, rfl⟩, q5, ← inc_ofNat]
  unfold ptF
  rw [e5, i12m (by omega)]
  by_cases hz : (t + 1) % 12 = 0
  · rw [hz, if_pos (show Int32.ofNat 0 = 0 from rfl)]
    have hE : ehF (ptT U k) k - 1 = Int32.ofNat ((t + 1) / 12 - 1) := by
      unfold ehF
      rw [e5, show (12 : Int32) = Int32.ofNat 12 from rfl, oN_div (by omega) (by decide), show (1 : Int32) = Int32.ofNat 1 from rfl, oN_sub (by omega)]
    have hpl : ∀ j, j < 6 → (phF (ehF (ptT U k) k - 1) (Int32.ofNat j)).toNatClampNeg = (((t + 1) / 12 - 1) % 24) * 6 + j := fun j hj => by
      rw [hE, phN (by omega) hj, oN_clamp (by have := Nat.mod_lt ((t + 1) / 12 - 1) (show 0 < 24 by decide); omega)]
    refine ⟨fun h hh => ?_, fun z h hz24 hh => ?_⟩
    · rw [ptL_H (w := 3), if_pos ⟨hh, by omega⟩]
      exact ⟨by decide, by rw [show (0 : Int32).toInt = 0 from rfl]; omega⟩
    · rw [ptL_hr hpl nh hnh]
      split
      · rename_i hc
        rw [ptT_o (by simp), q4]
        have := hH (z * 6 + h - ((t + 1) / 12 - 1) % 24 * 6) (by omega)
        omega
      · rw [ptT_o (by simp), qh]
        exact c3 z h hz24 hh
  · rw [if_neg (fun e => hz (by have := inj0 (a := (t + 1) % 12) (b := 0) (by omega) (by decide) e; exact this))]
    refine ⟨fun h hh => ?_, fun z h hz24 hh => ?_⟩
    · rw [ptT_o (by simp), q4]
      have := hH h hh
      omega
    · rw [ptT_o (by simp), qh]
      exact c3 z h hz24 hh
end NU5
