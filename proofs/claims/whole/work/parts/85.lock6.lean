section LK6
variable {n nh t k p i j h w q g z : Nat} {S T U : St} {d6 d7 : Nat → Int64} {v pr y u s l : Int32}
theorem sumN_congr {f f' : Nat → Nat} : ∀ m, (∀ p, p < m → f p = f' p) → sumN f m = sumN f' m := by
  intro m
  induction m with
  | zero => intro _; rfl
  | succ m ih => intro h; unfold sumN; rw [ih (fun p hp => h p (by omega)), h m (by omega)]
theorem sumF_up {f f' : Nat → Int32} {a : Int32} : ∀ m, p < m → (∀ q, q ≠ p → f' q = f q) → f' p = f p + a → sumF f' m = sumF f m + a := by
  intro m
  induction m with
  | zero => intro hp; exact absurd hp (Nat.not_lt_zero p)
  | succ m ih =>
    intro hp h1 h2
    unfold sumF
    by_cases e : p = m
    · subst e
      rw [h2, sumF_congr p (fun q hq => h1 q (by omega)), Int32.add_assoc]
    · rw [ih (by omega) h1 h2, h1 m (fun e2 => e e2.symm), Int32.add_assoc, Int32.add_comm a, ← Int32.add_assoc]
theorem add_sub_c {a b c : Int32} : a + b + (c - b) = a + c := by
  rw [Int32.sub_eq_add_neg, Int32.add_comm c, ← Int32.add_assoc, Int32.add_assoc a, Int32.add_right_neg, Int32.add_zero]
theorem sub_add_c {a b : Int32} : a + (b - a) = b := by
  rw [Int32.sub_eq_add_neg, Int32.add_comm b, ← Int32.add_assoc, Int32.add_right_neg, Int32.zero_add]
theorem sumF_0 {f : Nat → Int32} : ∀ m, (∀ p, p < m → f p = 0) → sumF f m = 0 := by
  intro m
  induction m with
  | zero => intro _; rfl
  | succ m ih => intro h; unfold sumF; rw [ih (fun p hp => h p (by omega)), h m (by omega), Int32.add_zero]
def memF (S T : St) (k : Nat) (y : Int32) (p : Nat) : Int32 := if hyF S k p = y then T.1 (18, k, p) 4 else 0
theorem memF_up (hq : q ≠ p) : memF S (upI T (18, k, p) 4 v) k y q = memF S T k y q := by
  unfold memF
  rw [upI_1, if_neg (fun e : (18, k, q) = ((18, k, p) : Ob) ∧ 4 = 4 => hq (by simpa using e.1))]
theorem daA_far : ∀ j, j ≤ p → (daA S k y u s j).1.1 (18, k, p) 4 = S.1 (18, k, p) 4 := by
  intro j
  induction j with
  | zero => intro _; rfl
  | succ j ih =>
    intro hj
    unfold daA
    split
    · dsimp only; rw [upI_1, if_neg (by simp; omega)]; exact ih (by omega)
    · exact ih (by omega)
theorem daA_cons (h4 : ∀ p, p < n → hyF S k p = y → S.1 (18, k, p) 4 = 0) : ∀ j, j ≤ n → sumF (memF S (daA S k y u s j).1 k y) n + (daA S k y u s j).2 = u := by
  intro j
  induction j with
  | zero =>
    intro _
    have e : sumF (memF S S k y) n = 0 := sumF_0 n (fun p hp => by unfold memF; split; exact h4 p hp ‹_›; rfl)
    rw [show (daA S k y u s 0) = (S, u) from rfl, e, Int32.zero_add]
  | succ j ih =>
    intro hj
    have ih2 := ih (by omega)
    have hf := daA_far (S := S) (k := k) (y := y) (u := u) (s := s) (p := j) j (Nat.le_refl j)
    unfold daA
    by_cases hy : hyF S k j = y
    · rw [if_pos hy]
      dsimp only
      have e := sumF_up (p := j) (f := memF S (daA S k y u s j).1 k y) (f' := memF S (upI (daA S k y u s j).1 (18, k, j) 4 (u * snt S k j / s)) k y) (a := u * snt S k j / s) n (by omega) (fun q hq => memF_up hq) (by unfold memF; rw [if_pos hy, if_pos hy, upI_1, if_pos ⟨rfl, rfl⟩, hf, h4 j (by omega) hy, Int32.zero_add])
      rw [e, add_sub_c]
      exact ih2
    · rw [if_neg hy]; exact ih2
theorem daB_cons : ∀ j, j ≤ n → sumF (memF S (daB S k y l j).1 k y) n + (daB S k y l j).2 = sumF (memF S S k y) n + l := by
  intro j
  induction j with
  | zero => intro _; rfl
  | succ j ih =>
    intro hj
    have ih2 := ih (by omega)
    unfold daB
    by_cases hc : 0 < (daB S k y l j).2 ∧ hyF S k j = y ∧ (daB S k y l j).1.1 (18, k, j) 4 < snt S k j
    · rw [if_pos hc]
      dsimp only
      have e := sumF_up (p := j) (f := memF S (daB S k y l j).1 k y) (f' := memF S (upI (daB S k y l j).1 (18, k, j) 4 ((daB S k y l j).1.1 (18, k, j) 4 + 1)) k y) (a := 1) n (by omega) (fun q hq => memF_up hq) (by unfold memF; rw [if_pos hc.2.1, if_pos hc.2.1, upI_1, if_pos ⟨rfl, rfl⟩])
      rw [e, add_sub_c]
      exact ih2
    · rw [if_neg hc]; exact ih2
theorem daA_oth (hy : hyF S k p ≠ y) : ∀ j, (daA S k y u s j).1.1 (18, k, p) 4 = S.1 (18, k, p) 4 := by
  intro j
  induction j with
  | zero => rfl
  | succ j ih =>
    unfold daA
    by_cases h : hyF S k j = y
    · rw [if_pos h]; dsimp only
      rw [upI_1, if_neg (by simp; intro e; exact absurd (by rw [e]; exact h) hy)]; exact ih
    · rw [if_neg h]; exact ih
theorem daB_oth (hy : hyF S k p ≠ y) : ∀ j, (daB S k y l j).1.1 (18, k, p) 4 = S.1 (18, k, p) 4 := by
  intro j
  induction j with
  | zero => rfl
  | succ j ih =>
    unfold daB
    split
    · rename_i hc
      dsimp only
      rw [upI_1, if_neg (by simp; intro e; exact absurd (by rw [e]; exact hc.2.1) hy)]; exact ih
    · exact ih
theorem sntA {j : Nat} : snt (daA S k y u s j).1 k p = snt S k p := daA_snt
theorem sntB {j : Nat} : snt (daB S k y l j).1 k p = snt S k p := daB_snt
/-- dropAmong leaves nothing -/
theorem da_zero (h : Sbd S k n) (hn : n ≤ 12) {a b : Nat} (hb : b = sumN (gN S k y) n) (h0 : 0 < b) (ha : a ≤ b) (hb2 : b < 2 ^ 31) : (daB (daA S k y (Int32.ofNat a) (Int32.ofNat b) n).1 k y (daA S k y (Int32.ofNat a) (Int32.ofNat b) n).2 n).2 = 0 := by
  obtain ⟨l1, l2⟩ := daA_left h hn hb h0 ha n (Nat.le_refl n)
  rw [l1]
  have hy2 : ∀ p, hyF (daA S k y (Int32.ofNat a) (Int32.ofNat b) n).1 k p = hyF S k p := fun p => daA_hy
  have hs2 : ∀ p, snt (daA S k y (Int32.ofNat a) (Int32.ofNat b) n).1 k p = snt S k p := fun p => sntA
  have hn2 : ∀ p, sN (daA S k y (Int32.ofNat a) (Int32.ofNat b) n).1 k p = sN S k p := fun p => by unfold sN; rw [hs2]
  have hg2 : ∀ p, gN (daA S k y (Int32.ofNat a) (Int32.ofNat b) n).1 k y p = gN S k y p := fun p => by unfold gN; rw [hy2, hn2]
  have hB := daB_left (S := (daA S k y (Int32.ofNat a) (Int32.ofNat b) n).1) (k := k) (n := n) (y := y) (fun p hp => by rw [hs2, hn2]; exact h p hp) hn (c := a - sumN (fun p => a * gN S k y p / b) n) (by omega) (f := fun p => if p < n then a * gN S k y p / b else 0) (fun p => by
    split
    · rename_i hp
      have h9 := gN_le (y := y) h hp
      have := Nat.mul_le_mul (Nat.le_refl a) h9
      have h8 : a * gN S k y p / b ≤ gN S k y p := by
        rw [Nat.div_le_iff_le_mul_add_pred h0]
        have := Nat.mul_le_mul_right (gN S k y p) ha
        omega
      omega
    · omega) (fun p hp hyp => by
    rw [hy2] at hyp
    rw [l2 p hp, if_pos ⟨hp, hyp⟩, if_pos hp]) n (Nat.le_refl n)
  rw [hB.1]
  have hr := one_round (u := a) (b := gN S k y) (m := n) hb ha h0
  have e : sumN (fun p => if hyF (daA S k y (Int32.ofNat a) (Int32.ofNat b) n).1 k p = y ∧ (if p < n then a * gN S k y p / b else 0) < gN (daA S k y (Int32.ofNat a) (Int32.ofNat b) n).1 k y p then 1 else 0) n = sumN (fun p => if a * gN S k y p / b < gN S k y p then 1 else 0) n := by
    refine sumN_congr n (fun p hp => ?_)
    rw [hy2, hg2, if_pos hp]
    by_cases hyp : hyF S k p = y
    · by_cases hlt : a * gN S k y p / b < gN S k y p
      · rw [if_pos ⟨hyp, hlt⟩, if_pos hlt]
      · rw [if_neg (fun e => hlt e.2), if_neg hlt]
    · have hg0 : gN S k y p = 0 := if_neg hyp
      rw [if_neg (fun e => hyp e.1), hg0, if_neg (Nat.not_lt_zero _)]
  rw [e, show a - sumN (fun p => a * gN S k y p / b) n - sumN (fun p => if a * gN S k y p / b < gN S k y p then 1 else 0) n = 0 by omega]
  rfl
/-- dropAmong: the rest of its facts -/
theorem daF_oth (hy : hyF S k p ≠ y) : (daF S k n y u s).1 (18, k, p) 4 = S.1 (18, k, p) 4 := by
  unfold daF
  split
  · rw [daB_oth (by rw [daA_hy]; exact hy), daA_oth hy]
  · rfl
theorem daF_sum (h : Sbd S k n) (hn : n ≤ 12) {a b : Nat} (hb : b = sumN (gN S k y) n) (ha : a ≤ b) (hb2 : b < 2 ^ 31) (h4 : ∀ p, p < n → hyF S k p = y → S.1 (18, k, p) 4 = 0) : sumF (memF S (daF S k n y (Int32.ofNat a) (Int32.ofNat b)) k y) n = Int32.ofNat a := by
  have l0 : ((0 : Int32) < Int32.ofNat b) = (0 < b) := by rw [show (0 : Int32) = Int32.ofNat 0 from rfl, oN_lt hb2 (by decide)]
  unfold daF
  by_cases h0 : 0 < b
  · rw [if_pos (by rw [l0]; exact h0)]
    have hz := da_zero h hn hb h0 ha hb2
    have c1 := daA_cons (u := Int32.ofNat a) (s := Int32.ofNat b) h4 n (Nat.le_refl n)
    have c2 := daB_cons (S := (daA S k y (Int32.ofNat a) (Int32.ofNat b) n).1) (k := k) (n := n) (y := y) (l := (daA S k y (Int32.ofNat a) (Int32.ofNat b) n).2) n (Nat.le_refl n)
    rw [hz, Int32.add_zero] at c2
    have em : ∀ T, memF (daA S k y (Int32.ofNat a) (Int32.ofNat b) n).1 T k y = memF S T k y := fun T => by funext p; unfold memF; rw [daA_hy]
    rw [em, em] at c2
    rw [c2]
    exact c1
  · rw [if_neg (by rw [l0]; exact h0)]
    have hb0 : b = 0 := by omega
    have ha0 : a = 0 := by omega
    subst ha0
    have c1 := daA_cons (u := 0) (s := Int32.ofNat b) h4 0 (Nat.zero_le n)
    rw [show daA S k y 0 (Int32.ofNat b) 0 = (S, 0) from rfl, Int32.add_zero] at c1
    exact c1
end LK6
