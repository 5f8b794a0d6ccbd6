section LK5
variable {n nh t k p i j h w q g z : Nat} {S T U : St} {d6 d7 : Nat → Int64} {v pr y u s l : Int32}
def sumN (f : Nat → Nat) : Nat → Nat
  | 0 => 0
  | n + 1 => sumN f n + f n
theorem q_le {u s b : Nat} (hU : u ≤ s) : u * b ≤ s * (u * b / s + (if u * b / s < b then 1 else 0)) := by
  have h1 := Nat.div_add_mod (u * b) s
  rw [Nat.mul_add]
  by_cases hs : s = 0
  · subst hs
    have : u = 0 := by omega
    subst this
    omega
  · have h2 := Nat.mod_lt (u * b) (Nat.pos_of_ne_zero hs)
    by_cases h : u * b / s < b
    · rw [if_pos h, Nat.mul_one]
      omega
    · rw [if_neg h, Nat.mul_zero]
      have h3 : s * b ≤ s * (u * b / s) := Nat.mul_le_mul_left s (Nat.not_lt.mp h)
      have h4 : u * b ≤ s * b := Nat.mul_le_mul_right b hU
      omega
theorem q_sum {u s : Nat} {b : Nat → Nat} (hU : u ≤ s) : ∀ m, u * sumN b m ≤ s * (sumN (fun p => u * b p / s) m + sumN (fun p => if u * b p / s < b p then 1 else 0) m) := by
  intro m
  induction m with
  | zero => exact Nat.zero_le _
  | succ m ih =>
    have h := q_le (u := u) (s := s) (b := b m) hU
    unfold sumN
    rw [Nat.mul_add] at *
    rw [Nat.mul_add] at *
    rw [Nat.mul_add, Nat.mul_add]
    omega
theorem q_sum2 {u s : Nat} {b : Nat → Nat} : ∀ m, s * sumN (fun p => u * b p / s) m ≤ u * sumN b m := by
  intro m
  induction m with
  | zero => exact Nat.le_refl _
  | succ m ih =>
    have h := Nat.mul_div_le (u * b m) s
    unfold sumN
    rw [Nat.mul_add, Nat.mul_add]
    omega
theorem one_round {u s : Nat} {b : Nat → Nat} {m : Nat} (hs : s = sumN b m) (hU : u ≤ s) (h0 : 0 < s) : u - sumN (fun p => u * b p / s) m ≤ sumN (fun p => if u * b p / s < b p then 1 else 0) m := by
  have h := q_sum (u := u) (b := b) hU m
  rw [← hs, Nat.mul_comm u s] at h
  have := Nat.le_of_mul_le_mul_left h h0
  omega
theorem q_tot {u s : Nat} {b : Nat → Nat} {m : Nat} (hs : s = sumN b m) (h0 : 0 < s) : sumN (fun p => u * b p / s) m ≤ u := by
  have h := q_sum2 (u := u) (s := s) (b := b) m
  rw [← hs, Nat.mul_comm u s] at h
  exact Nat.le_of_mul_le_mul_left h h0
theorem sumN_mono {f : Nat → Nat} {a b : Nat} (h : a ≤ b) : sumN f a ≤ sumN f b := by
  induction b with
  | zero => have : a = 0 := by omega
            subst this; exact Nat.le_refl _
  | succ b ih =>
    by_cases e : a = b + 1
    · rw [e]; exact Nat.le_refl _
    · have := ih (by omega)
      have e2 : sumN f (b + 1) = sumN f b + f b := rfl
      rw [e2]
      omega
theorem sumN_le {f : Nat → Nat} {c : Nat} (h : ∀ p, f p ≤ c) : ∀ m, sumN f m ≤ c * m := by
  intro m
  induction m with
  | zero => exact Nat.le_refl _
  | succ m ih => have := h m; unfold sumN; rw [Nat.mul_add]; omega
theorem sumF_oN {f : Nat → Int32} {b : Nat → Nat} : ∀ m, (∀ p, p < m → f p = Int32.ofNat (b p)) → sumF f m = Int32.ofNat (sumN b m) := by
  intro m
  induction m with
  | zero => intro _; rfl
  | succ m ih =>
    intro h
    unfold sumF sumN
    rw [ih (fun p hp => h p (by omega)), h m (by omega), oN_add]
theorem oN_div {a b : Nat} (ha : a < 2 ^ 31) (hb : b < 2 ^ 31) : Int32.ofNat a / Int32.ofNat b = Int32.ofNat (a / b) := by
  have hd : a / b ≤ a := Nat.div_le_self a b
  have hne : ¬ (Int32.ofNat b).toInt = -1 := by rw [Int32.toInt_ofNat_small hb]; omega
  rw [← Int32.toInt_inj, Int32.toInt_div_of_ne_right _ _ (fun e => hne (by rw [e]; rfl)), Int32.toInt_ofNat_small ha, Int32.toInt_ofNat_small hb, Int32.toInt_ofNat_small (by omega)]
  rfl
/-- what is sent, as naturals -/
def sN (S : St) (k p : Nat) : Nat := (snt S k p).toNatClampNeg
def Sbd (S : St) (k n : Nat) : Prop := ∀ p, p < n → snt S k p = Int32.ofNat (sN S k p) ∧ sN S k p ≤ 999
def gN (S : St) (k : Nat) (y : Int32) (p : Nat) : Nat := if hyF S k p = y then sN S k p else 0
theorem sbF_gN (h : Sbd S k n) (hp : p < n) : sbF S k y p = Int32.ofNat (gN S k y p) := by
  unfold sbF gN
  by_cases e : hyF S k p = y
  · rw [if_pos e, if_pos e]; exact (h p hp).1
  · rw [if_neg e, if_neg e]; rfl
theorem gN_le (h : Sbd S k n) (hp : p < n) : gN S k y p ≤ 999 := by
  unfold gN
  split
  · exact (h p hp).2
  · omega
theorem daA_left (h : Sbd S k n) (hn : n ≤ 12) {a b : Nat} (hb : b = sumN (gN S k y) n) (h0 : 0 < b) (ha : a ≤ b) : ∀ j, j ≤ n → (daA S k y (Int32.ofNat a) (Int32.ofNat b) j).2 = Int32.ofNat (a - sumN (fun p => a * gN S k y p / b) j) ∧ (∀ p, p < n → (daA S k y (Int32.ofNat a) (Int32.ofNat b) j).1.1 (18, k, p) 4 = if p < j ∧ hyF S k p = y then Int32.ofNat (a * gN S k y p / b) else S.1 (18, k, p) 4) := by
  have hb12 : b ≤ 999 * 12 := by
    have h1 : ∀ m, m ≤ n → sumN (gN S k y) m ≤ 999 * m := by
      intro m
      induction m with
      | zero => intro _; exact Nat.le_refl _
      | succ m ih => intro hm; have := ih (by omega); have := gN_le (y := y) h (p := m) (by omega); unfold sumN; omega
    have := h1 n (Nat.le_refl n)
    omega
  intro j
  induction j with
  | zero =>
    intro _
    refine ⟨rfl, fun p _ => ?_⟩
    rw [if_neg (fun e => absurd e.1 (Nat.not_lt_zero p))]
    rfl
  | succ j ih =>
    intro hj
    obtain ⟨i1, i2⟩ := ih (by omega)
    rw [show daA S k y (Int32.ofNat a) (Int32.ofNat b) (j + 1) = if hyF S k j = y then (upI (daA S k y (Int32.ofNat a) (Int32.ofNat b) j).1 (18, k, j) 4 (Int32.ofNat a * snt S k j / Int32.ofNat b), (daA S k y (Int32.ofNat a) (Int32.ofNat b) j).2 - Int32.ofNat a * snt S k j / Int32.ofNat b) else daA S k y (Int32.ofNat a) (Int32.ofNat b) j from rfl]
    have hle : sumN (fun p => a * gN S k y p / b) (j + 1) ≤ a := Nat.le_trans (sumN_mono hj) (q_tot hb h0)
    have e : sumN (fun p => a * gN S k y p / b) (j + 1) = sumN (fun p => a * gN S k y p / b) j + a * gN S k y j / b := rfl
    by_cases hy : hyF S k j = y
    · rw [if_pos hy]
      have hg : gN S k y j = sN S k j := if_pos hy
      have h9 := gN_le (y := y) h (p := j) (by omega)
      have hm : a * gN S k y j < 2 ^ 31 := by
        have := Nat.mul_le_mul (show a ≤ 999 * 12 by omega) h9
        omega
      have hq : Int32.ofNat a * snt S k j / Int32.ofNat b = Int32.ofNat (a * gN S k y j / b) := by
        rw [(h j (by omega)).1, ← hg, oN_mul, oN_div hm (by omega)]
      rw [hq]
      refine ⟨?_, fun p hp => ?_⟩
      · dsimp only
        rw [i1, oN_sub (by omega), e]
        congr 1
        omega
      · dsimp only
        rw [upI_1]
        by_cases hpj : p = j
        · subst hpj
          rw [if_pos ⟨rfl, rfl⟩, if_pos ⟨by omega, hy⟩]
        · rw [if_neg (by simp [hpj]), i2 p hp]
          by_cases hc : p < j ∧ hyF S k p = y
          · rw [if_pos hc, if_pos ⟨by omega, hc.2⟩]
          · rw [if_neg hc, if_neg (fun e => hc ⟨by omega, e.2⟩)]
    · rw [if_neg hy]
      have hg : gN S k y j = 0 := if_neg hy
      refine ⟨?_, fun p hp => ?_⟩
      · rw [i1, e, hg, Nat.mul_zero, Nat.zero_div, Nat.add_zero]
      · rw [i2 p hp]
        by_cases hc : p < j ∧ hyF S k p = y
        · rw [if_pos hc, if_pos ⟨by omega, hc.2⟩]
        · rw [if_neg hc, if_neg (fun e => hc ⟨by have : p ≠ j := fun e2 => hy (by rw [← e2]; exact e.2); omega, e.2⟩)]
theorem daB_left (h : Sbd S k n) (hn : n ≤ 12) {c : Nat} (hc : c < 2 ^ 31) {f : Nat → Nat} (hf : ∀ p, f p < 2 ^ 31) (h4 : ∀ p, p < n → hyF S k p = y → S.1 (18, k, p) 4 = Int32.ofNat (f p)) : ∀ j, j ≤ n → (daB S k y (Int32.ofNat c) j).2 = Int32.ofNat (c - sumN (fun p => if hyF S k p = y ∧ f p < gN S k y p then 1 else 0) j) ∧ (∀ p, j ≤ p → (daB S k y (Int32.ofNat c) j).1.1 (18, k, p) 4 = S.1 (18, k, p) 4) := by
  intro j
  induction j with
  | zero => intro _; exact ⟨rfl, fun _ _ => rfl⟩
  | succ j ih =>
    intro hj
    obtain ⟨i1, i2⟩ := ih (by omega)
    rw [show daB S k y (Int32.ofNat c) (j + 1) = if 0 < (daB S k y (Int32.ofNat c) j).2 ∧ hyF S k j = y ∧ (daB S k y (Int32.ofNat c) j).1.1 (18, k, j) 4 < snt S k j then (upI (daB S k y (Int32.ofNat c) j).1 (18, k, j) 4 ((daB S k y (Int32.ofNat c) j).1.1 (18, k, j) 4 + 1), (daB S k y (Int32.ofNat c) j).2 - 1) else daB S k y (Int32.ofNat c) j from rfl]
    have e : sumN (fun p => if hyF S k p = y ∧ f p < gN S k y p then 1 else 0) (j + 1) = sumN (fun p => if hyF S k p = y ∧ f p < gN S k y p then 1 else 0) j + (if hyF S k j = y ∧ f j < gN S k y j then 1 else 0) := rfl
    rw [e]
    generalize sumN (fun p => if hyF S k p = y ∧ f p < gN S k y p then 1 else 0) j = N at *
    have hj4 := i2 j (Nat.le_refl j)
    have hs9 := (h j (by omega)).2
    by_cases hy : hyF S k j = y
    · have hg : gN S k y j = sN S k j := if_pos hy
      rw [hj4, h4 j (by omega) hy, (h j (by omega)).1, i1]
      have l1 : ((0 : Int32) < Int32.ofNat (c - N)) = (0 < c - N) := by rw [show (0 : Int32) = Int32.ofNat 0 from rfl, oN_lt (by omega) (by decide)]
      have l2 : (Int32.ofNat (f j) < Int32.ofNat (sN S k j)) = (f j < sN S k j) := oN_lt (by omega) (hf j)
      by_cases hf2 : f j < sN S k j
      · rw [if_pos (⟨hy, by rw [hg]; exact hf2⟩ : hyF S k j = y ∧ f j < gN S k y j)]
        by_cases h0 : 0 < c - N
        · rw [if_pos ⟨by rw [l1]; exact h0, hy, by rw [l2]; exact hf2⟩]
          refine ⟨?_, fun p hp => ?_⟩
          · dsimp only
            rw [show (1 : Int32) = Int32.ofNat 1 from rfl, oN_sub (by omega)]
            congr 1
          · dsimp only
            rw [upI_1, if_neg (by simp; omega)]
            exact i2 p (by omega)
        · rw [if_neg (fun e => h0 (by rw [← l1]; exact e.1))]
          refine ⟨?_, fun p hp => i2 p (by omega)⟩
          rw [i1]
          congr 1
          omega
      · rw [if_neg (fun e : hyF S k j = y ∧ f j < gN S k y j => hf2 (by rw [← hg]; exact e.2)), if_neg (fun e => hf2 (by rw [← l2]; exact e.2.2)), Nat.add_zero]
        exact ⟨i1, fun p hp => i2 p (by omega)⟩
    · rw [if_neg (fun e : hyF S k j = y ∧ f j < gN S k y j => hy e.1), if_neg (fun e => hy e.2.1), Nat.add_zero]
      exact ⟨i1, fun p hp => i2 p (by omega)⟩
end LK5
