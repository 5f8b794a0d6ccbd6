section FA1
variable {n nh k p i h z m u f s c d x j e b g r y t B E : Nat} {S T : St} {q : Int32} {gI : Nat → Int64} {cB : Nat → Bool} {N : Nat → Nat}
/-! FAIRNESS -/
def nSum (N : Nat → Nat) (c : Nat → Bool) : Nat → Nat
  | 0 => 0
  | i + 1 => nSum N c i + (if c i then N i else 0)
def nSq (N : Nat → Nat) (c : Nat → Bool) : Nat → Nat
  | 0 => 0
  | i + 1 => nSq N c i + (if c i then N i * N i else 0)
def nCnt (c : Nat → Bool) : Nat → Nat
  | 0 => 0
  | i + 1 => nCnt c i + (if c i then 1 else 0)
theorem fSum_N : ∀ n, (∀ i, i < n → gI i = Int64.ofNat (N i)) → fSum gI cB n = Int64.ofNat (nSum N cB n) := by
  intro n
  induction n with
  | zero => intro _; rfl
  | succ n ih =>
    intro h
    rw [show fSum gI cB (n + 1) = fSum gI cB n + (if cB n then gI n else 0) from rfl, show nSum N cB (n + 1) = nSum N cB n + (if cB n then N n else 0) from rfl, ih (fun i hi => h i (by omega)), h n (by omega)]
    by_cases hc : cB n = true
    · rw [if_pos hc, if_pos hc, J_add]
    · rw [if_neg hc, if_neg hc, show (0 : Int64) = Int64.ofNat 0 from rfl, J_add]
theorem fSq_N : ∀ n, (∀ i, i < n → gI i = Int64.ofNat (N i)) → fSq gI cB n = Int64.ofNat (nSq N cB n) := by
  intro n
  induction n with
  | zero => intro _; rfl
  | succ n ih =>
    intro h
    rw [show fSq gI cB (n + 1) = fSq gI cB n + (if cB n then gI n * gI n else 0) from rfl, show nSq N cB (n + 1) = nSq N cB n + (if cB n then N n * N n else 0) from rfl, ih (fun i hi => h i (by omega)), h n (by omega)]
    by_cases hc : cB n = true
    · rw [if_pos hc, if_pos hc, J_mul, J_add]
    · rw [if_neg hc, if_neg hc, show (0 : Int64) = Int64.ofNat 0 from rfl, J_add]
theorem fCnt_N : ∀ n, fCnt cB n = Int32.ofNat (nCnt cB n) := by
  intro n
  induction n with
  | zero => rfl
  | succ n ih =>
    rw [show fCnt cB (n + 1) = fCnt cB n + (if cB n then 1 else 0) from rfl, show nCnt cB (n + 1) = nCnt cB n + (if cB n then 1 else 0) from rfl, ih]
    by_cases hc : cB n = true
    · rw [if_pos hc, if_pos hc, show (1 : Int32) = Int32.ofNat 1 from rfl, oN_add]
    · rw [if_neg hc, if_neg hc, show (0 : Int32) = Int32.ofNat 0 from rfl, oN_add]
theorem nCnt_all : ∀ n, nCnt (fun _ => true) n = n := by
  intro n
  induction n with
  | zero => rfl
  | succ n ih => rw [show nCnt (fun _ => true) (n + 1) = nCnt (fun _ => true) n + 1 from rfl, ih]
theorem sq2 : 2 * (x * y) ≤ x * x + y * y := by
  rcases Nat.le_total x y with h | h
  · obtain ⟨d, rfl⟩ := Nat.exists_eq_add_of_le h
    rw [Nat.mul_add x x d, Nat.add_mul x d (x + d), Nat.mul_add x x d, Nat.mul_add d x d, Nat.mul_comm d x]
    generalize x * x = a
    generalize x * d = b
    generalize d * d = c
    omega
  · obtain ⟨d, rfl⟩ := Nat.exists_eq_add_of_le h
    rw [Nat.add_mul y d (y + d), Nat.mul_add y y d, Nat.mul_add d y d, Nat.add_mul y d y, Nat.mul_comm d y]
    generalize y * y = a
    generalize y * d = b
    generalize d * d = c
    omega
theorem cau1 : ∀ n x, 2 * (nSum N cB n * x) ≤ nCnt cB n * (x * x) + nSq N cB n := by
  intro n
  induction n with
  | zero => intro x; rw [show nSum N cB 0 = 0 from rfl, Nat.zero_mul]; omega
  | succ n ih =>
    intro x
    have h1 := ih x
    rw [show nSum N cB (n + 1) = nSum N cB n + (if cB n then N n else 0) from rfl, show nSq N cB (n + 1) = nSq N cB n + (if cB n then N n * N n else 0) from rfl, show nCnt cB (n + 1) = nCnt cB n + (if cB n then 1 else 0) from rfl]
    by_cases hc : cB n = true
    · rw [if_pos hc, if_pos hc, if_pos hc, Nat.add_mul, Nat.add_mul, Nat.one_mul]
      have h2 := sq2 (x := N n) (y := x)
      generalize nSum N cB n * x = a at *
      generalize nCnt cB n * (x * x) = b at *
      generalize N n * x = c at *
      generalize N n * N n = d at *
      generalize x * x = e at *
      omega
    · rw [if_neg hc, if_neg hc, if_neg hc, Nat.add_zero, Nat.add_zero, Nat.add_zero]
      exact h1
theorem cau : ∀ n, nSum N cB n * nSum N cB n ≤ nCnt cB n * nSq N cB n := by
  intro n
  induction n with
  | zero => exact Nat.le_refl _
  | succ n ih =>
    have h1 := cau1 (N := N) (cB := cB) n (N n)
    rw [show nSum N cB (n + 1) = nSum N cB n + (if cB n then N n else 0) from rfl, show nSq N cB (n + 1) = nSq N cB n + (if cB n then N n * N n else 0) from rfl, show nCnt cB (n + 1) = nCnt cB n + (if cB n then 1 else 0) from rfl]
    by_cases hc : cB n = true
    · rw [if_pos hc, if_pos hc, if_pos hc, Nat.mul_add (nSum N cB n + N n), Nat.add_mul (nSum N cB n), Nat.add_mul (nSum N cB n) (N n) (N n), Nat.mul_add, Nat.add_mul (nCnt cB n) 1, Nat.one_mul, Nat.add_mul (nCnt cB n) 1, Nat.one_mul, Nat.mul_comm (N n) (nSum N cB n)]
      generalize nSum N cB n * nSum N cB n = a at *
      generalize nCnt cB n * nSq N cB n = b at *
      generalize nSum N cB n * N n = c at *
      generalize N n * N n = d at *
      generalize nCnt cB n * d = e at *
      generalize nSq N cB n = f at *
      omega
    · rw [if_neg hc, if_neg hc, if_neg hc, Nat.add_zero, Nat.add_zero, Nat.add_zero]
      exact ih
theorem nSum_le (hN : ∀ i, N i ≤ B) : ∀ n, nSum N cB n ≤ n * B := by
  intro n
  induction n with
  | zero => exact Nat.zero_le _
  | succ n ih =>
    rw [show nSum N cB (n + 1) = nSum N cB n + (if cB n then N n else 0) from rfl, Nat.succ_mul]
    have := hN n
    split <;> omega
theorem nSq_le (hN : ∀ i, N i ≤ B) : ∀ n, nSq N cB n ≤ n * (B * B) := by
  intro n
  induction n with
  | zero => exact Nat.zero_le _
  | succ n ih =>
    rw [show nSq N cB (n + 1) = nSq N cB n + (if cB n then N n * N n else 0) from rfl, Nat.succ_mul]
    have := Nat.mul_le_mul (hN n) (hN n)
    split <;> omega
theorem nCnt_le : ∀ n, nCnt cB n ≤ n := by
  intro n
  induction n with
  | zero => exact Nat.le_refl _
  | succ n ih =>
    rw [show nCnt cB (n + 1) = nCnt cB n + (if cB n then 1 else 0) from rfl]
    split <;> omega
theorem nSq_0 : ∀ n, nSq N cB n ≠ 0 → nCnt cB n ≠ 0 ∧ nSum N cB n ≠ 0 := by
  intro n
  induction n with
  | zero => intro h; exact absurd rfl h
  | succ n ih =>
    rw [show nSum N cB (n + 1) = nSum N cB n + (if cB n then N n else 0) from rfl, show nSq N cB (n + 1) = nSq N cB n + (if cB n then N n * N n else 0) from rfl, show nCnt cB (n + 1) = nCnt cB n + (if cB n then 1 else 0) from rfl]
    intro h
    by_cases hc : cB n = true
    · rw [if_pos hc] at h ⊢
      rw [if_pos hc]
      refine ⟨by omega, ?_⟩
      intro e
      have e1 : nSum N cB n = 0 := by omega
      have e2 : N n = 0 := by omega
      rw [e2, Nat.zero_mul, Nat.add_zero] at h
      exact (ih h).2 e1
    · rw [if_neg hc, Nat.add_zero] at h
      rw [if_neg hc, if_neg hc, Nat.add_zero, Nat.add_zero]
      exact ih h
/-- the fairness of whole numbers -/
theorem fr_N (hn : n ≤ 12) (hN : ∀ i, N i ≤ 100000000) : frC (Int64.ofNat (nSum N cB n)) (Int64.ofNat (nSq N cB n)) (Int32.ofNat (nCnt cB n)) = frD (Int64.ofNat (nSum N cB n)) (Int64.ofNat (nSq N cB n)) (Int32.ofNat (nCnt cB n)) ∧ ((Int32.ofNat (nCnt cB n)).toInt64 * Int64.ofNat (nSq N cB n) ≠ 0 → dok (FP.ddiv (FP.l2d (Int64.ofNat (nSum N cB n) * Int64.ofNat (nSum N cB n))) (FP.l2d ((Int32.ofNat (nCnt cB n)).toInt64 * Int64.ofNat (nSq N cB n))))) ∧ (Int64.ofNat (nSq N cB n) ≠ 0 → dok (FP.ddiv (FP.l2d (Int64.ofNat (nSum N cB n) * Int64.ofNat (nSum N cB n))) (FP.l2d ((Int32.ofNat (nCnt cB n)).toInt64 * Int64.ofNat (nSq N cB n))))) ∧ (frC (Int64.ofNat (nSum N cB n)) (Int64.ofNat (nSq N cB n)) (Int32.ofNat (nCnt cB n))).toNat < 4611686018427387904 := by
  have b1 := nSum_le (cB := cB) hN n
  have b2 := nSq_le (cB := cB) hN n
  have b3 := nCnt_le (cB := cB) n
  have b4 := cau (N := N) (cB := cB) n
  have b5 := nSq_0 (N := N) (cB := cB) n
  unfold frC frD
  generalize nSum N cB n = s at *
  generalize nSq N cB n = z at *
  generalize nCnt cB n = c at *
  have hh : (100000000 * 100000000 : Nat) = 10000000000000000 := by decide
  rw [hh] at b2
  have c1 : s ≤ 1200000000 := by omega
  have c2 : z ≤ 120000000000000000 := by omega
  have c3 : c * z ≤ 12 * 120000000000000000 := Nat.mul_le_mul (by omega) c2
  rw [I_j (by omega), J_mul, J_mul]
  by_cases hz : z = 0
  · have h1 : Int64.ofNat z = 0 := by rw [hz]; rfl
    have h2 : Int64.ofNat (c * z) = 0 := by rw [hz, Nat.mul_zero]; rfl
    rw [if_pos h1, if_pos h2]
    exact ⟨rfl, fun e => absurd h2 e, fun e => absurd h1 e, by decide⟩
  · obtain ⟨h1, h2⟩ := b5 hz
    have hcz : c * z ≠ 0 := Nat.mul_ne_zero h1 hz
    have hs : s * s ≠ 0 := Nat.mul_ne_zero h2 h2
    have g1 : ¬ Int64.ofNat z = 0 := fun e => hz (J_inj (by omega) (by decide) e)
    have g2 : ¬ Int64.ofNat (c * z) = 0 := fun e => hcz (J_inj (by omega) (by decide) e)
    rw [if_neg g1, if_neg g2]
    have hd := dok_div (x := s * s) (y := c * z) (by omega) hcz (by omega)
    exact ⟨rfl, fun _ => hd, fun _ => hd, ddiv_lt2 hs b4 (by omega)⟩
theorem cn_eq (h : Lnk k S T n nh t) : cnC S k n i = cnR T n i := by
  unfold cnC cnR
  have := po_ro h false (Int32.ofNat i)
  rw [if_neg (by decide)] at this
  rw [this]
theorem hr_eq (h : Lnk 1 S T n nh t) (hi : i < nh) : ∃ N, N ≤ 100000000 ∧ hwC S 1 b i = Int64.ofNat N ∧ hrR T b i = Int64.ofNat N := by
  have hb := Nat.mod_lt b (show 0 < 24 by decide)
  have h1 := h.1.2.2.2.2.2.2.1 (b % 24) i hb hi
  have h2 := h.2.2.1.2.2 (b % 24) i hb hi
  have h3 := toN_le (v := S.1 (15, 1, 0) (b % 24 * 6 + i)) (m := 143856) h2.1 h2.2
  refine ⟨(S.1 (15, 1, 0) (b % 24 * 6 + i)).toNatClampNeg, by omega, ?_, ?_⟩
  · unfold hwC
    conv => lhs; rw [h3.1]
    exact I_j (by omega)
  · unfold hrR
    rw [← h1]
    conv => lhs; rw [h3.1]
    exact I_j (by omega)
theorem fSum_congr {g g' : Nat → Int64} {c c' : Nat → Bool} : ∀ n, (∀ i, i < n → g i = g' i ∧ c i = c' i) → fSum g c n = fSum g' c' n ∧ fSq g c n = fSq g' c' n ∧ fCnt c n = fCnt c' n := by
  intro n
  induction n with
  | zero => intro _; exact ⟨rfl, rfl, rfl⟩
  | succ n ih =>
    intro h
    obtain ⟨i1, i2, i3⟩ := ih (fun i hi => h i (by omega))
    obtain ⟨e1, e2⟩ := h n (by omega)
    refine ⟨?_, ?_, ?_⟩
    · show fSum g c n + (if c n then g n else 0) = fSum g' c' n + (if c' n then g' n else 0)
      rw [i1, e1, e2]
    · show fSq g c n + (if c n then g n * g n else 0) = fSq g' c' n + (if c' n then g' n * g' n else 0)
      rw [i2, e1, e2]
    · show fCnt c n + (if c n then 1 else 0) = fCnt c' n + (if c' n then 1 else 0)
      rw [i3, e2]
theorem fr_h (h : Lnk 1 S T n nh t) : Hfc S 1 n nh b ∧ Hfr T n nh b ∧ fhC S 1 n nh b = fhR T n nh b ∧ (fhC S 1 n nh b).toNat < 4611686018427387904 := by
  have hnh := h.2.1.2.1
  have hx : ∀ i, ∃ N, N ≤ 100000000 ∧ (i < nh → hwC S 1 b i = Int64.ofNat N ∧ hrR T b i = Int64.ofNat N) := fun i => by
    by_cases hi : i < nh
    · obtain ⟨N, h1, h2⟩ := hr_eq (b := b) h hi
      exact ⟨N, h1, fun _ => h2⟩
    · exact ⟨0, by omega, fun e => absurd e hi⟩
  have hN : ∀ i, Classical.choose (hx i) ≤ 100000000 := fun i => (Classical.choose_spec (hx i)).1
  have hM : ∀ i, i < nh → hwC S 1 b i = Int64.ofNat (Classical.choose (hx i)) ∧ hrR T b i = Int64.ofNat (Classical.choose (hx i)) := fun i => (Classical.choose_spec (hx i)).2
  obtain ⟨N, hNN⟩ : ∃ N : Nat → Nat, N = fun i => Classical.choose (hx i) := ⟨_, rfl⟩
  have hN2 : ∀ i, N i ≤ 100000000 := fun i => by rw [hNN]; exact hN i
  have hM2 : ∀ i, i < nh → hwC S 1 b i = Int64.ofNat (N i) ∧ hrR T b i = Int64.ofNat (N i) := fun i hi => by rw [hNN]; exact hM i hi
  have hcc := fSum_congr (g := hwC S 1 b) (g' := hrR T b) (c := cnC S 1 n) (c' := cnR T n) nh (fun i hi => ⟨(hM2 i hi).1.trans (hM2 i hi).2.symm, cn_eq h⟩)
  have s1 := fSum_N (cB := cnC S 1 n) nh (fun i hi => (hM2 i hi).1)
  have s2 := fSq_N (cB := cnC S 1 n) nh (fun i hi => (hM2 i hi).1)
  have s3 := fCnt_N (cB := cnC S 1 n) nh
  have key := fr_N (N := N) (cB := cnC S 1 n) (n := nh) (by omega) hN2
  unfold Hfc Hfr fhC fhR
  rw [← hcc.1, ← hcc.2.1, ← hcc.2.2, s1, s2, s3]
  exact ⟨key.2.1, key.2.2.1, key.1, key.2.2.2⟩
theorem fr_p (h : Lnk 1 S T n nh t) (ht : t ≤ 100000) : ((Int32.ofNat n).toInt64 * fSq (dlC S) (fun _ => true) n ≠ 0 → dok (FP.ddiv (FP.l2d (fSum (dlC S) (fun _ => true) n * fSum (dlC S) (fun _ => true) n)) (FP.l2d ((Int32.ofNat n).toInt64 * fSq (dlC S) (fun _ => true) n)))) ∧ (fSq (dlR T) (fun _ => true) n ≠ 0 → dok (FP.ddiv (FP.l2d (fSum (dlR T) (fun _ => true) n * fSum (dlR T) (fun _ => true) n)) (FP.l2d ((Int32.ofNat n).toInt64 * fSq (dlR T) (fun _ => true) n)))) ∧ fpC S n = fpR T n ∧ (fpC S n).toNat < 4611686018427387904 := by
  have hn := h.2.1.1
  have hx : ∀ i, ∃ N, N ≤ 100000000 ∧ (i < n → dlC S i = Int64.ofNat N ∧ dlR T i = Int64.ofNat N) := fun i => by
    by_cases hi : i < n
    · have e1 := cnt_eq h hi (w := 5) (by decide)
      have e2 := h.2.2.1.1 i hi 5 (by decide)
      have e3 := toJ_le (v := S.2.1 (19, 1, i) 5) (m := 99900000) e2.1 (by omega) (by decide)
      refine ⟨(S.2.1 (19, 1, i) 5).toInt.toNat, by omega, fun _ => ⟨e3.1, ?_⟩⟩
      show gC T i 5 = _
      rw [← e1]
      exact e3.1
    · exact ⟨0, by omega, fun e => absurd e hi⟩
  have hN : ∀ i, Classical.choose (hx i) ≤ 100000000 := fun i => (Classical.choose_spec (hx i)).1
  have hM : ∀ i, i < n → dlC S i = Int64.ofNat (Classical.choose (hx i)) ∧ dlR T i = Int64.ofNat (Classical.choose (hx i)) := fun i => (Classical.choose_spec (hx i)).2
  obtain ⟨N, hNN⟩ : ∃ N : Nat → Nat, N = fun i => Classical.choose (hx i) := ⟨_, rfl⟩
  have hN2 : ∀ i, N i ≤ 100000000 := fun i => by rw [hNN]; exact hN i
  have hM2 : ∀ i, i < n → dlC S i = Int64.ofNat (N i) ∧ dlR T i = Int64.ofNat (N i) := fun i hi => by rw [hNN]; exact hM i hi
  have hcc := fSum_congr (g := dlC S) (g' := dlR T) (c := fun _ => true) (c' := fun _ => true) n (fun i hi => ⟨(hM2 i hi).1.trans (hM2 i hi).2.symm, rfl⟩)
  have s1 := fSum_N (cB := fun _ => true) n (fun i hi => (hM2 i hi).1)
  have s2 := fSq_N (cB := fun _ => true) n (fun i hi => (hM2 i hi).1)
  have key := fr_N (N := N) (cB := fun _ => true) (n := n) hn hN2
  rw [nCnt_all] at key
  unfold fpC fpR
  rw [← hcc.1, ← hcc.2.1, s1, s2]
  exact ⟨key.2.1, key.2.2.1, key.1, key.2.2.2⟩
theorem uf_eq {f : Nat → UInt64} (hf : ∀ b, (f b).toNat < 4611686018427387904) : ∀ j i, ufC f i j (-1) 4611686018427387904 = fdV (ufR f i j none) := by
  have h1 : ∀ j i k, ufC f i j (Int32.ofNat k) (f k) = fdV (ufR f i j (some k)) := by
    intro j
    induction j with
    | zero => intro i k; rfl
    | succ j ih =>
      intro i k
      rw [show ufC f i (j + 1) (Int32.ofNat k) (f k) = if dlt (f i) (f k) then ufC f (i + 1) j (Int32.ofNat i) (f i) else ufC f (i + 1) j (Int32.ofNat k) (f k) from rfl, show ufR f i (j + 1) (some k) = ufR f (i + 1) j (if dlt (f i) (f k) then some i else some k) from rfl]
      by_cases hd : dlt (f i) (f k)
      · rw [if_pos hd, if_pos hd]; exact ih _ _
      · rw [if_neg hd, if_neg hd]; exact ih _ _
  intro j i
  cases j with
  | zero => rfl
  | succ j =>
    rw [show ufC f i (j + 1) (-1) 4611686018427387904 = if dlt (f i) 4611686018427387904 then ufC f (i + 1) j (Int32.ofNat i) (f i) else ufC f (i + 1) j (-1) 4611686018427387904 from rfl, if_pos (dlt2 (hf i))]
    exact h1 j (i + 1) i
theorem sv_eq (h : Lnk 1 S T n nh t) (hi : i < n) (ht : t ≤ 100000) : svC S i = svD T i ∧ (¬ S.2.1 (19, 1, i) 0 ≤ 0 → fok (FP.fdiv (FP.l2f (S.2.1 (19, 1, i) 5)) (FP.l2f (S.2.1 (19, 1, i) 0)))) ∧ (gC T i 0 ≠ 0 → fok (FP.fdiv (FP.l2f (gC T i 5)) (FP.l2f (gC T i 0)))) ∧ (svC S i).toNat ≤ 2139095040 := by
  have e0 := cnt_eq h hi (w := 0) (by decide)
  have e5 := cnt_eq h hi (w := 5) (by decide)
  have b0 := h.2.2.1.1 i hi 0 (by decide)
  have b5 := h.2.2.1.1 i hi 5 (by decide)
  have d0 := toJ_le (v := S.2.1 (19, 1, i) 0) (m := 99900000) b0.1 (by omega) (by decide)
  have d5 := toJ_le (v := S.2.1 (19, 1, i) 5) (m := 99900000) b5.1 (by omega) (by decide)
  unfold svC svD
  rw [← e0, ← e5]
  generalize S.2.1 (19, 1, i) 0 = v0 at *
  generalize S.2.1 (19, 1, i) 5 = v5 at *
  have n0 : (v0 ≤ 0) = (v0 = 0) := propext ⟨fun e => by
    have e2 : v0.toInt ≤ 0 := Int64.le_iff_toInt_le.mp e
    exact Int64.toInt_inj.mp (show v0.toInt = 0 by omega), fun e => by rw [e]; decide⟩
  have key : v0 ≠ 0 → (FP.fdiv (FP.l2f v5) (FP.l2f v0)).toNat ≤ 2139095040 := fun e => by
    rw [d0.1, d5.1]
    refine fdiv_le (by omega) ?_ (by omega)
    intro e2
    have d1 := d0.1
    rw [e2] at d1
    exact e (d1.trans rfl)
  by_cases hv : v0 = 0
  · have h1 : v0 ≤ 0 := by rw [hv]; decide
    rw [if_pos h1, if_pos hv]
    exact ⟨rfl, fun e => absurd h1 e, fun e => absurd hv e, by decide⟩
  · have h1 : ¬ v0 ≤ 0 := fun e => hv (n0 ▸ e)
    have k := key hv
    rw [if_neg h1, if_neg hv]
    exact ⟨rfl, fun _ => fok_of (by omega), fun _ => fok_of (by omega), k⟩
end FA1
