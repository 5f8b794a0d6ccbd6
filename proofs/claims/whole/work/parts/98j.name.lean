section NM
variable {n k p i h z m u f s c d x j : Nat} {S S' T T' U V R : St} {q : Int32} {v w v' w' : Int64} {l l' : List Nat}
/-! NAMES -/
theorem nmC_s : ∀ (l : List Nat) s, nmC l s = 2 ^ s * nmC l 0 := by
  intro l
  induction l with
  | nil => intro s; rfl
  | cons c l ih =>
    intro s
    show c * 2 ^ s + nmC l (s + 5) = 2 ^ s * (c * 2 ^ 0 + nmC l (0 + 5))
    rw [ih (s + 5), ih (0 + 5), Nat.pow_add, Nat.mul_add, Nat.pow_zero, Nat.mul_one, Nat.zero_add, Nat.mul_assoc, Nat.mul_comm c]
theorem nmC_cons : nmC (c :: l) 0 = c + 32 * nmC l 0 := by
  show c * 2 ^ 0 + nmC l (0 + 5) = _
  rw [nmC_s l (0 + 5), Nat.pow_zero, Nat.mul_one]
theorem nmR_a : ∀ (l : List Nat) a, nmR l a = a * 32 ^ l.length + nmR l 0 := by
  intro l
  induction l with
  | nil => intro a; show a = a * 32 ^ 0 + 0; rw [Nat.pow_zero]; omega
  | cons c l ih =>
    intro a
    show nmR l (32 * a + c) = a * 32 ^ (l.length + 1) + nmR l (32 * 0 + c)
    rw [ih (32 * a + c), ih (32 * 0 + c), Nat.pow_succ, Nat.add_mul, Nat.mul_zero, Nat.zero_add, Nat.mul_comm 32 a, Nat.mul_assoc, Nat.mul_comm 32, Nat.add_assoc]
theorem nmR_cons : nmR (c :: l) 0 = c * 32 ^ l.length + nmR l 0 := by
  show nmR l (32 * 0 + c) = _
  rw [nmR_a l, Nat.mul_zero, Nat.zero_add]
def Ltr (l : List Nat) : Prop := ∀ c, c ∈ l → 1 ≤ c ∧ c ≤ 26
theorem Ltr_t (h : Ltr (c :: l)) : Ltr l := fun d hd => h d (List.mem_cons_of_mem _ hd)
theorem Ltr_h (h : Ltr (c :: l)) : 1 ≤ c ∧ c ≤ 26 := h c List.mem_cons_self
theorem nmC_lt : ∀ l, Ltr l → nmC l 0 < 32 ^ l.length := by
  intro l
  induction l with
  | nil => intro _; exact Nat.zero_lt_one
  | cons c l ih =>
    intro h
    have h1 := ih (Ltr_t h)
    have h2 := Ltr_h h
    rw [nmC_cons, List.length_cons, Nat.pow_succ]
    omega
theorem nmR_lt : ∀ l, Ltr l → nmR l 0 < 32 ^ l.length := by
  intro l
  induction l with
  | nil => intro _; exact Nat.zero_lt_one
  | cons c l ih =>
    intro h
    have h1 := ih (Ltr_t h)
    have h2 := Ltr_h h
    rw [nmR_cons, List.length_cons, Nat.pow_succ]
    have h3 := Nat.mul_le_mul_right (32 ^ l.length) h2.2
    omega
theorem nmC_at : ∀ l i, Ltr l → nmC l 0 / 2 ^ (5 * i) % 32 = l.getD i 0 := by
  intro l
  induction l with
  | nil => intro i _; show 0 / 2 ^ (5 * i) % 32 = _; rw [Nat.zero_div]; rfl
  | cons c l ih =>
    intro i h
    have h2 := Ltr_h h
    rw [nmC_cons]
    cases i with
    | zero =>
      show (c + 32 * nmC l 0) / 1 % 32 = c
      omega
    | succ i =>
      rw [show 5 * (i + 1) = 5 + 5 * i by omega, Nat.pow_add, ← Nat.div_div_eq_div_mul, show (c + 32 * nmC l 0) / 2 ^ 5 = nmC l 0 by omega, ih i (Ltr_t h)]
      rfl
theorem nmR_at : ∀ l i, Ltr l → i < l.length → nmR l 0 / 2 ^ (5 * (l.length - 1 - i)) % 32 = l.getD i 0 := by
  intro l
  induction l with
  | nil => intro i _ hi; exact absurd hi (Nat.not_lt_zero i)
  | cons c l ih =>
    intro i h hi
    have h2 := Ltr_h h
    have h3 := nmR_lt l (Ltr_t h)
    have e32 : ∀ z, (2 : Nat) ^ (5 * z) = 32 ^ z := fun z => by rw [Nat.pow_mul]
    rw [nmR_cons, e32, List.length_cons]
    cases i with
    | zero =>
      rw [show l.length + 1 - 1 - 0 = l.length by omega, Nat.add_comm, Nat.add_mul_div_right _ _ (Nat.pow_pos (by decide)), Nat.div_eq_of_lt h3]
      show (0 + c) % 32 = c
      omega
    | succ i =>
      rw [List.length_cons] at hi
      have hi2 : i < l.length := by omega
      have hih := ih i (Ltr_t h) hi2
      rw [e32] at hih
      rw [show l.length + 1 - 1 - (i + 1) = l.length - 1 - i by omega]
      have e : (32 : Nat) ^ l.length = 32 * 32 ^ i * 32 ^ (l.length - 1 - i) := by
        rw [show 32 * 32 ^ i = 32 ^ (i + 1) by rw [Nat.pow_succ, Nat.mul_comm], ← Nat.pow_add]
        congr 1
        omega
      rw [e, ← Nat.mul_assoc, Nat.add_comm, Nat.add_mul_div_right _ _ (Nat.pow_pos (by decide)), show c * (32 * 32 ^ i) = 32 * (c * 32 ^ i) by rw [← Nat.mul_assoc, Nat.mul_comm c 32, Nat.mul_assoc], Nat.add_mul_mod_self_left, hih]
      rfl
/-- shifts of longs -/
theorem J_shr {b : Int64} (hb : b.toBitVec.smod 64 = BitVec.ofNat 64 s) (hs : s < 64) (hx : x < 2 ^ 63) : (Int64.ofNat x) >>> b = Int64.ofNat (x / 2 ^ s) := by
  apply Int64.toInt_inj.mp
  have h1 : x / 2 ^ s < 2 ^ 63 := Nat.lt_of_le_of_lt (Nat.div_le_self _ _) hx
  rw [J_ofNat h1]
  have e : ((Int64.ofNat x) >>> b).toInt = (Int64.ofNat x).toInt >>> s := by
    rw [← Int64.toInt_toBitVec, Int64.toBitVec_shiftRight, hb]
    show (BitVec.sshiftRight (Int64.ofNat x).toBitVec (BitVec.ofNat 64 s).toNat).toInt = _
    rw [BitVec.toInt_sshiftRight, BitVec.toNat_ofNat, Nat.mod_eq_of_lt (by omega), Int64.toInt_toBitVec]
  rw [e, J_ofNat hx, Int.shiftRight_eq_div_pow]
  exact (Int.natCast_ediv x (2 ^ s)).symm ▸ by simp
theorem J_shr5 (hx : x < 2 ^ 63) : (Int64.ofNat x) >>> 5 = Int64.ofNat (x / 32) := J_shr (s := 5) (by decide) (by decide) hx
theorem I_and31 : Int32.ofNat x &&& 31 = Int32.ofNat (x % 32) := by
  apply Int32.toBitVec_inj.mp
  apply BitVec.eq_of_toNat_eq
  rw [Int32.toBitVec_and, BitVec.toNat_and]
  show (x % 2 ^ 32) &&& 31 = (x % 32) % 2 ^ 32
  rw [show (31 : Nat) = 2 ^ 5 - 1 from rfl, Nat.and_two_pow_sub_one_eq_mod]
  omega
theorem J_and31 : Int64.ofNat x &&& 31 = Int64.ofNat (x % 32) := by
  apply Int64.toBitVec_inj.mp
  apply BitVec.eq_of_toNat_eq
  rw [Int64.toBitVec_and, BitVec.toNat_and]
  show (x % 2 ^ 64) &&& 31 = (x % 32) % 2 ^ 64
  rw [show (31 : Nat) = 2 ^ 5 - 1 from rfl, Nat.and_two_pow_sub_one_eq_mod]
  omega
theorem shA (hi : i < 8) : (((5 : Int32) * Int32.ofNat i).toInt64 &&& 63).toBitVec.smod 64 = BitVec.ofNat 64 (5 * i) := by
  rcases (show i = 0 ∨ i = 1 ∨ i = 2 ∨ i = 3 ∨ i = 4 ∨ i = 5 ∨ i = 6 ∨ i = 7 by omega) with e | e | e | e | e | e | e | e <;> subst e <;> decide
/-- how many letters -/
theorem lnN_of : ∀ j d x, x < 2 ^ 63 → d ≤ j → x < 32 ^ d → (0 < d → 32 ^ (d - 1) ≤ x) → lnN (Int64.ofNat x) j = d := by
  intro j
  induction j with
  | zero => intro d x _ hd _ _; have : d = 0 := by omega
            subst this; rfl
  | succ j ih =>
    intro d x hx hd h1 h2
    unfold lnN
    cases d with
    | zero =>
      have : x = 0 := by have : x < 1 := h1; omega
      subst this
      rw [if_pos (show Int64.ofNat 0 = 0 from rfl)]
    | succ d =>
      have h3 := h2 (by omega)
      rw [show d + 1 - 1 = d by omega] at h3
      have h4 : 0 < 32 ^ d := Nat.pow_pos (by decide)
      have hne : ¬ Int64.ofNat x = 0 := fun e => by
        have e2 := congrArg Int64.toInt e
        rw [J_ofNat hx, show (0 : Int64).toInt = 0 from rfl] at e2
        omega
      rw [Nat.pow_succ] at h1
      rw [if_neg hne, J_shr5 hx, ih d (x / 32) (by omega) (by omega) (by omega) (fun hd0 => by
        have e : 32 ^ d = 32 ^ (d - 1) * 32 := by rw [← Nat.pow_succ]; congr 1; omega
        omega)]
      omega
theorem s5_of : ∀ j x, x < 2 ^ 63 → x < 32 ^ j → s5 (Int64.ofNat x) j = 0 := by
  intro j
  induction j with
  | zero => intro x _ h; have : x = 0 := by have : x < 1 := h; omega
            subst this; rfl
  | succ j ih =>
    intro x hx h
    rw [Nat.pow_succ] at h
    unfold s5
    rw [J_shr5 hx]
    exact ih _ (by omega) (by omega)
theorem p8 (h : l.length ≤ 8) (hx : x < 32 ^ l.length) : x < 2 ^ 40 := by
  have h1 : 32 ^ l.length ≤ 32 ^ 8 := Nat.pow_le_pow_right (by decide) h
  have h2 : (32 : Nat) ^ 8 = 2 ^ 40 := by decide
  omega
theorem nmR_ge : ∀ l, Ltr l → 0 < l.length → 32 ^ (l.length - 1) ≤ nmR l 0 := by
  intro l h hl
  cases l with
  | nil => exact absurd hl (Nat.not_lt_zero 0)
  | cons c l =>
    have h2 := Ltr_h h
    rw [nmR_cons, List.length_cons, Nat.add_sub_cancel]
    have h3 := Nat.mul_le_mul_right (32 ^ l.length) h2.1
    omega
theorem nm_len (h8 : l.length ≤ 8) (hL : Ltr l) : lnN (Int64.ofNat (nmR l 0)) 8 = l.length := by
  have h1 := nmR_lt l hL
  have h2 := p8 h8 h1
  exact lnN_of 8 l.length _ (by omega) h8 h1 (nmR_ge l hL)
theorem nm_s5 (h : NmP v w) : s5 w 8 = 0 := by
  obtain ⟨l, h8, hL, _, hw⟩ := h
  have h1 := p8 h8 (nmR_lt l hL)
  rw [hw]
  exact s5_of 8 _ (by omega) (by have : (32 : Nat) ^ 8 = 2 ^ 40 := by decide
                                 omega)
theorem getD_0 {i : Nat} (h : l.length ≤ i) : l.getD i 0 = 0 := by simp [List.getD_eq_getElem?_getD, List.getElem?_eq_none h]
/-- the letters on both sides -/
theorem ltF_at (h8 : l.length ≤ 8) (hL : Ltr l) (hi : i < 8) : ltF (Int64.ofNat (nmC l 0)) (Int32.ofNat i) = Int32.ofNat (l.getD i 0) := by
  have h1 := p8 h8 (nmC_lt l hL)
  unfold ltF
  rw [if_neg (fun e => by
    rcases e with e | e
    · rw [oN_neg (by omega)] at e; exact e
    · rw [show (8 : Int32) = Int32.ofNat 8 from rfl, oN_le (by omega) (by decide)] at e
      omega), J_shr (shA hi) (by omega) (by omega), J_i, I_and31, nmC_at l i hL]
theorem loN_at (h8 : l.length ≤ 8) (hL : Ltr l) (hi : i < 8) : loN (Int64.ofNat (nmR l 0)) (Int32.ofNat i) = Int32.ofNat (l.getD i 0) := by
  have h1 := p8 h8 (nmR_lt l hL)
  unfold loN
  rw [nm_len h8 hL]
  by_cases e : l.length ≤ i
  · rw [if_pos (Or.inr (by rw [oN_le (by omega) (by omega)]; exact e)), getD_0 e]
    rfl
  · rw [if_neg (fun e2 => by
      rcases e2 with e2 | e2
      · rw [oN_neg (by omega)] at e2; exact e2
      · rw [oN_le (by omega) (by omega)] at e2
        omega), show (1 : Int32) = Int32.ofNat 1 from rfl, oN_sub (by omega), oN_sub (by omega), J_shr (shA (i := l.length - 1 - i) (by omega)) (by omega) (by omega), J_and31, J_i, nmR_at l i hL (by omega)]
theorem nm_lt (h : NmP v w) : ltF v q = loN w q := by
  obtain ⟨l, h8, hL, hv, hw⟩ := h
  by_cases h0 : q < 0 ∨ 8 ≤ q
  · have h1 : q < 0 ∨ Int32.ofNat (lnN w 8) ≤ q := by
      rcases h0 with e | e
      · exact Or.inl e
      · refine Or.inr ?_
        have := lnN_le (v := w) 8
        rw [leI] at e ⊢
        rw [show (8 : Int32).toInt = 8 from rfl] at e
        rw [oN_toInt (by omega)]
        omega
    unfold ltF loN
    rw [if_pos h0, if_pos h1]
  · have h2 : 0 ≤ q.toInt ∧ q.toInt ≤ 7 := by
      rw [ltI, leI, show (0 : Int32).toInt = 0 from rfl, show (8 : Int32).toInt = 8 from rfl] at h0
      omega
    have h3 := toN_le (v := q) (m := 7) h2.1 h2.2
    rw [h3.1, hv, hw, ltF_at h8 hL (by omega), loN_at h8 hL (by omega)]
end NM
