section FL1
variable {n k p i h z m u f s c d x j e a b g r y t D L E : Nat} {q : Int} {F : FP.Fmt}
/-! FLOATING NUMBERS -/
def Fk (F : FP.Fmt) : Prop := 2 ^ F.p = 2 * F.tails ∧ F.qmax - F.qmin + 3 = (F.exps : Int) ∧ 2 ≤ F.tails ∧ 4 ≤ F.exps
theorem Fk_64 : Fk FP.b64 := ⟨by decide, by decide, by decide, by decide⟩
theorem Fk_32 : Fk FP.b32 := ⟨by decide, by decide, by decide, by decide⟩
theorem asm0 {E T : Nat} : FP.assemble F false E T = E * F.tails + T := by
  unfold FP.assemble
  rw [show false.toNat = 0 from rfl, Nat.zero_mul, Nat.zero_add]
theorem enc_bd (hF : Fk F) (hc : c < 2 * F.tails) (hq : F.qmin ≤ q) : FP.encode F (FP.bound F false c q) ≤ (F.exps - 1) * F.tails := by
  obtain ⟨f1, f2, f3, f4⟩ := hF
  unfold FP.bound
  by_cases hm : q ≤ F.qmax
  · rw [if_pos hm]
    unfold FP.encode
    by_cases hct : c < F.tails
    · rw [if_pos hct, asm0]
      have := Nat.mul_le_mul_right F.tails (show 1 ≤ F.exps - 1 by omega)
      omega
    · rw [if_neg hct, asm0]
      have := Nat.mul_le_mul_right F.tails (show (q - F.qmin).toNat + 1 + 1 ≤ F.exps - 1 by omega)
      rw [Nat.add_mul ((q - F.qmin).toNat + 1) 1, Nat.one_mul] at this
      omega
  · rw [if_neg hm]
    show FP.assemble F false (F.exps - 1) 0 ≤ _
    rw [asm0]
    exact Nat.le_refl _
theorem enc_st (hF : Fk F) (hq : F.qmin ≤ q) : FP.encode F (FP.settle F false c q) ≤ (F.exps - 1) * F.tails := by
  have h2 := hF
  obtain ⟨f1, f2, f3, f4⟩ := hF
  unfold FP.settle
  rw [f1]
  by_cases hc : c < 2 * F.tails
  · rw [if_pos hc]; exact enc_bd h2 hc hq
  · rw [if_neg hc]; exact enc_bd h2 (by omega) (by omega)
theorem enc_rr (hF : Fk F) : FP.encode F (FP.roundRatio F false n d q) ≤ (F.exps - 1) * F.tails := by
  unfold FP.roundRatio
  by_cases hn : n = 0
  · rw [if_pos hn]
    obtain ⟨f1, f2, f3, f4⟩ := hF
    show (if 0 < F.tails then FP.assemble F false 0 0 else _) ≤ _
    rw [if_pos (by omega), asm0]
    omega
  · rw [if_neg hn]
    unfold FP.roundAt
    exact enc_st hF (by unfold FP.quantum; exact Int.le_max_left _ _)
theorem dec_nn (hF : Fk F) (hn : n ≤ (F.exps - 1) * F.tails) : FP.decode F n = .inf false ∨ ∃ c q, FP.decode F n = .fin false c q := by
  obtain ⟨f1, f2, f3, f4⟩ := hF
  have h1 : n / F.tails ≤ F.exps - 1 := by
    have := Nat.div_le_div_right (c := F.tails) hn
    rwa [Nat.mul_div_cancel _ (by omega)] at this
  have hS : FP.fieldS F n = false := by
    unfold FP.fieldS
    rw [Nat.div_eq_of_lt (by omega : n / F.tails < F.exps)]
    rfl
  have hE : FP.fieldE F n = n / F.tails := by
    unfold FP.fieldE
    exact Nat.mod_eq_of_lt (by omega)
  unfold FP.decode
  rw [hS, hE]
  by_cases he : n / F.tails = F.exps - 1
  · rw [if_pos he]
    have h3 := Nat.div_add_mod n F.tails
    rw [he, Nat.mul_comm] at h3
    have : FP.fieldT F n = 0 := by unfold FP.fieldT; omega
    rw [if_pos this]
    exact Or.inl rfl
  · rw [if_neg he]
    by_cases h0 : n / F.tails = 0
    · rw [if_pos h0]; exact Or.inr ⟨_, _, rfl⟩
    · rw [if_neg h0]; exact Or.inr ⟨_, _, rfl⟩
theorem dec_enc (hF : Fk F) (hc : F.tails ≤ c) (hc2 : c < 2 * F.tails) (hq : F.qmin ≤ q) (hq2 : q ≤ F.qmax) : FP.decode F (FP.encode F (.fin false c q)) = .fin false c q := by
  obtain ⟨f1, f2, f3, f4⟩ := hF
  have he : FP.encode F (.fin false c q) = ((q - F.qmin).toNat + 1) * F.tails + (c - F.tails) := by
    unfold FP.encode
    rw [if_neg (by omega), asm0]
  rw [he]
  generalize hEE : (q - F.qmin).toNat + 1 = E
  have h1 : (E * F.tails + (c - F.tails)) / F.tails = E := by
    rw [Nat.mul_comm, Nat.mul_add_div (by omega), Nat.div_eq_of_lt (by omega), Nat.add_zero]
  have h2 : (E * F.tails + (c - F.tails)) % F.tails = c - F.tails := by
    rw [Nat.mul_comm, Nat.mul_add_mod, Nat.mod_eq_of_lt (by omega)]
  unfold FP.decode FP.fieldE FP.fieldT FP.fieldS
  rw [h1, h2, Nat.mod_eq_of_lt (by omega), if_neg (by omega), if_neg (by omega), Nat.div_eq_of_lt (by omega)]
  have e1 : F.tails + (c - F.tails) = c := by omega
  have e2 : F.qmin + ((E : Int) - 1) = q := by omega
  rw [e1, e2]
  rfl
theorem nrst (hd : 0 < d) : 2 * (d * FP.nearest n d) ≤ 2 * n + d ∧ 2 * n ≤ 2 * (d * FP.nearest n d) + d ∧ n / d ≤ FP.nearest n d ∧ FP.nearest n d ≤ n / d + 1 := by
  have h := Nat.div_add_mod n d
  have h2 := Nat.mod_lt n hd
  unfold FP.nearest
  by_cases c1 : 2 * (n % d) < d
  · rw [if_pos c1]
    omega
  · rw [if_neg c1]
    by_cases c2 : d < 2 * (n % d)
    · rw [if_pos c2, Nat.mul_add, Nat.mul_one]
      omega
    · rw [if_neg c2]
      rcases (show n / d % 2 = 0 ∨ n / d % 2 = 1 by omega) with e | e
      · rw [e, Nat.add_zero]; omega
      · rw [e, Nat.mul_add, Nat.mul_one]; omega
theorem lead1 (hx : x ≠ 0) : FP.leading x 1 = (x.log2 : Int) := by
  unfold FP.leading
  have h := Nat.log2_self_le hx
  rw [show Nat.log2 1 = 0 from by decide]
  dsimp only
  rw [show ((x.log2 : Int) - (0 : Nat) : Int) = (x.log2 : Int) by omega, show (-(x.log2 : Int)).toNat = 0 by omega, show ((x.log2 : Int)).toNat = x.log2 by omega, Nat.one_mul, Nat.pow_zero, Nat.mul_one, if_pos h]
end FL1
