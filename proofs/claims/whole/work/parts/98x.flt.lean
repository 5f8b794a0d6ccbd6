section FL1
variable {n k p i h z m u f s c d x j e a b g r y t D L E : Nat} {q : Int} {F : FP.Core.Fmt}
/-! FLOATING NUMBERS -/
def Fk (F : FP.Core.Fmt) : Prop := 2 ^ F.p = 2 * F.tails ∧ F.qmax - F.qmin + 3 = (F.exps : Int) ∧ 2 ≤ F.tails ∧ 4 ≤ F.exps
theorem Fk_64 : Fk FP.Core.b64 := ⟨by decide, by decide, by decide, by decide⟩
theorem Fk_32 : Fk FP.Core.b32 := ⟨by decide, by decide, by decide, by decide⟩
theorem asm0 {E T : Nat} : FP.Core.assemble F false E T = E * F.tails + T := by
  unfold FP.Core.assemble
  rw [show false.toNat = 0 from rfl, Nat.zero_mul, Nat.zero_add]
theorem enc_fin : FP.Core.encode F (.fin false c q) = if c < F.tails then FP.Core.assemble F false 0 c else FP.Core.assemble F false ((q - F.qmin).toNat + 1) (c - F.tails) := rfl
theorem enc_bd (hF : Fk F) (hc : c < 2 * F.tails) (hq : F.qmin ≤ q) : FP.Core.encode F (FP.Core.bound F false c q) ≤ (F.exps - 1) * F.tails := by
  obtain ⟨f1, f2, f3, f4⟩ := hF
  unfold FP.Core.bound
  by_cases hm : q ≤ F.qmax
  · rw [if_pos hm]
    rw [enc_fin]
    by_cases hct : c < F.tails
    · rw [if_pos hct, asm0]
      have := Nat.mul_le_mul_right F.tails (show 1 ≤ F.exps - 1 by omega)
      omega
    · rw [if_neg hct, asm0]
      have := Nat.mul_le_mul_right F.tails (show (q - F.qmin).toNat + 1 + 1 ≤ F.exps - 1 by omega)
      rw [Nat.add_mul ((q - F.qmin).toNat + 1) 1, Nat.one_mul] at this
      omega
  · rw [if_neg hm]
    show FP.Core.assemble F false (F.exps - 1) 0 ≤ _
    rw [asm0]
    exact Nat.le_refl _
theorem enc_st (hF : Fk F) (hq : F.qmin ≤ q) : FP.Core.encode F (FP.Core.settle F false c q) ≤ (F.exps - 1) * F.tails := by
  have h2 := hF
  obtain ⟨f1, f2, f3, f4⟩ := hF
  unfold FP.Core.settle
  rw [f1]
  by_cases hc : c < 2 * F.tails
  · rw [if_pos hc]; exact enc_bd h2 hc hq
  · rw [if_neg hc]; exact enc_bd h2 (by omega) (by omega)
theorem enc_rr (hF : Fk F) : FP.Core.encode F (FP.Core.roundRatio F false n d q) ≤ (F.exps - 1) * F.tails := by
  unfold FP.Core.roundRatio
  by_cases hn : n = 0
  · rw [if_pos hn]
    obtain ⟨f1, f2, f3, f4⟩ := hF
    show (if 0 < F.tails then FP.Core.assemble F false 0 0 else _) ≤ _
    rw [if_pos (by omega), asm0]
    omega
  · rw [if_neg hn]
    unfold FP.Core.roundAt
    exact enc_st hF (by unfold FP.Core.quantum; exact Int.le_max_left _ _)
theorem dec_nn (hF : Fk F) (hn : n ≤ (F.exps - 1) * F.tails) : FP.Core.decode F n = .inf false ∨ ∃ c q, FP.Core.decode F n = .fin false c q := by
  obtain ⟨f1, f2, f3, f4⟩ := hF
  have h1 : n / F.tails ≤ F.exps - 1 := by
    have := Nat.div_le_div_right (c := F.tails) hn
    rwa [Nat.mul_div_cancel _ (by omega)] at this
  have hS : FP.Core.fieldS F n = false := by
    unfold FP.Core.fieldS
    rw [Nat.div_eq_of_lt (by omega : n / F.tails < F.exps)]
    rfl
  have hE : FP.Core.fieldE F n = n / F.tails := by
    unfold FP.Core.fieldE
    exact Nat.mod_eq_of_lt (by omega)
  unfold FP.Core.decode
  rw [hS, hE]
  by_cases he : n / F.tails = F.exps - 1
  · rw [if_pos he]
    have h3 := Nat.div_add_mod n F.tails
    rw [he, Nat.mul_comm] at h3
    have : FP.Core.fieldT F n = 0 := by unfold FP.Core.fieldT; omega
    rw [if_pos this]
    exact Or.inl rfl
  · rw [if_neg he]
    by_cases h0 : n / F.tails = 0
    · rw [if_pos h0]; exact Or.inr ⟨_, _, rfl⟩
    · rw [if_neg h0]; exact Or.inr ⟨_, _, rfl⟩
theorem dec_enc (hF : Fk F) (hc : F.tails ≤ c) (hc2 : c < 2 * F.tails) (hq : F.qmin ≤ q) (hq2 : q ≤ F.qmax) : FP.Core.decode F (FP.Core.encode F (.fin false c q)) = .fin false c q := by
  obtain ⟨f1, f2, f3, f4⟩ := hF
  have he : FP.Core.encode F (.fin false c q) = ((q - F.qmin).toNat + 1) * F.tails + (c - F.tails) := by
    rw [enc_fin]
    rw [if_neg (by omega), asm0]
  rw [he]
  generalize hEE : (q - F.qmin).toNat + 1 = E
  have h1 : (E * F.tails + (c - F.tails)) / F.tails = E := by
    rw [Nat.mul_comm, Nat.mul_add_div (by omega), Nat.div_eq_of_lt (by omega), Nat.add_zero]
  have h2 : (E * F.tails + (c - F.tails)) % F.tails = c - F.tails := by
    rw [Nat.mul_comm, Nat.mul_add_mod, Nat.mod_eq_of_lt (by omega)]
  unfold FP.Core.decode FP.Core.fieldE FP.Core.fieldT FP.Core.fieldS
  rw [h1, h2, Nat.mod_eq_of_lt (by omega), if_neg (by omega), if_neg (by omega), Nat.div_eq_of_lt (by omega)]
  have e1 : F.tails + (c - F.tails) = c := by omega
  have e2 : F.qmin + ((E : Int) - 1) = q := by omega
  rw [e1, e2]
  rfl
theorem nrst (hd : 0 < d) : 2 * (d * FP.Core.nearest n d) ≤ 2 * n + d ∧ 2 * n ≤ 2 * (d * FP.Core.nearest n d) + d ∧ n / d ≤ FP.Core.nearest n d ∧ FP.Core.nearest n d ≤ n / d + 1 := by
  have h := Nat.div_add_mod n d
  have h2 := Nat.mod_lt n hd
  unfold FP.Core.nearest
  by_cases c1 : 2 * (n % d) < d
  · rw [if_pos c1]
    omega
  · rw [if_neg c1]
    by_cases c2 : d < 2 * (n % d)
    · rw [if_pos c2, Nat.mul_add, Nat.mul_one]
      omega
    · rw [if_neg c2]
      rcases (show n / d % 2 = 0 ∨ n / d % 2 = 1 by omega) with e | e
      · rw [e, Nat.add_zero]; omega
      · rw [e, Nat.mul_add, Nat.mul_one]; omega
theorem lead1 (hx : x ≠ 0) : FP.Core.leading x 1 = (x.log2 : Int) := by
  unfold FP.Core.leading
  have h := Nat.log2_self_le hx
  rw [show Nat.log2 1 = 0 from by decide]
  dsimp only
  rw [show ((x.log2 : Int) - (0 : Nat) : Int) = (x.log2 : Int) by omega, show (-(x.log2 : Int)).toNat = 0 by omega, show ((x.log2 : Int)).toNat = x.log2 by omega, Nat.one_mul, Nat.pow_zero, Nat.mul_one, if_pos h]
end FL1
