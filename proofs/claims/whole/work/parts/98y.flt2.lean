section FL2
variable {n k p i h z m u f s c d x j e a b g r y t D L E cA cB : Nat} {q qA qB : Int} {F : FP.Core.Fmt}
/-! FLOATING NUMBERS OF WHOLE NUMBERS, AND THEIR RATIOS -/
theorem ofI : FP.Core.ofInt (x : Int) = .fin false x 0 := by
  unfold FP.Core.ofInt
  rw [decide_eq_false (by omega), Int.natAbs_natCast]
theorem nrst1 : FP.Core.nearest n 1 = n := by
  unfold FP.Core.nearest
  rw [Nat.mod_one, if_pos (by decide), Nat.div_one]
theorem l3 (hF : Fk F) (hp : F.p = u + 1) (ht : F.tails = 2 ^ u) (hu : 1 ≤ u ∧ u ≤ 60) (h1 : F.qmin ≤ -70) (h2 : 70 ≤ F.qmax) (hx : x ≠ 0) (hx2 : x < 2 ^ 63) : ∃ c q, FP.Core.decode F (FP.Core.encode F (FP.Core.round F (FP.Core.ofInt (x : Int)))) = .fin false c q ∧ F.tails ≤ c ∧ c < 2 * F.tails ∧ -60 ≤ q ∧ q ≤ 63 ∧ 3 * (c * 2 ^ (q + 60).toNat) ≤ 4 * (x * 2 ^ 60) ∧ 4 * (x * 2 ^ 60) ≤ 5 * (c * 2 ^ (q + 60).toNat) := by
  have f1 := hF.1
  have g1 := Nat.log2_self_le hx
  have g2 := Nat.lt_log2_self (n := x)
  have hL : x.log2 < 63 := (Nat.pow_lt_pow_iff_right (by decide)).mp (Nat.lt_of_le_of_lt g1 hx2)
  have hr : FP.Core.round F (FP.Core.ofInt (x : Int)) = FP.Core.settle F false (FP.Core.nearest (x * 2 ^ ((0 : Int) - ((x.log2 : Int) - u)).toNat) (1 * 2 ^ (((x.log2 : Int) - u) - 0).toNat)) ((x.log2 : Int) - u) := by
    rw [ofI]
    show FP.Core.roundRatio F false x 1 0 = _
    unfold FP.Core.roundRatio
    rw [if_neg hx]
    unfold FP.Core.roundAt FP.Core.quantum FP.Core.unitsNum FP.Core.unitsDen
    rw [lead1 hx, hp, show max F.qmin ((x.log2 : Int) + 0 - (((u + 1 : Nat) : Int) - 1)) = (x.log2 : Int) - u by omega]
  rw [hr, Nat.one_mul, Int.sub_zero]
  generalize x.log2 = L at *
  rw [Nat.pow_succ] at g2
  by_cases hc : L ≤ u
  · obtain ⟨w, hw⟩ : ∃ w, u = L + w := ⟨u - L, by omega⟩
    have e1 : ((0 : Int) - ((L : Int) - u)).toNat = w := by omega
    have e2 : ((L : Int) - u).toNat = 0 := by omega
    rw [e1, e2, Nat.pow_zero, nrst1]
    have hpw : 0 < 2 ^ w := Nat.pow_pos (by decide)
    have b1 : F.tails ≤ x * 2 ^ w := by
      rw [ht, hw, Nat.pow_add]
      exact Nat.mul_le_mul_right _ g1
    have b2 : x * 2 ^ w < 2 * F.tails := by
      rw [ht, hw, Nat.pow_add, ← Nat.mul_assoc, Nat.mul_comm 2 (2 ^ L)]
      exact Nat.mul_lt_mul_of_pos_right g2 hpw
    have e3 : FP.Core.settle F false (x * 2 ^ w) ((L : Int) - u) = .fin false (x * 2 ^ w) ((L : Int) - u) := by
      unfold FP.Core.settle FP.Core.bound
      rw [f1, if_pos b2, if_pos (by omega)]
    have e4 : x * 2 ^ w * 2 ^ ((L : Int) - u + 60).toNat = x * 2 ^ 60 := by
      rw [Nat.mul_assoc, ← Nat.pow_add, show w + ((L : Int) - u + 60).toNat = 60 by omega]
    rw [e3]
    refine ⟨_, _, dec_enc hF b1 b2 (by omega) (by omega), b1, b2, by omega, by omega, ?_, ?_⟩
    · rw [e4]; omega
    · rw [e4]; omega
  · obtain ⟨w, hw⟩ : ∃ w, L = u + w := ⟨L - u, by omega⟩
    have e1 : ((0 : Int) - ((L : Int) - u)).toNat = 0 := by omega
    have e2 : ((L : Int) - u).toNat = w := by omega
    have e3 : ((L : Int) - u) = (w : Int) := by omega
    rw [e1, e2, e3, Nat.pow_zero, Nat.mul_one]
    have hD : 0 < 2 ^ w := Nat.pow_pos (by decide)
    have b1 : 2 ^ u * 2 ^ w ≤ x := by rw [← Nat.pow_add, ← hw]; exact g1
    have b2 : x < 2 * 2 ^ u * 2 ^ w := by rw [Nat.mul_assoc, ← Nat.pow_add, ← hw, Nat.mul_comm]; exact g2
    have hu2 : 2 ≤ 2 ^ u := by
      have := Nat.pow_le_pow_right (show 0 < 2 by decide) hu.1
      exact this
    obtain ⟨n1, n2, n3, n4⟩ := nrst (n := x) hD
    have hq60 : (2 : Nat) ^ ((w : Int) + 60).toNat = 2 ^ w * 2 ^ 60 := by rw [show ((w : Int) + 60).toNat = w + 60 by omega, Nat.pow_add]
    have hq61 : (2 : Nat) ^ ((w : Int) + 1 + 60).toNat = 2 * (2 ^ w * 2 ^ 60) := by rw [show ((w : Int) + 1 + 60).toNat = w + 60 + 1 by omega, Nat.pow_succ, Nat.pow_add, Nat.mul_comm]
    have d1 : 2 ^ u ≤ x / 2 ^ w := (Nat.le_div_iff_mul_le hD).mpr b1
    have d2 : x / 2 ^ w < 2 * 2 ^ u := (Nat.div_lt_iff_lt_mul hD).mpr b2
    have hw62 : w < 63 := by omega
    generalize FP.Core.nearest x (2 ^ w) = C at *
    generalize hDD : 2 ^ w = D at *
    have b3 : 2 * D ≤ x := Nat.le_trans (Nat.mul_le_mul_right D hu2) b1
    have b4 : 2 * D ≤ D * C := by
      rw [Nat.mul_comm D]
      exact Nat.mul_le_mul_right D (by omega)
    have v1 : 3 * (D * C) ≤ 4 * x := by omega
    have v2 : 4 * x ≤ 5 * (D * C) := by omega
    have eC : C * (D * 2 ^ 60) = D * C * 2 ^ 60 := by rw [← Nat.mul_assoc, Nat.mul_comm C D]
    have v3 : 3 * (C * (D * 2 ^ 60)) ≤ 4 * (x * 2 ^ 60) := by
      rw [eC, ← Nat.mul_assoc 3, ← Nat.mul_assoc 4]
      exact Nat.mul_le_mul_right _ v1
    have v4 : 4 * (x * 2 ^ 60) ≤ 5 * (C * (D * 2 ^ 60)) := by
      rw [eC, ← Nat.mul_assoc 4, ← Nat.mul_assoc 5]
      exact Nat.mul_le_mul_right _ v2
    unfold FP.Core.settle
    rw [f1]
    by_cases hc2 : C < 2 * F.tails
    · rw [if_pos hc2]
      unfold FP.Core.bound
      rw [if_pos (by omega)]
      refine ⟨_, _, dec_enc hF (by omega) hc2 (by omega) (by omega), by omega, hc2, by omega, by omega, ?_, ?_⟩
      · rw [hq60]; exact v3
      · rw [hq60]; exact v4
    · rw [if_neg hc2]
      unfold FP.Core.bound
      rw [if_pos (by omega)]
      have hC : C = 2 * F.tails := by omega
      have e5 : F.tails * (2 * (D * 2 ^ 60)) = C * (D * 2 ^ 60) := by rw [hC, ← Nat.mul_assoc, Nat.mul_comm F.tails 2]
      refine ⟨_, _, dec_enc hF (Nat.le_refl _) (by omega) (by omega) (by omega), Nat.le_refl _, by omega, by omega, by omega, ?_, ?_⟩
      · rw [hq61, e5]; exact v3
      · rw [hq61, e5]; exact v4
theorem enc_int (hF : Fk F) : FP.Core.encode F (FP.Core.round F (FP.Core.ofInt (x : Int))) ≤ (F.exps - 1) * F.tails := by
  rw [ofI]
  exact enc_rr hF
theorem m64 : (FP.Core.b64.exps - 1) * FP.Core.b64.tails = 9218868437227405312 := by decide
theorem m32 : (FP.Core.b32.exps - 1) * FP.Core.b32.tails = 2139095040 := by decide
theorem U64 (h : n ≤ 9218868437227405312) : (UInt64.ofNat n).toNat = n := by
  show n % 2 ^ 64 = n
  exact Nat.mod_eq_of_lt (by omega)
theorem U32 (h : n ≤ 2139095040) : (UInt32.ofNat n).toNat = n := by
  show n % 2 ^ 32 = n
  exact Nat.mod_eq_of_lt (by omega)
theorem l2d_N (hx : x < 2 ^ 63) : (FP.l2d (Int64.ofNat x)).toNat = FP.Core.encode FP.Core.b64 (FP.Core.round FP.Core.b64 (FP.Core.ofInt (x : Int))) := by
  have h := enc_int (x := x) Fk_64
  rw [m64] at h
  unfold FP.l2d FP.Core.l2d FP.Core.fromInt
  rw [J_ofNat hx, U64 h]
theorem l2f_N (hx : x < 2 ^ 63) : (FP.l2f (Int64.ofNat x)).toNat = FP.Core.encode FP.Core.b32 (FP.Core.round FP.Core.b32 (FP.Core.ofInt (x : Int))) := by
  have h := enc_int (x := x) Fk_32
  rw [m32] at h
  unfold FP.l2f FP.Core.l2f FP.Core.fromInt
  rw [J_ofNat hx, U32 h]
theorem quo_le (hF : Fk F) (h1 : FP.Core.decode F x = .inf false ∨ ∃ c q, FP.Core.decode F x = .fin false c q) (h2 : FP.Core.decode F y = .fin false d qB) (hd : d ≠ 0) : FP.Core.div F x y ≤ (F.exps - 1) * F.tails := by
  unfold FP.Core.div
  rcases h1 with h1 | ⟨c, q, h1⟩
  · rw [h1, h2]
    show FP.Core.assemble F false (F.exps - 1) 0 ≤ _
    rw [asm0]
    exact Nat.le_refl _
  · rw [h1, h2]
    show FP.Core.encode F (if d = 0 then _ else FP.Core.roundRatio F false c d (q - qB)) ≤ _
    rw [if_neg hd]
    exact enc_rr hF
theorem l64 (hx : x ≠ 0) (hx2 : x < 2 ^ 63) : ∃ c q, FP.Core.decode FP.Core.b64 (FP.l2d (Int64.ofNat x)).toNat = .fin false c q ∧ FP.Core.b64.tails ≤ c ∧ c < 2 * FP.Core.b64.tails ∧ -60 ≤ q ∧ q ≤ 63 ∧ 3 * (c * 2 ^ (q + 60).toNat) ≤ 4 * (x * 2 ^ 60) ∧ 4 * (x * 2 ^ 60) ≤ 5 * (c * 2 ^ (q + 60).toNat) := by
  rw [l2d_N hx2]
  exact l3 (u := 52) Fk_64 rfl (by decide) (by decide) (by decide) (by decide) hx hx2
theorem l32 (hx : x ≠ 0) (hx2 : x < 2 ^ 63) : ∃ c q, FP.Core.decode FP.Core.b32 (FP.l2f (Int64.ofNat x)).toNat = .fin false c q ∧ FP.Core.b32.tails ≤ c := by
  rw [l2f_N hx2]
  obtain ⟨c, q, h1, h2, _⟩ := l3 (u := 23) Fk_32 rfl (by decide) (by decide) (by decide) (by decide) hx hx2
  exact ⟨c, q, h1, h2⟩
theorem ddiv_le (hx : x < 2 ^ 63) (hy : y ≠ 0) (hy2 : y < 2 ^ 63) : (FP.ddiv (FP.l2d (Int64.ofNat x)) (FP.l2d (Int64.ofNat y))).toNat ≤ 9218868437227405312 := by
  obtain ⟨c, q, h1, h2, _⟩ := l64 hy hy2
  have hl := enc_int (x := x) Fk_64
  rw [← l2d_N hx] at hl
  have hp0 : 0 < FP.Core.b64.tails := by decide
  have h3 := quo_le Fk_64 (dec_nn Fk_64 hl) h1 (by omega)
  rw [m64] at h3
  unfold FP.ddiv FP.Core.ddiv
  rw [U64 h3]
  exact h3
theorem dok_div (hx : x < 2 ^ 63) (hy : y ≠ 0) (hy2 : y < 2 ^ 63) : dok (FP.ddiv (FP.l2d (Int64.ofNat x)) (FP.l2d (Int64.ofNat y))) := dok_of (by have := ddiv_le hx hy hy2; omega)
theorem fdiv_le (hx : x < 2 ^ 63) (hy : y ≠ 0) (hy2 : y < 2 ^ 63) : (FP.fdiv (FP.l2f (Int64.ofNat x)) (FP.l2f (Int64.ofNat y))).toNat ≤ 2139095040 := by
  obtain ⟨c, q, h1, h2⟩ := l32 hy hy2
  have hl := enc_int (x := x) Fk_32
  rw [← l2f_N hx] at hl
  have hp0 : 0 < FP.Core.b32.tails := by decide
  have h3 := quo_le Fk_32 (dec_nn Fk_32 hl) h1 (by omega)
  rw [m32] at h3
  unfold FP.fdiv FP.Core.fdiv
  rw [U32 h3]
  exact h3
theorem fok_div (hx : x < 2 ^ 63) (hy : y ≠ 0) (hy2 : y < 2 ^ 63) : fok (FP.fdiv (FP.l2f (Int64.ofNat x)) (FP.l2f (Int64.ofNat y))) := fok_of (by have := fdiv_le hx hy hy2; omega)
theorem f2d_le {v : UInt32} (h : v.toNat ≤ 2139095040) : (FP.f2d v).toNat ≤ 9218868437227405312 := by
  have h3 : FP.Core.encode FP.Core.b64 (FP.Core.round FP.Core.b64 (FP.Core.decode FP.Core.b32 v.toNat)) ≤ 9218868437227405312 := by
    rw [← m32] at h
    rcases dec_nn Fk_32 h with h1 | ⟨c, q, h1⟩
    · rw [h1]; decide
    · rw [h1, ← m64]
      exact enc_rr Fk_64
  have hnn : FP.Core.fIsNaN v = false := by
    unfold FP.Core.fIsNaN FP.Core.isNaN
    rw [← m32] at h
    rcases dec_nn Fk_32 h with h1 | ⟨c, q, h1⟩
    · rw [h1]; rfl
    · rw [h1]; exact decide_eq_false (fun e => by cases e)
  unfold FP.f2d FP.Core.f2d FP.Core.convert
  rw [hnn, if_neg (by decide), U64 h3]
  exact h3
theorem f2d_ok {v : UInt32} (h : v.toNat ≤ 2139095040) : dok (FP.f2d v) := dok_of (by have := f2d_le h; omega)
/-- less than two -/
theorem lt2 (hn : n < 4611686018427387904) : FP.Core.order (FP.Core.decode FP.Core.b64 n) (FP.Core.decode FP.Core.b64 4611686018427387904) = some .lt := by
  have h2 : FP.Core.decode FP.Core.b64 4611686018427387904 = .fin false 4503599627370496 (-51) := by decide
  have ht : FP.Core.b64.tails = 4503599627370496 := by decide
  have hx : FP.Core.b64.exps = 2048 := by decide
  have hq : FP.Core.b64.qmin = -1074 := by decide
  have key : ∀ (c : Nat) (q : Int), c < 9007199254740992 → q ≤ -52 → FP.Core.order (.fin false c q) (.fin false 4503599627370496 (-51)) = some .lt := by
    intro c q hc hq
    have e1 : min q (-51) = q := by omega
    show some (compare (FP.Core.signed false (FP.Core.inUnits c q (min q (-51)))) (FP.Core.signed false (FP.Core.inUnits 4503599627370496 (-51) (min q (-51))))) = _
    rw [e1]
    unfold FP.Core.inUnits FP.Core.signed
    rw [show (q - q).toNat = 0 by omega, Nat.pow_zero, Nat.mul_one]
    obtain ⟨w, hw⟩ : ∃ w, (-51 - q).toNat = w + 1 := ⟨(-51 - q).toNat - 1, by omega⟩
    rw [hw, Nat.pow_succ]
    have hp : 1 ≤ 2 ^ w := Nat.pow_pos (by decide)
    generalize 2 ^ w = z at *
    congr 1
    show compareOfLessAndEq _ _ = _
    unfold compareOfLessAndEq
    exact if_pos (by show (c : Int) < ((4503599627370496 * (z * 2) : Nat) : Int); omega)
  have h1 : n / 4503599627370496 < 1024 := by omega
  rw [h2]
  unfold FP.Core.decode FP.Core.fieldE FP.Core.fieldT FP.Core.fieldS
  rw [ht, hx, hq, Nat.mod_eq_of_lt (show n / 4503599627370496 < 2048 by omega), if_neg (by omega), Nat.div_eq_of_lt (show n / 4503599627370496 < 2048 by omega)]
  by_cases h0 : n / 4503599627370496 = 0
  · rw [if_pos h0]
    exact key _ _ (by omega) (by omega)
  · rw [if_neg h0]
    exact key _ _ (by omega) (by omega)
theorem rat2 (hA : 4503599627370496 ≤ cA) (hA2 : cA < 9007199254740992) (hB : 4503599627370496 ≤ cB) (hB2 : cB < 9007199254740992) (hqA : -60 ≤ qA ∧ qA ≤ 63) (hqB : -60 ≤ qB ∧ qB ≤ 63) (h : 3 * (cA * 2 ^ (qA + 60).toNat) ≤ 5 * (cB * 2 ^ (qB + 60).toNat)) : FP.Core.encode FP.Core.b64 (FP.Core.roundRatio FP.Core.b64 false cA cB (qA - qB)) < 4611686018427387904 := by
  have ht : FP.Core.b64.tails = 4503599627370496 := by decide
  have hqm : FP.Core.b64.qmin = -1074 := by decide
  have hqx : FP.Core.b64.qmax = 971 := by decide
  have hp : FP.Core.b64.p = 53 := rfl
  have lg : ∀ c, 4503599627370496 ≤ c → c < 9007199254740992 → c.log2 = 52 := fun c a b => by
    have hc : c ≠ 0 := by omega
    have a1 := Nat.log2_self_le hc
    have a2 := Nat.lt_log2_self (n := c)
    have a3 : c.log2 < 53 := (Nat.pow_lt_pow_iff_right (a := 2) (by decide)).mp (Nat.lt_of_le_of_lt a1 b)
    have a4 : 52 < c.log2 + 1 := (Nat.pow_lt_pow_iff_right (a := 2) (by decide)).mp (Nat.lt_of_le_of_lt a a2)
    omega
  have hl : FP.Core.leading cA cB = if cB ≤ cA then 0 else -1 := by
    unfold FP.Core.leading
    rw [lg cA hA hA2, lg cB hB hB2]
    show (if cB * 2 ^ 0 ≤ cA * 2 ^ 0 then (0 : Int) else 0 - 1) = _
    have e : (cB * 2 ^ 0 ≤ cA * 2 ^ 0) = (cB ≤ cA) := by rw [Nat.pow_zero, Nat.mul_one, Nat.mul_one]
    by_cases hc : cB ≤ cA
    · rw [if_pos (e.mpr hc), if_pos hc]
    · rw [if_neg (fun h => hc (e.mp h)), if_neg hc]; rfl
  have fin : ∀ (C : Nat) (q : Int), -200 ≤ q → (q ≤ -53 → C ≤ 9007199254740992) → (-53 < q → q = -52 ∧ C < 9007199254740992) → FP.Core.encode FP.Core.b64 (FP.Core.settle FP.Core.b64 false C q) < 4611686018427387904 := by
    intro C q hq0 h1 h2
    have enc : ∀ (c : Nat) (q : Int), c < 9007199254740992 → -200 ≤ q → q ≤ -52 → FP.Core.encode FP.Core.b64 (FP.Core.bound FP.Core.b64 false c q) < 4611686018427387904 := by
      intro c q a1 a2 a3
      unfold FP.Core.bound
      rw [hqx, if_pos (by omega)]
      rw [enc_fin]
      rw [ht, hqm]
      by_cases hc : c < 4503599627370496
      · rw [if_pos hc, asm0]; omega
      · rw [if_neg hc, asm0, ht]; omega
    unfold FP.Core.settle
    rw [hp, ht]
    by_cases hc : C < 2 ^ 53
    · rw [if_pos hc]
      exact enc C q hc hq0 (by omega)
    · rw [if_neg hc]
      exact enc _ _ (by decide) (by omega) (by omega)
  unfold FP.Core.roundRatio
  rw [if_neg (by omega)]
  unfold FP.Core.roundAt FP.Core.quantum
  rw [hl, hp, hqm]
  obtain ⟨w, hw⟩ : ∃ w, (qA + 60).toNat = w := ⟨_, rfl⟩
  obtain ⟨v, hv⟩ : ∃ v, (qB + 60).toNat = v := ⟨_, rfl⟩
  rw [hw, hv] at h
  have hcB : 0 < cB := by omega
  have cas : qA - qB ≤ -1 ∨ (qA - qB = 0 ∧ 3 * cA ≤ 5 * cB) ∨ (qA - qB = 1 ∧ 6 * cA ≤ 5 * cB) := by
    by_cases c1 : qA - qB ≤ -1
    · exact Or.inl c1
    · obtain ⟨g, hg⟩ : ∃ g, w = v + g := ⟨w - v, by omega⟩
      rw [hg, Nat.pow_add, Nat.mul_comm (2 ^ v), ← Nat.mul_assoc cA, ← Nat.mul_assoc 3, ← Nat.mul_assoc 5] at h
      have h3 : 3 * (cA * 2 ^ g) ≤ 5 * cB := Nat.le_of_mul_le_mul_right h (Nat.pow_pos (by decide))
      rcases (show g = 0 ∨ g = 1 ∨ 2 ≤ g by omega) with e | e | e
      · subst e; refine Or.inr (Or.inl ⟨by omega, ?_⟩); rw [Nat.pow_zero, Nat.mul_one] at h3; exact h3
      · subst e; refine Or.inr (Or.inr ⟨by omega, ?_⟩); rw [Nat.pow_one] at h3; omega
      · exfalso
        have : 2 ^ 2 ≤ 2 ^ g := Nat.pow_le_pow_right (by decide) e
        have := Nat.mul_le_mul_left cA this
        omega
  by_cases cAB : cB ≤ cA
  · rw [if_pos cAB]
    have e1 : max (-1074) ((0 : Int) + (qA - qB) - (((53 : Nat) : Int) - 1)) = qA - qB - 52 := by omega
    rw [e1]
    unfold FP.Core.unitsNum FP.Core.unitsDen
    rw [show (qA - qB - (qA - qB - 52)).toNat = 52 by omega, show (qA - qB - 52 - (qA - qB)).toNat = 0 by omega, Nat.pow_zero, Nat.mul_one]
    have n4 := (nrst (n := cA * 2 ^ 52) hcB).2.2.2
    have q1 : cA * 2 ^ 52 / cB < 2 * 2 ^ 52 := (Nat.div_lt_iff_lt_mul hcB).mpr (by omega)
    have q2 : 3 * cA ≤ 5 * cB → cA * 2 ^ 52 / cB ≤ 7505999378950827 := fun hh => (Nat.div_le_iff_le_mul_add_pred hcB).mpr (by omega)
    refine fin _ _ (by omega) (fun _ => by omega) (fun a => ?_)
    rcases cas with c | ⟨c, c'⟩ | ⟨c, c'⟩
    · omega
    · have := q2 c'; omega
    · omega
  · rw [if_neg cAB]
    have e1 : max (-1074) ((-1 : Int) + (qA - qB) - (((53 : Nat) : Int) - 1)) = qA - qB - 53 := by omega
    rw [e1]
    unfold FP.Core.unitsNum FP.Core.unitsDen
    rw [show (qA - qB - (qA - qB - 53)).toNat = 53 by omega, show (qA - qB - 53 - (qA - qB)).toNat = 0 by omega, Nat.pow_zero, Nat.mul_one]
    have n4 := (nrst (n := cA * 2 ^ 53) hcB).2.2.2
    have q1 : cA * 2 ^ 53 / cB < 2 ^ 53 := (Nat.div_lt_iff_lt_mul hcB).mpr (by omega)
    have q2 : 6 * cA ≤ 5 * cB → cA * 2 ^ 53 / cB ≤ 7505999378950827 := fun hh => (Nat.div_le_iff_le_mul_add_pred hcB).mpr (by omega)
    refine fin _ _ (by omega) (fun _ => by omega) (fun a => ?_)
    rcases cas with c | ⟨c, c'⟩ | ⟨c, c'⟩
    · omega
    · omega
    · have := q2 c'; omega
theorem ddiv_lt2 (hx : x ≠ 0) (hxy : x ≤ y) (hy2 : y < 2 ^ 63) : (FP.ddiv (FP.l2d (Int64.ofNat x)) (FP.l2d (Int64.ofNat y))).toNat < 4611686018427387904 := by
  have ht : FP.Core.b64.tails = 4503599627370496 := by decide
  obtain ⟨cA, qA, a1, a2, a3, a4, a5, a6, a7⟩ := l64 hx (by omega)
  obtain ⟨cB, qB, b1, b2, b3, b4, b5, b6, b7⟩ := l64 (x := y) (by omega) hy2
  rw [ht] at a2 a3 b2 b3
  have hr := rat2 a2 (by omega) b2 (by omega) ⟨a4, a5⟩ ⟨b4, b5⟩ (by have := Nat.mul_le_mul_right (2 ^ 60) hxy; omega)
  unfold FP.ddiv FP.Core.ddiv FP.Core.div
  rw [a1, b1]
  show (UInt64.ofNat (FP.Core.encode FP.Core.b64 (if cB = 0 then _ else FP.Core.roundRatio FP.Core.b64 false cA cB (qA - qB)))).toNat < _
  rw [if_neg (by omega), U64 (by omega)]
  exact hr
theorem dlt2 {v : UInt64} (h : v.toNat < 4611686018427387904) : dlt v 4611686018427387904 := by
  have h2 : FP.dcmp v 4611686018427387904 = some .lt := lt2 h
  unfold dlt
  rw [h2]
  decide
end FL2
