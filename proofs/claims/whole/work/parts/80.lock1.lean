section LK1
variable {n nh t k p i j h w q g : Nat} {S T U : St} {d6 d7 : Nat → Int64}
/-! THE LOCKSTEP, 1: a link of the shaper beside a row of the reference. -/
def scI (g : Nat) : Nat := if g < 2 then g + 9 else g - 2
/-- one name, packed in both ways -/
def nmC : List Nat → Nat → Nat
  | [], _ => 0
  | c :: l, s => c * 2 ^ s + nmC l (s + 5)
def nmR : List Nat → Nat → Nat
  | [], a => a
  | c :: l, a => nmR l (32 * a + c)
def NmP (v w : Int64) : Prop := ∃ l : List Nat, l.length ≤ 8 ∧ (∀ c, c ∈ l → 1 ≤ c ∧ c ≤ 26) ∧ v = Int64.ofNat (nmC l 0) ∧ w = Int64.ofNat (nmR l 0)
/-- the link's numbers are the row's; of the paid and refunded counts the row is ahead by d6, d7 -/
def Mid (k : Nat) (S : St) (r : Nat → Int32) (l : Nat → Int64) (n nh : Nat) (d6 d7 : Nat → Int64) : Prop :=
  (∀ g, g < 11 → S.1 (12, k, 0) (scI g) = r g) ∧
  (∀ h w, h < nh → w < 4 → S.1 (16, k, h) (w + 1) = r (12 + 4 * h + w)) ∧
  (∀ p w, p < n → w < 11 → S.1 (17, k, p) (w + 1) = r (36 + 11 * p + w)) ∧
  (∀ p w, p < n → w < 6 → S.1 (18, k, p) w = r (168 + 6 * p + w)) ∧
  (∀ p w, p < n → w < 6 → S.2.1 (19, k, p) w = l (8 * p + w)) ∧
  (∀ p, p < n → S.2.1 (19, k, p) 6 + d6 p = l (8 * p + 6) ∧ S.2.1 (19, k, p) 7 + d7 p = l (8 * p + 7)) ∧
  (∀ q h, q < 24 → h < nh → S.1 (15, k, 0) (q * 6 + h) = r (240 + 6 * q + h)) ∧
  (∀ h, h < nh → NmP (S.2.1 (16, k, h) 0) (l (96 + h))) ∧
  (∀ p, p < n → NmP (S.2.1 (17, k, p) 0) (l (102 + p)))
def Mit (k : Nat) (S T : St) (n nh : Nat) (d6 d7 : Nat → Int64) : Prop := Mid k S (T.1 (11, 0, 0)) (T.2.1 (11, 5, 0)) n nh d6 d7
/-- reading the shaper behind an offer -/
theorem offF_H {pr : Int32} : (offF S k p i pr).1 (16, k, h) (w + 1) = if h = i ∧ w = 2 then S.1 (16, k, i) 3 + offA S k p i pr else if h = i ∧ w = 1 then S.1 (16, k, i) 2 - offA S k p i pr * pr else S.1 (16, k, h) (w + 1) := by
  unfold offF
  simp [upI_1]
  by_cases h1 : h = i <;> by_cases h2 : w = 2 <;> by_cases h3 : w = 1 <;> simp [h1, h2, h3]
def offV (S : St) (k p i : Nat) (pr : Int32) (w : Nat) : Int32 := if w = 0 then offO S k p else if w = 1 then offO S k p - offW S k p i else if w = 2 then offW S k p i - offA S k p i pr else 0
theorem offF_L {pr : Int32} : (offF S k p i pr).1 (18, k, q) w = if q = p ∧ w < 5 then offV S k p i pr w else S.1 (18, k, q) w := by
  unfold offF offV
  simp [upI_1]
  by_cases h1 : q = p
  · rcases (show w = 0 ∨ w = 1 ∨ w = 2 ∨ w = 3 ∨ w = 4 ∨ 5 ≤ w by omega) with e | e | e | e | e | e
    · simp [h1, e]
    · simp [h1, e]
    · simp [h1, e]
    · simp [h1, e]
    · simp [h1, e]
    · have e0 : ¬ w = 0 := by omega
      have e1 : ¬ w = 1 := by omega
      have e2 : ¬ w = 2 := by omega
      have e3 : ¬ w = 3 := by omega
      have e4 : ¬ w = 4 := by omega
      have e5 : ¬ w < 5 := by omega
      simp [h1, e0, e1, e2, e3, e4, e5]
  · simp [h1]
theorem offF_P {pr : Int32} : (offF S k p i pr).1 (17, k, q) g = S.1 (17, k, q) g := by unfold offF; simp [upI_1]
theorem offF_lk {pr : Int32} : (offF S k p i pr).1 (12, k, 0) g = S.1 (12, k, 0) g := by unfold offF; simp [upI_1]
theorem offF_hr {pr : Int32} : (offF S k p i pr).1 (15, k, 0) g = S.1 (15, k, 0) g := by unfold offF; simp [upI_1]
theorem offF_J {pr : Int32} : (offF S k p i pr).2 = S.2 := rfl
/-- reading the row behind an offer -/
theorem roF_H (hh : h < 6) (hw : w < 4) (hj : j < 12) (hi : i < 6) : gH (roF T j i) h w = if h = i ∧ w = 2 then gH T i 2 + rQ T j i else if h = i ∧ w = 1 then gH T i 1 - rQ T j i * T.1 (11, 0, 0) 4 else gH T h w := by
  unfold roF roL
  simp [al_r0, al_r1, al_r2, al_r3, al_r4, al_r5, al_r6, al_r7, al_r8, al_r9, al_r10, al_r11, al_r12, al_r13, al_r14, al_r15, as_r0, as_r1, as_r2, as_r3, as_r4, as_r5, as_r6, as_r7, as_r8, as_r9, as_r10, as_r11, as_r12, as_r13, as_r14, as_r15, gH_sH, gH_sP, gH_sL, gH_sC, gP_sH, gP_sP, gP_sL, gP_sC, gL_sH, gL_sP, gL_sL, gL_sC, gC_sH, gC_sP, gC_sL, gC_sC, rz_sH, rz_sP, rz_sL, ro_sH, ro_sP, ro_sL, rj_sH, rj_sP, rj_sL, gH_upI, gH_upZ, gP_upI, gP_upZ, gL_upI, gL_upZ, rz_sC, gC_upI, x59, x60, x61, x62, x63, x64, x65, x66, x50, x51, hh, hw, hj, hi]
  by_cases h1 : h = i <;> by_cases h2 : w = 2 <;> by_cases h3 : w = 1 <;> simp [h1, h2, h3]
def roV (T : St) (j i w : Nat) : Int32 := if w = 0 then rU T j else if w = 1 then rU T j - rW T j i else if w = 2 then rW T j i - rQ T j i else 0
theorem roF_L (hq : q < 12) (hw : w < 6) (hj : j < 12) (hi : i < 6) : gL (roF T j i) q w = if q = j ∧ w < 5 then roV T j i w else gL T q w := by
  unfold roF roL roV
  simp [al_r0, al_r1, al_r2, al_r3, al_r4, al_r5, al_r6, al_r7, al_r8, al_r9, al_r10, al_r11, al_r12, al_r13, al_r14, al_r15, as_r0, as_r1, as_r2, as_r3, as_r4, as_r5, as_r6, as_r7, as_r8, as_r9, as_r10, as_r11, as_r12, as_r13, as_r14, as_r15, gH_sH, gH_sP, gH_sL, gH_sC, gP_sH, gP_sP, gP_sL, gP_sC, gL_sH, gL_sP, gL_sL, gL_sC, gC_sH, gC_sP, gC_sL, gC_sC, rz_sH, rz_sP, rz_sL, ro_sH, ro_sP, ro_sL, rj_sH, rj_sP, rj_sL, gH_upI, gH_upZ, gP_upI, gP_upZ, gL_upI, gL_upZ, rz_sC, gC_upI, x59, x60, x61, x62, x63, x64, x65, x66, x50, x51, hq, hw, hj, hi]
  by_cases h1 : q = j
  · rcases (show w = 0 ∨ w = 1 ∨ w = 2 ∨ w = 3 ∨ w = 4 ∨ w = 5 by omega) with e | e | e | e | e | e <;> simp [h1, e]
  · simp [h1]
theorem roF_P (hq : q < 12) (hw : w < 11) (hj : j < 12) (hi : i < 6) : gP (roF T j i) q w = gP T q w := by
  unfold roF roL
  simp [al_r0, al_r1, al_r2, al_r3, al_r4, al_r5, al_r6, al_r7, al_r8, al_r9, al_r10, al_r11, al_r12, al_r13, al_r14, al_r15, as_r0, as_r1, as_r2, as_r3, as_r4, as_r5, as_r6, as_r7, as_r8, as_r9, as_r10, as_r11, as_r12, as_r13, as_r14, as_r15, gH_sH, gH_sP, gH_sL, gH_sC, gP_sH, gP_sP, gP_sL, gP_sC, gL_sH, gL_sP, gL_sL, gL_sC, gC_sH, gC_sP, gC_sL, gC_sC, rz_sH, rz_sP, rz_sL, ro_sH, ro_sP, ro_sL, rj_sH, rj_sP, rj_sL, gH_upI, gH_upZ, gP_upI, gP_upZ, gL_upI, gL_upZ, rz_sC, gC_upI, x59, x60, x61, x62, x63, x64, x65, x66, x50, x51, hq, hw, hj, hi]
theorem roF_C (hw : w < 8) : gC (roF T j i) q w = if q = j ∧ w = 6 then gC T j 6 + (rQ T j i * T.1 (11, 0, 0) 4).toInt64 else gC T q w := by
  unfold roF roL
  simp [al_r0, al_r1, al_r2, al_r3, al_r4, al_r5, al_r6, al_r7, al_r8, al_r9, al_r10, al_r11, al_r12, al_r13, al_r14, al_r15, as_r0, as_r1, as_r2, as_r3, as_r4, as_r5, as_r6, as_r7, as_r8, as_r9, as_r10, as_r11, as_r12, as_r13, as_r14, as_r15, gH_sH, gH_sP, gH_sL, gH_sC, gP_sH, gP_sP, gP_sL, gP_sC, gL_sH, gL_sP, gL_sL, gL_sC, gC_sH, gC_sP, gC_sL, gC_sC, rz_sH, rz_sP, rz_sL, ro_sH, ro_sP, ro_sL, rj_sH, rj_sP, rj_sL, gH_upI, gH_upZ, gP_upI, gP_upZ, gL_upI, gL_upZ, rz_sC, gC_upI, x59, x60, x61, x62, x63, x64, x65, x66, x50, x51, hw]
end LK1
