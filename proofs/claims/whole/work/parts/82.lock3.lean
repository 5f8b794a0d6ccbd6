section LK3
variable {n nh t k p i j h w q g z : Nat} {S T U : St} {d6 d7 : Nat → Int64} {v pr : Int32}
/-- the same without the link's own numbers -/
def Mix (k : Nat) (S T : St) (n nh : Nat) (d6 d7 : Nat → Int64) : Prop :=
  (∀ h w, h < nh → w < 4 → S.1 (16, k, h) (w + 1) = T.1 (11, 0, 0) (12 + 4 * h + w)) ∧
  (∀ p w, p < n → w < 11 → S.1 (17, k, p) (w + 1) = T.1 (11, 0, 0) (36 + 11 * p + w)) ∧
  (∀ p w, p < n → w < 6 → S.1 (18, k, p) w = T.1 (11, 0, 0) (168 + 6 * p + w)) ∧
  (∀ p w, p < n → w < 6 → S.2.1 (19, k, p) w = T.2.1 (11, 5, 0) (8 * p + w)) ∧
  (∀ p, p < n → S.2.1 (19, k, p) 6 + d6 p = T.2.1 (11, 5, 0) (8 * p + 6) ∧ S.2.1 (19, k, p) 7 + d7 p = T.2.1 (11, 5, 0) (8 * p + 7)) ∧
  (∀ q h, q < 24 → h < nh → S.1 (15, k, 0) (q * 6 + h) = T.1 (11, 0, 0) (240 + 6 * q + h)) ∧
  (∀ h, h < nh → NmP (S.2.1 (16, k, h) 0) (T.2.1 (11, 5, 0) (96 + h))) ∧
  (∀ p, p < n → NmP (S.2.1 (17, k, p) 0) (T.2.1 (11, 5, 0) (102 + p)))
theorem Mix_of (h : Mit k S T n nh d6 d7) : Mix k S T n nh d6 d7 := h.2
theorem Mit_of (h1 : ∀ g, g < 11 → S.1 (12, k, 0) (scI g) = T.1 (11, 0, 0) g) (h2 : Mix k S T n nh d6 d7) : Mit k S T n nh d6 d7 := ⟨h1, h2⟩
/-- the slot's own rows of the reference -/
def Aux (k : Nat) (S T : St) (n : Nat) : Prop := ∀ p, p < n → T.1 (11, 12, 0) p = adm S k p ∧ T.1 (11, 13, 0) p = snt S k p ∧ T.1 (11, 14, 0) p = S.1 (17, k, p) 7
theorem yldF_H {r : Int32} : (yldF S k p i r).1 (16, k, h) (w + 1) = if h = i ∧ w = 1 then S.1 (16, k, i) 2 + yldN S k p * r else S.1 (16, k, h) (w + 1) := by
  unfold yldF
  simp [upI_1]
theorem yldF_L {r : Int32} : (yldF S k p i r).1 (18, k, q) w = if q = p ∧ w = 3 then yldN S k p else S.1 (18, k, q) w := by
  unfold yldF
  simp [upI_1]
theorem yldF_P {r : Int32} : (yldF S k p i r).1 (17, k, q) g = S.1 (17, k, q) g := by unfold yldF; simp [upI_1]
theorem yldF_lk {r : Int32} : (yldF S k p i r).1 (12, k, 0) g = S.1 (12, k, 0) g := by unfold yldF; simp [upI_1]
theorem yldF_hr {r : Int32} : (yldF S k p i r).1 (15, k, 0) g = S.1 (15, k, 0) g := by unfold yldF; simp [upI_1]
theorem yldF_J {r : Int32} : (yldF S k p i r).2 = S.2 := rfl
theorem adm_yld {r : Int32} : adm (yldF S k p i r) k q = adm S k q := by
  unfold adm
  rw [yldF_L, yldF_L, yldF_L, if_neg (by simp), if_neg (by simp), if_neg (by simp)]
def ryN (T : St) (j : Nat) : Int32 := T.1 (11, 12, 0) j * gP T j 6 / 100
theorem ryF_H (hh : h < 6) (hw : w < 4) (hj : j < 12) (hi : i < 6) : gH (ryF T j i) h w = if h = i ∧ w = 1 then gH T i 1 + ryN T j * T.1 (11, 0, 0) 5 else gH T h w := by
  unfold ryF ryN
  simp [al_r0, al_r1, al_r2, al_r3, al_r4, al_r5, al_r6, al_r7, al_r8, al_r9, al_r10, al_r11, al_r12, al_r13, al_r14, al_r15, as_r0, as_r1, as_r2, as_r3, as_r4, as_r5, as_r6, as_r7, as_r8, as_r9, as_r10, as_r11, as_r12, as_r13, as_r14, as_r15, gH_sH, gH_sP, gH_sL, gH_sC, gP_sH, gP_sP, gP_sL, gP_sC, gL_sH, gL_sP, gL_sL, gL_sC, gC_sH, gC_sP, gC_sL, gC_sC, rz_sH, rz_sP, rz_sL, ro_sH, ro_sP, ro_sL, rj_sH, rj_sP, rj_sL, gH_upI, gH_upZ, gP_upI, gP_upZ, gL_upI, gL_upZ, rz_sC, gC_upI, x59, x60, x61, x62, x63, x64, x65, x66, x50, x51, hh, hw, hj, hi]
theorem ryF_L (hq : q < 12) (hw : w < 6) (hj : j < 12) (hi : i < 6) : gL (ryF T j i) q w = if q = j ∧ w = 3 then ryN T j else gL T q w := by
  unfold ryF ryN
  simp [al_r0, al_r1, al_r2, al_r3, al_r4, al_r5, al_r6, al_r7, al_r8, al_r9, al_r10, al_r11, al_r12, al_r13, al_r14, al_r15, as_r0, as_r1, as_r2, as_r3, as_r4, as_r5, as_r6, as_r7, as_r8, as_r9, as_r10, as_r11, as_r12, as_r13, as_r14, as_r15, gH_sH, gH_sP, gH_sL, gH_sC, gP_sH, gP_sP, gP_sL, gP_sC, gL_sH, gL_sP, gL_sL, gL_sC, gC_sH, gC_sP, gC_sL, gC_sC, rz_sH, rz_sP, rz_sL, ro_sH, ro_sP, ro_sL, rj_sH, rj_sP, rj_sL, gH_upI, gH_upZ, gP_upI, gP_upZ, gL_upI, gL_upZ, rz_sC, gC_upI, x59, x60, x61, x62, x63, x64, x65, x66, x50, x51, hq, hw, hj, hi]
theorem ryF_P (hq : q < 12) (hw : w < 11) (hj : j < 12) (hi : i < 6) : gP (ryF T j i) q w = gP T q w := by
  unfold ryF
  simp [al_r0, al_r1, al_r2, al_r3, al_r4, al_r5, al_r6, al_r7, al_r8, al_r9, al_r10, al_r11, al_r12, al_r13, al_r14, al_r15, as_r0, as_r1, as_r2, as_r3, as_r4, as_r5, as_r6, as_r7, as_r8, as_r9, as_r10, as_r11, as_r12, as_r13, as_r14, as_r15, gH_sH, gH_sP, gH_sL, gH_sC, gP_sH, gP_sP, gP_sL, gP_sC, gL_sH, gL_sP, gL_sL, gL_sC, gC_sH, gC_sP, gC_sL, gC_sC, rz_sH, rz_sP, rz_sL, ro_sH, ro_sP, ro_sL, rj_sH, rj_sP, rj_sL, gH_upI, gH_upZ, gP_upI, gP_upZ, gL_upI, gL_upZ, rz_sC, gC_upI, x59, x60, x61, x62, x63, x64, x65, x66, x50, x51, hq, hw, hj, hi]
theorem ryF_C (hw : w < 8) : gC (ryF T j i) q w = if q = j ∧ w = 7 then gC T j 7 + (ryN T j * T.1 (11, 0, 0) 5).toInt64 else gC T q w := by
  unfold ryF ryN
  simp [al_r0, al_r1, al_r2, al_r3, al_r4, al_r5, al_r6, al_r7, al_r8, al_r9, al_r10, al_r11, al_r12, al_r13, al_r14, al_r15, as_r0, as_r1, as_r2, as_r3, as_r4, as_r5, as_r6, as_r7, as_r8, as_r9, as_r10, as_r11, as_r12, as_r13, as_r14, as_r15, gH_sH, gH_sP, gH_sL, gH_sC, gP_sH, gP_sP, gP_sL, gP_sC, gL_sH, gL_sP, gL_sL, gL_sC, gC_sH, gC_sP, gC_sL, gC_sC, rz_sH, rz_sP, rz_sL, ro_sH, ro_sP, ro_sL, rj_sH, rj_sP, rj_sL, gH_upI, gH_upZ, gP_upI, gP_upZ, gL_upI, gL_upZ, rz_sC, gC_upI, x59, x60, x61, x62, x63, x64, x65, x66, x50, x51, hw]
theorem ryF_z (hz : z < 12) (hj : j < 12) (hi : i < 6) : (ryF T j i).1 (11, 0, 0) z = T.1 (11, 0, 0) z := by
  unfold ryF sL sH sC
  simp [upI_1, upJ_1]
  repeat' (first | rw [if_neg (by omega)])
theorem ryF_hi (hz : 240 ≤ z) (hj : j < 12) (hi : i < 6) : (ryF T j i).1 (11, 0, 0) z = T.1 (11, 0, 0) z := by
  unfold ryF sL sH sC
  simp [upI_1, upJ_1]
  repeat' (first | rw [if_neg (by omega)])
theorem ryF_nm (hz : 96 ≤ z) (hj : j < 12) : (ryF T j i).2.1 (11, 5, 0) z = T.2.1 (11, 5, 0) z := by
  unfold ryF sC
  simp [upI_2, upJ_2]
  rw [if_neg (by omega)]
  rfl
theorem ryF_12 : (ryF T j i).1 (11, 12, 0) z = T.1 (11, 12, 0) z := by
  unfold ryF sL sH sC
  simp [upI_1, upJ_1]
theorem ryF_13 : (ryF T j i).1 (11, 13, 0) z = if z = j then T.1 (11, 13, 0) j - ryN T j else T.1 (11, 13, 0) z := by
  unfold ryF sL sH sC ryN
  simp [upI_1, upJ_1]
theorem ryF_14 : (ryF T j i).1 (11, 14, 0) z = T.1 (11, 14, 0) z := by
  unfold ryF sL sH sC
  simp [upI_1, upJ_1]
/-- one yield -/
theorem yld_step (hM : Mix k S T n nh d6 d7) (hA : Aux k S T n) (hn : n ≤ 12) (hnh : nh ≤ 6) (hp : p < n) (hi : i < nh) (h5 : S.1 (12, k, 0) 3 = T.1 (11, 0, 0) 5) (h0 : S.1 (18, k, p) 3 = 0) : Mix k (yldF S k p i (S.1 (12, k, 0) 3)) (ryF T p i) n nh d6 (fun q => if q = p then d7 p + (yldN S k p * S.1 (12, k, 0) 3).toInt64 else d7 q) ∧ Aux k (yldF S k p i (S.1 (12, k, 0) 3)) (ryF T p i) n := by
  obtain ⟨m2, m3, m4, m5, m6, m7, m8, m9⟩ := hM
  have eN : yldN S k p = ryN T p := by
    unfold yldN ryN gP
    rw [(hA p hp).1, ← m3 p 6 hp (by decide)]
  constructor
  · refine ⟨?_, ?_, ?_, ?_, ?_, ?_, ?_, ?_⟩
    · intro h w hh hw
      rw [show (ryF T p i).1 (11, 0, 0) (12 + 4 * h + w) = gH (ryF T p i) h w from rfl, yldF_H, ryF_H (by omega) hw (by omega) (by omega), eN, h5, m2 i 1 hi (by decide), m2 h w hh hw]
      rfl
    · intro q w hq hw
      rw [show (ryF T p i).1 (11, 0, 0) (36 + 11 * q + w) = gP (ryF T p i) q w from rfl, yldF_P, ryF_P (by omega) hw (by omega) (by omega)]
      exact m3 q w hq hw
    · intro q w hq hw
      rw [show (ryF T p i).1 (11, 0, 0) (168 + 6 * q + w) = gL (ryF T p i) q w from rfl, yldF_L, ryF_L (by omega) hw (by omega) (by omega), eN, m4 q w hq hw]
      rfl
    · intro q w hq hw
      rw [show (ryF T p i).2.1 (11, 5, 0) (8 * q + w) = gC (ryF T p i) q w from rfl, ryF_C (by omega), if_neg (by omega), yldF_J]
      exact m5 q w hq hw
    · intro q hq
      rw [show (ryF T p i).2.1 (11, 5, 0) (8 * q + 6) = gC (ryF T p i) q 6 from rfl, show (ryF T p i).2.1 (11, 5, 0) (8 * q + 7) = gC (ryF T p i) q 7 from rfl, ryF_C (by decide), ryF_C (by decide), yldF_J, if_neg (by omega : ¬ (q = p ∧ 6 = 7))]
      refine ⟨(m6 q hq).1, ?_⟩
      dsimp only
      by_cases hqp : q = p
      · subst hqp
        rw [if_pos rfl, if_pos ⟨rfl, rfl⟩, eN, ← h5, ← Int64.add_assoc, (m6 q hq).2]
        rfl
      · rw [if_neg hqp, if_neg (fun e => hqp e.1)]
        exact (m6 q hq).2
    · intro q h hq hh
      rw [yldF_hr, ryF_hi (by omega) (by omega) (by omega)]
      exact m7 q h hq hh
    · intro h hh
      rw [yldF_J, ryF_nm (by omega) (by omega)]
      exact m8 h hh
    · intro q hq
      rw [yldF_J, ryF_nm (by omega) (by omega)]
      exact m9 q hq
  · intro q hq
    obtain ⟨a1, a2, a3⟩ := hA q hq
    rw [ryF_12, ryF_13, ryF_14, adm_yld, yldF_P]
    refine ⟨a1, ?_, a3⟩
    unfold snt
    rw [adm_yld, yldF_L]
    by_cases hqp : q = p
    · subst hqp
      rw [if_pos rfl, if_pos ⟨rfl, rfl⟩, a2, eN]
      unfold snt
      rw [h0, Int32.sub_zero]
    · rw [if_neg hqp, if_neg (fun e => hqp e.1), a2]
      rfl
/-- all yields -/
theorem ylL_P : ∀ j, (ylL S k j).1 (17, k, q) g = S.1 (17, k, q) g := by
  intro j
  induction j with
  | zero => rfl
  | succ j ih => unfold ylL; rw [yldF_P, ih]
theorem ylL_k : ∀ j, (ylL S k j).1 (12, k, 0) g = S.1 (12, k, 0) g := by
  intro j
  induction j with
  | zero => rfl
  | succ j ih => unfold ylL; rw [yldF_lk, ih]
theorem ylL_3 : ∀ j, j ≤ q → (ylL S k j).1 (18, k, q) w = S.1 (18, k, q) w := by
  intro j
  induction j with
  | zero => intro _; rfl
  | succ j ih => intro hj; unfold ylL; rw [yldF_L, if_neg (by omega), ih (by omega)]
theorem rpY_z (hz : z < 12) : ∀ j, j ≤ 12 → (∀ p, p < j → rh T p < 6) → (rpY T j).1 (11, 0, 0) z = T.1 (11, 0, 0) z := by
  intro j
  induction j with
  | zero => intro _ _; rfl
  | succ j ih => intro hj hh; unfold rpY; rw [ryF_z hz (by omega) (hh j (by omega)), ih (by omega) (fun p hp => hh p (by omega))]
theorem yld_loop (hM : Mix k S T n nh d6 (fun _ => 0)) (hA : Aux k S T n) (hn : n ≤ 12) (hnh : nh ≤ 6) (hhs : ∀ p, p < n → hisF S k p < nh) (h5 : S.1 (12, k, 0) 3 = T.1 (11, 0, 0) 5) (h0 : ∀ p, p < n → S.1 (18, k, p) 3 = 0) : ∀ j, j ≤ n → Mix k (ylL S k j) (rpY T j) n nh d6 (fun p => if p < j then ((ylL S k j).1 (18, k, p) 3 * S.1 (12, k, 0) 3).toInt64 else 0) ∧ Aux k (ylL S k j) (rpY T j) n := by
  have hrh : ∀ p, p < n → rh T p = hisF S k p := by
    intro p hp
    unfold rh hisF gP
    rw [← hM.2.1 p 0 hp (by decide)]
  intro j
  induction j with
  | zero =>
    intro _
    refine ⟨?_, hA⟩
    have e : (fun p => if p < 0 then ((ylL S k 0).1 (18, k, p) 3 * S.1 (12, k, 0) 3).toInt64 else 0) = (fun _ : Nat => (0 : Int64)) := by funext p; rw [if_neg (Nat.not_lt_zero p)]
    rw [e]
    exact hM
  | succ j ih =>
    intro hj
    obtain ⟨ihM, ihA⟩ := ih (by omega)
    have hi := hhs j (by omega)
    have z5 : (rpY T j).1 (11, 0, 0) 5 = T.1 (11, 0, 0) 5 := rpY_z (by decide) j (by omega) (fun p hp => by rw [hrh p (by omega)]; have := hhs p (by omega); omega)
    have st := yld_step ihM ihA hn hnh (p := j) (by omega) hi (by rw [ylL_k, z5]; exact h5) (by rw [ylL_3 j (Nat.le_refl j)]; exact h0 j (by omega))
    rw [ylL_k] at st
    have eS : ylL S k (j + 1) = yldF (ylL S k j) k j (hisF S k j) (S.1 (12, k, 0) 3) := rfl
    have eT : rpY T (j + 1) = ryF (rpY T j) j (hisF S k j) := by rw [← hrh j (by omega)]; rfl
    rw [eS, eT]
    refine ⟨?_, st.2⟩
    have e : (fun p => if p < j + 1 then ((yldF (ylL S k j) k j (hisF S k j) (S.1 (12, k, 0) 3)).1 (18, k, p) 3 * S.1 (12, k, 0) 3).toInt64 else 0) = (fun q => if q = j then (if j < j then ((ylL S k j).1 (18, k, j) 3 * S.1 (12, k, 0) 3).toInt64 else 0) + (yldN (ylL S k j) k j * S.1 (12, k, 0) 3).toInt64 else (if q < j then ((ylL S k j).1 (18, k, q) 3 * S.1 (12, k, 0) 3).toInt64 else 0)) := by
      funext q
      rw [yldF_L]
      by_cases hq : q = j
      · subst hq
        simp
      · rw [if_neg (fun e : q = j ∧ 3 = 3 => hq e.1), if_neg hq]
        by_cases hlt : q < j
        · rw [if_pos (by omega), if_pos hlt]
        · rw [if_neg (by omega), if_neg hlt]
    rw [e]
    exact st.1
end LK3
