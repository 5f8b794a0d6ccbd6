section LK8
variable {n nh t k p i j h w q g z : Nat} {S T U : St} {d6 d7 : Nat → Int64} {v pr rf y u s l : Int32}
theorem dlvF_H : (dlvF S k p i pr rf).1 (16, k, h) (w + 1) = if h = i ∧ w = 3 then S.1 (16, k, i) 4 + dlvN S k p else S.1 (16, k, h) (w + 1) := by
  unfold dlvF
  simp [upI_1, upJ_1]
theorem dlvF_L : (dlvF S k p i pr rf).1 (18, k, q) w = if q = p ∧ w = 5 then dlvN S k p else S.1 (18, k, q) w := by
  unfold dlvF
  simp [upI_1, upJ_1]
theorem dlvF_P : (dlvF S k p i pr rf).1 (17, k, q) g = S.1 (17, k, q) g := by unfold dlvF; simp [upI_1, upJ_1]
theorem dlvF_lk : (dlvF S k p i pr rf).1 (12, k, 0) g = S.1 (12, k, 0) g := by unfold dlvF; simp [upI_1, upJ_1]
theorem dlvF_hr : (dlvF S k p i pr rf).1 (15, k, 0) g = S.1 (15, k, 0) g := by unfold dlvF; simp [upI_1, upJ_1]
theorem dlvF_n1 : (dlvF S k p i pr rf).2.1 (16, k, q) g = S.2.1 (16, k, q) g := by unfold dlvF; simp [upI_2, upJ_2]
theorem dlvF_n2 : (dlvF S k p i pr rf).2.1 (17, k, q) g = S.2.1 (17, k, q) g := by unfold dlvF; simp [upI_2, upJ_2]
def dlvC (S : St) (k p : Nat) (pr rf : Int32) (w : Nat) : Int64 := if w = 5 then (dlvN S k p).toInt64 else if w = 6 then (adm S k p * pr).toInt64 else if w = 7 then (S.1 (18, k, p) 3 * rf).toInt64 else (S.1 (18, k, p) w).toInt64
theorem dlvF_C (hw : w < 8) : (dlvF S k p i pr rf).2.1 (19, k, q) w = if q = p then S.2.1 (19, k, p) w + dlvC S k p pr rf w else S.2.1 (19, k, q) w := by
  unfold dlvF dlvC
  simp [upI_2, upJ_2]
  by_cases h1 : q = p
  · rcases (show w = 0 ∨ w = 1 ∨ w = 2 ∨ w = 3 ∨ w = 4 ∨ w = 5 ∨ w = 6 ∨ w = 7 by omega) with e | e | e | e | e | e | e | e <;> simp [h1, e]
  · simp [h1]
theorem rvF_H (hh : h < 6) (hw : w < 4) (hj : j < 12) (hi : i < 6) : gH (rvF T j i) h w = if h = i ∧ w = 3 then gH T i 3 + rvN T j else gH T h w := by
  unfold rvF rvD rvC rvT
  simp [al_r0, al_r1, al_r2, al_r3, al_r4, al_r5, al_r6, al_r7, al_r8, al_r9, al_r10, al_r11, al_r12, al_r13, al_r14, al_r15, as_r0, as_r1, as_r2, as_r3, as_r4, as_r5, as_r6, as_r7, as_r8, as_r9, as_r10, as_r11, as_r12, as_r13, as_r14, as_r15, gH_sH, gH_sP, gH_sL, gH_sC, gP_sH, gP_sP, gP_sL, gP_sC, gL_sH, gL_sP, gL_sL, gL_sC, gC_sH, gC_sP, gC_sL, gC_sC, rz_sH, rz_sP, rz_sL, ro_sH, ro_sP, ro_sL, rj_sH, rj_sP, rj_sL, gH_upI, gH_upZ, gP_upI, gP_upZ, gL_upI, gL_upZ, rz_sC, gC_upI, x59, x60, x61, x62, x63, x64, x65, x66, x50, x51, hh, hw, hj, hi]
theorem rvF_L (hq : q < 12) (hw : w < 6) (hj : j < 12) (hi : i < 6) : gL (rvF T j i) q w = if q = j ∧ w = 5 then rvN T j else gL T q w := by
  unfold rvF rvD rvC rvT
  simp [al_r0, al_r1, al_r2, al_r3, al_r4, al_r5, al_r6, al_r7, al_r8, al_r9, al_r10, al_r11, al_r12, al_r13, al_r14, al_r15, as_r0, as_r1, as_r2, as_r3, as_r4, as_r5, as_r6, as_r7, as_r8, as_r9, as_r10, as_r11, as_r12, as_r13, as_r14, as_r15, gH_sH, gH_sP, gH_sL, gH_sC, gP_sH, gP_sP, gP_sL, gP_sC, gL_sH, gL_sP, gL_sL, gL_sC, gC_sH, gC_sP, gC_sL, gC_sC, rz_sH, rz_sP, rz_sL, ro_sH, ro_sP, ro_sL, rj_sH, rj_sP, rj_sL, gH_upI, gH_upZ, gP_upI, gP_upZ, gL_upI, gL_upZ, rz_sC, gC_upI, x59, x60, x61, x62, x63, x64, x65, x66, x50, x51, hq, hw, hj, hi]
theorem rvF_P (hq : q < 12) (hw : w < 11) (hj : j < 12) (hi : i < 6) : gP (rvF T j i) q w = gP T q w := by
  unfold rvF rvD rvC rvT
  simp [al_r0, al_r1, al_r2, al_r3, al_r4, al_r5, al_r6, al_r7, al_r8, al_r9, al_r10, al_r11, al_r12, al_r13, al_r14, al_r15, as_r0, as_r1, as_r2, as_r3, as_r4, as_r5, as_r6, as_r7, as_r8, as_r9, as_r10, as_r11, as_r12, as_r13, as_r14, as_r15, gH_sH, gH_sP, gH_sL, gH_sC, gP_sH, gP_sP, gP_sL, gP_sC, gL_sH, gL_sP, gL_sL, gL_sC, gC_sH, gC_sP, gC_sL, gC_sC, rz_sH, rz_sP, rz_sL, ro_sH, ro_sP, ro_sL, rj_sH, rj_sP, rj_sL, gH_upI, gH_upZ, gP_upI, gP_upZ, gL_upI, gL_upZ, rz_sC, gC_upI, x59, x60, x61, x62, x63, x64, x65, x66, x50, x51, hq, hw, hj, hi]
theorem rvF_C (hw : w < 8) (hj : j < 12) (hi : i < 6) : gC (rvF T j i) q w = if q = j ∧ w < 6 then gC T j w + (if w = 5 then rvN T j else gL T j w).toInt64 else gC T q w := by
  unfold rvF rvD rvC rvT
  simp [al_r0, al_r1, al_r2, al_r3, al_r4, al_r5, al_r6, al_r7, al_r8, al_r9, al_r10, al_r11, al_r12, al_r13, al_r14, al_r15, as_r0, as_r1, as_r2, as_r3, as_r4, as_r5, as_r6, as_r7, as_r8, as_r9, as_r10, as_r11, as_r12, as_r13, as_r14, as_r15, gH_sH, gH_sP, gH_sL, gH_sC, gP_sH, gP_sP, gP_sL, gP_sC, gL_sH, gL_sP, gL_sL, gL_sC, gC_sH, gC_sP, gC_sL, gC_sC, rz_sH, rz_sP, rz_sL, ro_sH, ro_sP, ro_sL, rj_sH, rj_sP, rj_sL, gH_upI, gH_upZ, gP_upI, gP_upZ, gL_upI, gL_upZ, rz_sC, gC_upI, x59, x60, x61, x62, x63, x64, x65, x66, x50, x51, hw, hj, hi]
  by_cases h1 : q = j
  · rcases (show w = 0 ∨ w = 1 ∨ w = 2 ∨ w = 3 ∨ w = 4 ∨ w = 5 ∨ w = 6 ∨ w = 7 by omega) with e | e | e | e | e | e | e | e <;> simp [h1, e]
  · simp [h1]
theorem rvF_z (hz : z < 12) (hj : j < 12) (hi : i < 6) : (rvF T j i).1 (11, 0, 0) z = T.1 (11, 0, 0) z := by
  unfold rvF rvD rvC rvT sL sH sC
  simp [upI_1, upJ_1]
  repeat' (first | rw [if_neg (by omega)])
theorem rvF_hi (hz : 240 ≤ z) (hj : j < 12) (hi : i < 6) : (rvF T j i).1 (11, 0, 0) z = T.1 (11, 0, 0) z := by
  unfold rvF rvD rvC rvT sL sH sC
  simp [upI_1, upJ_1]
  repeat' (first | rw [if_neg (by omega)])
theorem rvF_nm (hz : 96 ≤ z) (hj : j < 12) : (rvF T j i).2.1 (11, 5, 0) z = T.2.1 (11, 5, 0) z := by
  unfold rvF rvD rvC rvT sC
  simp [upI_2, upJ_2]
  repeat' (first | rw [if_neg (by omega)])
  rfl
theorem rvF_o {o : Ob} (ho : o ≠ (11, 0, 0)) (ho2 : o ≠ (8, 0, 0)) : (rvF T j i).1 o = T.1 o := by
  unfold rvF rvD rvC rvT sL sH sC
  rw [upI_fun' _ _ _ ho2]
  simp only [upJ_1]
  rw [upI_fun' _ _ _ ho, upI_fun' _ _ _ ho]
theorem rvF_26 : (rvF T j i).1 (8, 0, 0) 26 = T.1 (8, 0, 0) 26 + gL T j 4 := by
  unfold rvF
  rw [upI_1, if_pos ⟨rfl, rfl⟩]
/-- one delivery -/
theorem adm_dlv : adm (dlvF S k p i pr rf) k q = adm S k q := by
  unfold adm
  rw [dlvF_L, dlvF_L, dlvF_L, if_neg (by simp), if_neg (by simp), if_neg (by simp)]
theorem snt_dlv : snt (dlvF S k p i pr rf) k q = snt S k q := by
  unfold snt
  rw [adm_dlv, dlvF_L, if_neg (by simp)]
theorem dlv_step (hM : Mix k S T n nh d6 d7) (hA : Aux k S T n) (hn : n ≤ 12) (hnh : nh ≤ 6) (hp : p < n) (hi : i < nh) (h6 : d6 p = (adm S k p * pr).toInt64) (h7 : d7 p = (S.1 (18, k, p) 3 * rf).toInt64) : Mix k (dlvF S k p i pr rf) (rvF T p i) n nh (fun q => if q = p then 0 else d6 q) (fun q => if q = p then 0 else d7 q) ∧ Aux k (dlvF S k p i pr rf) (rvF T p i) n := by
  obtain ⟨m2, m3, m4, m5, m6, m7, m8, m9⟩ := hM
  have eN : dlvN S k p = rvN T p := by
    unfold dlvN rvN gL
    rw [(hA p hp).2.1, ← m4 p 4 hp (by decide)]
    rfl
  constructor
  · refine ⟨?_, ?_, ?_, ?_, ?_, ?_, ?_, ?_⟩
    · intro h w hh hw
      rw [show (rvF T p i).1 (11, 0, 0) (12 + 4 * h + w) = gH (rvF T p i) h w from rfl, dlvF_H, rvF_H (by omega) hw (by omega) (by omega), eN, m2 i 3 hi (by decide), m2 h w hh hw]
      rfl
    · intro q w hq hw
      rw [show (rvF T p i).1 (11, 0, 0) (36 + 11 * q + w) = gP (rvF T p i) q w from rfl, dlvF_P, rvF_P (by omega) hw (by omega) (by omega)]
      exact m3 q w hq hw
    · intro q w hq hw
      rw [show (rvF T p i).1 (11, 0, 0) (168 + 6 * q + w) = gL (rvF T p i) q w from rfl, dlvF_L, rvF_L (by omega) hw (by omega) (by omega), eN, m4 q w hq hw]
      rfl
    · intro q w hq hw
      rw [show (rvF T p i).2.1 (11, 5, 0) (8 * q + w) = gC (rvF T p i) q w from rfl, dlvF_C (by omega), rvF_C (by omega) (by omega) (by omega)]
      by_cases hqp : q = p
      · subst hqp
        rw [if_pos rfl, if_pos ⟨rfl, hw⟩, m5 q w hq hw]
        unfold dlvC gC gL
        by_cases h5 : w = 5
        · rw [if_pos h5, if_pos h5, eN]
        · rw [if_neg h5, if_neg h5, if_neg (by omega), if_neg (by omega), m4 q w hq hw]
      · rw [if_neg hqp, if_neg (fun e => hqp e.1)]
        exact m5 q w hq hw
    · intro q hq
      rw [show (rvF T p i).2.1 (11, 5, 0) (8 * q + 6) = gC (rvF T p i) q 6 from rfl, show (rvF T p i).2.1 (11, 5, 0) (8 * q + 7) = gC (rvF T p i) q 7 from rfl, rvF_C (by decide) (by omega) (by omega), rvF_C (by decide) (by omega) (by omega), dlvF_C (by decide), dlvF_C (by decide), if_neg (by omega : ¬ (q = p ∧ 6 < 6)), if_neg (by omega : ¬ (q = p ∧ 7 < 6))]
      dsimp only
      by_cases hqp : q = p
      · subst hqp
        rw [if_pos rfl, if_pos rfl, if_pos rfl, if_pos rfl, Int64.add_zero, Int64.add_zero]
        have a := m6 q hq
        rw [h6, h7] at a
        exact a
      · rw [if_neg hqp, if_neg hqp, if_neg hqp, if_neg hqp]
        exact m6 q hq
    · intro q h hq hh
      rw [dlvF_hr, rvF_hi (by omega) (by omega) (by omega)]
      exact m7 q h hq hh
    · intro h hh
      rw [dlvF_n1, rvF_nm (by omega) (by omega)]
      exact m8 h hh
    · intro q hq
      rw [dlvF_n2, rvF_nm (by omega) (by omega)]
      exact m9 q hq
  · intro q hq
    rw [adm_dlv, snt_dlv, dlvF_P, rvF_o (by simp) (by simp), rvF_o (by simp) (by simp), rvF_o (by simp) (by simp)]
    exact hA q hq
/-- all deliveries -/
theorem dvL_P : ∀ j, (dvL S k j).1 (17, k, q) g = S.1 (17, k, q) g := by
  intro j
  induction j with
  | zero => rfl
  | succ j ih => unfold dvL; rw [dlvF_P, ih]
theorem dvL_k : ∀ j, (dvL S k j).1 (12, k, 0) g = S.1 (12, k, 0) g := by
  intro j
  induction j with
  | zero => rfl
  | succ j ih => unfold dvL; rw [dlvF_lk, ih]
theorem dvL_L (hw : w ≠ 5) : ∀ j, (dvL S k j).1 (18, k, q) w = S.1 (18, k, q) w := by
  intro j
  induction j with
  | zero => rfl
  | succ j ih => unfold dvL; rw [dlvF_L, if_neg (fun e => hw e.2), ih]
theorem dvL_adm : adm (dvL S k j) k q = adm S k q := by
  unfold adm
  rw [dvL_L (by decide), dvL_L (by decide), dvL_L (by decide)]
theorem dlv_loop (hM : Mix k S T n nh d6 d7) (hA : Aux k S T n) (hn : n ≤ 12) (hnh : nh ≤ 6) (hhs : ∀ p, p < n → hisF S k p < nh) (h6 : ∀ p, p < n → d6 p = (adm S k p * S.1 (12, k, 0) 2).toInt64) (h7 : ∀ p, p < n → d7 p = (S.1 (18, k, p) 3 * S.1 (12, k, 0) 3).toInt64) : ∀ j, j ≤ n → Mix k (dvL S k j) (rpD T j) n nh (fun p => if p < j then 0 else d6 p) (fun p => if p < j then 0 else d7 p) ∧ Aux k (dvL S k j) (rpD T j) n ∧ (rpD T j).1 (8, 0, 0) 26 = T.1 (8, 0, 0) 26 + sumF (fun p => S.1 (18, k, p) 4) j := by
  have hrh : ∀ p, p < n → rh T p = hisF S k p := by
    intro p hp
    unfold rh hisF gP
    rw [← hM.2.1 p 0 hp (by decide)]
  intro j
  induction j with
  | zero =>
    intro _
    refine ⟨?_, hA, ?_⟩
    · refine Mix_congr hM (fun p _ => ?_) (fun p _ => ?_) <;> rw [if_neg (Nat.not_lt_zero p)]
    · rw [show sumF (fun p => S.1 (18, k, p) 4) 0 = 0 from rfl, Int32.add_zero]; rfl
  | succ j ih =>
    intro hj
    obtain ⟨ihM, ihA, ih26⟩ := ih (by omega)
    have hi := hhs j (by omega)
    have st := dlv_step (pr := S.1 (12, k, 0) 2) (rf := S.1 (12, k, 0) 3) ihM ihA hn hnh (p := j) (by omega) hi (by rw [if_neg (Nat.lt_irrefl j), dvL_adm]; exact h6 j (by omega)) (by rw [if_neg (Nat.lt_irrefl j), dvL_L (by decide)]; exact h7 j (by omega))
    have eS : dvL S k (j + 1) = dlvF (dvL S k j) k j (hisF S k j) (S.1 (12, k, 0) 2) (S.1 (12, k, 0) 3) := rfl
    have eT : rpD T (j + 1) = rvF (rpD T j) j (hisF S k j) := by rw [← hrh j (by omega)]; rfl
    have g4 : gL (rpD T j) j 4 = S.1 (18, k, j) 4 := by
      rw [show gL (rpD T j) j 4 = (rpD T j).1 (11, 0, 0) (168 + 6 * j + 4) from rfl, ← ihM.2.2.1 j 4 (by omega) (by decide), dvL_L (by decide)]
    rw [eS, eT]
    refine ⟨Mix_congr st.1 (fun q _ => ?_) (fun q _ => ?_), st.2, ?_⟩
    · by_cases e : q = j
      · rw [if_pos e, if_pos (by omega)]
      · rw [if_neg e]
        by_cases e2 : q < j
        · rw [if_pos e2, if_pos (by omega)]
        · rw [if_neg e2, if_neg (by omega)]
    · by_cases e : q = j
      · rw [if_pos e, if_pos (by omega)]
      · rw [if_neg e]
        by_cases e2 : q < j
        · rw [if_pos e2, if_pos (by omega)]
        · rw [if_neg e2, if_neg (by omega)]
    · rw [rvF_26, ih26, g4, Int32.add_assoc]
      rfl
end LK8
