section LK9
variable {n nh t k p i j h w q g z : Nat} {S T U : St} {d6 d7 : Nat → Int64} {v pr rf y u s l : Int32}
/-- a program's number written on both sides -/
theorem Mix_P (h : Mix k S T n nh d6 d7) (hn : n ≤ 12) (hnh : nh ≤ 6) (hp : p < n) (hw : w < 11) : Mix k (upI S (17, k, p) (w + 1) v) (sP T p w v) n nh d6 d7 := by
  obtain ⟨m2, m3, m4, m5, m6, m7, m8, m9⟩ := h
  refine ⟨fun a b c d => ?_, fun a b c d => ?_, fun a b c d => ?_, m5, m6, fun a b c d => ?_, m8, m9⟩
  · unfold sP; rw [upI_1, if_neg (by simp), upI_1, if_neg (by omega)]; exact m2 a b c d
  · unfold sP
    rw [upI_1, upI_1]
    by_cases e : a = p ∧ b = w
    · rw [if_pos ⟨by rw [e.1], by rw [e.2]⟩, if_pos ⟨rfl, by rw [e.1, e.2]⟩]
    · rw [if_neg (by simp; omega), if_neg (by omega)]
      exact m3 a b c d
  · unfold sP; rw [upI_1, if_neg (by simp), upI_1, if_neg (by omega)]; exact m4 a b c d
  · unfold sP; rw [upI_1, if_neg (by simp), upI_1, if_neg (by omega)]; exact m7 a b c d
theorem sP_self : sP T p w (gP T p w) = T := upI_self
/-- who leads -/
def ldP (P : Nat → Int32) : Option Nat → Int32
  | none => -1
  | some j => P j
theorem ld_eq (hM : Mix k S T n nh d6 d7) : ∀ m, m ≤ n → (ldF S k m).1 = lrG T (lrO T m) ∧ (ldF S k m).2 = ldP (fun p => S.1 (17, k, p) 7) (lrO T m) := by
  intro m
  induction m with
  | zero => intro _; exact ⟨rfl, rfl⟩
  | succ m ih =>
    intro hm
    obtain ⟨i1, i2⟩ := ih (by omega)
    have g3 : gL T m 3 = S.1 (18, k, m) 3 := (hM.2.2.1 m 3 (by omega) (by decide)).symm
    rw [show lrO T (m + 1) = if lrG T (lrO T m) < gL T m 3 then some m else lrO T m from rfl, show ldF S k (m + 1) = if (ldF S k m).1 < S.1 (18, k, m) 3 then (S.1 (18, k, m) 3, S.1 (17, k, m) 7) else ldF S k m from rfl, i1, g3]
    by_cases hc : lrG T (lrO T m) < S.1 (18, k, m) 3
    · rw [if_pos hc, if_pos hc]
      exact ⟨g3.symm, rfl⟩
    · rw [if_neg hc, if_neg hc]
      exact ⟨i1, i2⟩
/-- one lesson -/
theorem raised_eq (hM : Mix k S T n nh d6 d7) (hp : p < n) (P : Nat → Int32) (hP : T.1 (11, 14, 0) p = S.1 (17, k, p) 7) {o : Option Nat} (hoP : ∀ j, o = some j → T.1 (11, 14, 0) j = P j) (h0 : 0 ≤ S.1 (17, k, p) 7) (hkd : S.1 (17, k, p) 2 = 0 ∨ S.1 (17, k, p) 2 = 1 ∨ S.1 (17, k, p) 2 = 2 ∨ S.1 (17, k, p) 2 = 3) : rsdF S k p (ldP P o) = rgV T p o := by
  have g1 : gP T p 1 = S.1 (17, k, p) 2 := (hM.2.1 p 1 hp (by decide)).symm
  have g7 : gP T p 7 = S.1 (17, k, p) 8 := (hM.2.1 p 7 hp (by decide)).symm
  have g9 : gP T p 9 = S.1 (17, k, p) 10 := (hM.2.1 p 9 hp (by decide)).symm
  unfold rsdF rgV
  rw [g1, g7, g9, hP]
  rcases hkd with e | e | e | e
  · rw [e, if_pos rfl, if_pos rfl]
  · rw [e, if_neg (show ¬ (1 : Int32) = 0 by decide), if_neg (show ¬ (1 : Int32) = 2 by decide), if_neg (show ¬ (1 : Int32) = 3 by decide), if_neg (show ¬ (1 : Int32) = 0 by decide), if_pos rfl]
  · rw [e, if_neg (show ¬ (2 : Int32) = 0 by decide), if_pos rfl, if_neg (show ¬ (2 : Int32) = 0 by decide), if_neg (show ¬ (2 : Int32) = 1 by decide), if_pos rfl]
  · rw [e, if_neg (show ¬ (3 : Int32) = 0 by decide), if_neg (show ¬ (3 : Int32) = 2 by decide), if_pos rfl, if_neg (show ¬ (3 : Int32) = 0 by decide), if_neg (show ¬ (3 : Int32) = 1 by decide), if_neg (show ¬ (3 : Int32) = 2 by decide)]
    cases o with
    | none =>
      rw [show ldP P none = -1 from rfl, if_neg (by
        rw [Int32.lt_iff_toInt_lt, show (-1 : Int32).toInt = -1 from rfl]
        rw [Int32.le_iff_toInt_le, show (0 : Int32).toInt = 0 from rfl] at h0
        omega)]
    | some j =>
      rw [show ldP P (some j) = P j from rfl, ← hoP j rfl]
theorem lrn_step (hM : Mix k S T n nh d6 d7) (hn : n ≤ 12) (hnh : nh ≤ 6) (hp : p < n) (P : Nat → Int32) (hP : T.1 (11, 14, 0) p = S.1 (17, k, p) 7) {o : Option Nat} (hoP : ∀ j, o = some j → T.1 (11, 14, 0) j = P j) (h0 : 0 ≤ S.1 (17, k, p) 7) (hkd : S.1 (17, k, p) 2 = 0 ∨ S.1 (17, k, p) 2 = 1 ∨ S.1 (17, k, p) 2 = 2 ∨ S.1 (17, k, p) 2 = 3) {wn fg : Int32} (hwn : T.1 (11, 0, 0) 10 = wn) (hfg : T.1 (11, 0, 0) 6 = fg) : Mix k (lrnF S k p wn fg (ldP P o)) (rlF T p o) n nh d6 d7 := by
  have l4 : gL T p 4 = S.1 (18, k, p) 4 := (hM.2.2.1 p 4 hp (by decide)).symm
  have l3 : gL T p 3 = S.1 (18, k, p) 3 := (hM.2.2.1 p 3 hp (by decide)).symm
  have g2 : gP T p 2 = S.1 (17, k, p) 3 := (hM.2.1 p 2 hp (by decide)).symm
  have g3 : gP T p 3 = S.1 (17, k, p) 4 := (hM.2.1 p 3 hp (by decide)).symm
  have g4 : gP T p 4 = S.1 (17, k, p) 5 := (hM.2.1 p 4 hp (by decide)).symm
  have g5 : gP T p 5 = S.1 (17, k, p) 6 := (hM.2.1 p 5 hp (by decide)).symm
  have g6 : gP T p 6 = S.1 (17, k, p) 7 := (hM.2.1 p 6 hp (by decide)).symm
  have g8 : gP T p 8 = S.1 (17, k, p) 9 := (hM.2.1 p 8 hp (by decide)).symm
  have g9 : gP T p 9 = S.1 (17, k, p) 10 := (hM.2.1 p 9 hp (by decide)).symm
  unfold lrnF rlF
  rw [l4, l3, g2, g3, g4, g5, g8, g9, hP, hwn, hfg]
  by_cases c1 : 0 < S.1 (18, k, p) 4
  · rw [if_pos c1, if_pos c1]
    have h1 : Mix k (upI S (17, k, p) 10 (S.1 (17, k, p) 10 + 1)) (sP T p 9 (S.1 (17, k, p) 10 + 1)) n nh d6 d7 := Mix_P (w := 9) hM hn hnh hp (by decide)
    have hr := raised_eq h1 hp P (o := o) (by unfold sP; rw [upI_1, if_neg (by simp), upI_1, if_neg (by simp)]; exact hP) (fun j hj => by unfold sP; rw [upI_1, if_neg (by simp)]; exact hoP j hj) (by rw [upI_1, if_neg (by simp)]; exact h0) (by rw [upI_1, if_neg (by simp)]; exact hkd)
    rw [hr]
    exact Mix_P (w := 2) (Mix_P (w := 6) h1 hn hnh hp (by decide)) hn hnh hp (by decide)
  · rw [if_neg c1, if_neg c1]
    by_cases c2 : 0 < S.1 (18, k, p) 3
    · rw [if_pos c2, if_pos c2]
      exact Mix_P (w := 2) (Mix_P (w := 9) hM hn hnh hp (by decide)) hn hnh hp (by decide)
    · rw [if_neg c2, if_neg c2]
      by_cases c3 : wn = 0 ∧ S.1 (17, k, p) 9 < S.1 (17, k, p) 7
      · rw [if_pos c3, if_pos c3]
        exact Mix_P (w := 6) (Mix_P (w := 2) (Mix_P (w := 9) hM hn hnh hp (by decide)) hn hnh hp (by decide)) hn hnh hp (by decide)
      · rw [if_neg c3, if_neg c3]
        have h2 := Mix_P (w := 2) (v := imin (S.1 (17, k, p) 5) (S.1 (17, k, p) 3 + S.1 (17, k, p) 6)) (Mix_P (w := 9) (v := 0) hM hn hnh hp (by decide)) hn hnh hp (by decide)
        have e : S.1 (17, k, p) 7 = gP (sP (sP T p 9 0) p 2 (imin (S.1 (17, k, p) 5) (S.1 (17, k, p) 3 + S.1 (17, k, p) 6))) p 6 := by
          rw [gP_sP (by decide) (by decide), if_neg (by omega), gP_sP (by decide) (by decide), if_neg (by omega), g6]
        rw [e, sP_self]
        exact h2
theorem lrnF_k {wn fg ld : Int32} : (lrnF S k p wn fg ld).1 (12, k, 0) g = S.1 (12, k, 0) g := by
  unfold lrnF
  split
  · simp [upI_1]
  · split
    · simp [upI_1]
    · split <;> simp [upI_1]
theorem lrnF_q {wn fg ld : Int32} (hq : q ≠ p) : (lrnF S k p wn fg ld).1 (17, k, q) g = S.1 (17, k, q) g := by
  unfold lrnF
  split
  · simp [upI_1, hq]
  · split
    · simp [upI_1, hq]
    · split <;> simp [upI_1, hq]
theorem laF_k {l : Int32} : ∀ j, (laF S k l j).1 (12, k, 0) g = S.1 (12, k, 0) g := by
  intro j
  induction j with
  | zero => rfl
  | succ j ih =>
    unfold laF
    split
    · exact ih
    · rw [lrnF_k, ih]
theorem laF_q {l : Int32} : ∀ j, j ≤ q → (laF S k l j).1 (17, k, q) g = S.1 (17, k, q) g := by
  intro j
  induction j with
  | zero => intro _; rfl
  | succ j ih =>
    intro hj
    unfold laF
    split
    · exact ih (by omega)
    · rw [lrnF_q (by omega), ih (by omega)]
theorem rlF_o {o : Option Nat} {ob : Ob} (ho : ob ≠ (11, 0, 0)) : (rlF T p o).1 ob = T.1 ob := by
  unfold rlF sP
  split
  · rw [upI_fun' _ _ _ ho, upI_fun' _ _ _ ho, upI_fun' _ _ _ ho]
  · split
    · rw [upI_fun' _ _ _ ho, upI_fun' _ _ _ ho]
    · rw [upI_fun' _ _ _ ho, upI_fun' _ _ _ ho, upI_fun' _ _ _ ho]
theorem rlF_z {o : Option Nat} (hz : z < 36) : (rlF T p o).1 (11, 0, 0) z = T.1 (11, 0, 0) z := by
  unfold rlF
  split
  · rw [rz_sP hz, rz_sP hz, rz_sP hz]
  · split
    · rw [rz_sP hz, rz_sP hz]
    · rw [rz_sP hz, rz_sP hz, rz_sP hz]
theorem rpL_o {o : Option Nat} {ob : Ob} (ho : ob ≠ (11, 0, 0)) : ∀ j, (rpL T o j).1 ob = T.1 ob := by
  intro j
  induction j with
  | zero => rfl
  | succ j ih =>
    unfold rpL
    split
    · rw [rlF_o ho, ih]
    · exact ih
theorem rpL_z {o : Option Nat} (hz : z < 36) : ∀ j, (rpL T o j).1 (11, 0, 0) z = T.1 (11, 0, 0) z := by
  intro j
  induction j with
  | zero => rfl
  | succ j ih =>
    unfold rpL
    split
    · rw [rlF_z hz, ih]
    · exact ih
theorem lrn_loop (hM : Mix k S T n nh d6 d7) (hA : Aux k S T n) (hn : n ≤ 12) (hnh : nh ≤ 6) (hon : ∀ p, p < n → (S.1 (17, k, p) 11 = 0 ∨ S.1 (17, k, p) 11 = 1)) (hkd : ∀ p, p < n → (S.1 (17, k, p) 2 = 0 ∨ S.1 (17, k, p) 2 = 1 ∨ S.1 (17, k, p) 2 = 2 ∨ S.1 (17, k, p) 2 = 3)) (hpc : ∀ p, p < n → 0 ≤ S.1 (17, k, p) 7) (hwn : T.1 (11, 0, 0) 10 = S.1 (12, k, 0) 8) (hfg : T.1 (11, 0, 0) 6 = S.1 (12, k, 0) 4) : ∀ j, j ≤ n → Mix k (laF S k (ldF S k n).2 j) (rpL T (lrO T n) j) n nh d6 d7 := by
  have hld := (ld_eq hM n (Nat.le_refl n)).2
  rw [hld]
  intro j
  induction j with
  | zero => intro _; exact hM
  | succ j ih =>
    intro hj
    have ihM := ih (by omega)
    rw [show laF S k (ldP (fun p => S.1 (17, k, p) 7) (lrO T n)) (j + 1) = if (laF S k (ldP (fun p => S.1 (17, k, p) 7) (lrO T n)) j).1 (17, k, j) 11 = 0 then laF S k (ldP (fun p => S.1 (17, k, p) 7) (lrO T n)) j else lrnF (laF S k (ldP (fun p => S.1 (17, k, p) 7) (lrO T n)) j) k j (S.1 (12, k, 0) 8) (S.1 (12, k, 0) 4) (ldP (fun p => S.1 (17, k, p) 7) (lrO T n)) from rfl, show rpL T (lrO T n) (j + 1) = if gP (rpL T (lrO T n) j) j 10 = 1 then rlF (rpL T (lrO T n) j) j (lrO T n) else rpL T (lrO T n) j from rfl]
    have g10 : gP (rpL T (lrO T n) j) j 10 = S.1 (17, k, j) 11 := by
      rw [show gP (rpL T (lrO T n) j) j 10 = (rpL T (lrO T n) j).1 (11, 0, 0) (36 + 11 * j + 10) from rfl, ← ihM.2.1 j 10 (by omega) (by decide), laF_q j (Nat.le_refl j)]
    rw [g10, laF_q j (Nat.le_refl j)]
    rcases hon j (by omega) with e | e
    · rw [if_pos e, if_neg (by rw [e]; decide)]
      exact ihM
    · rw [if_neg (by rw [e]; decide), if_pos e]
      refine lrn_step ihM hn hnh (by omega) (fun p => S.1 (17, k, p) 7) ?_ (fun q hq => ?_) ?_ ?_ ?_ ?_
      · rw [rpL_o (by simp), laF_q j (Nat.le_refl j)]; exact (hA j (by omega)).2.2
      · rw [rpL_o (by simp)]; exact (hA q (lrO_lt n hq)).2.2
      · rw [laF_q j (Nat.le_refl j)]; exact hpc j (by omega)
      · rw [laF_q j (Nat.le_refl j)]; exact hkd j (by omega)
      · rw [rpL_z (by decide)]; exact hwn
      · rw [rpL_z (by decide)]; exact hfg
end LK9
