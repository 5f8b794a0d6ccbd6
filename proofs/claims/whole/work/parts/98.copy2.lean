section CZ
variable {n nh t k k' p i j h w q g z m : Nat} {S S' T T' U V : St} {a b c v y pr rf e : Int32} {r r' : Nat → Int32} {l l' : Nat → Int64}
theorem hcF_H (hw : w < 4) : (hcF S k i k' i).1 (16, k, h) (w + 1) = if h = i then S.1 (16, k', i) (w + 1) else S.1 (16, k, h) (w + 1) := by
  unfold hcF
  by_cases e : h = i
  · subst e
    rcases (show w = 0 ∨ w = 1 ∨ w = 2 ∨ w = 3 by omega) with e2 | e2 | e2 | e2 <;> subst e2 <;> simp [upI_1, upJ_1]
  · simp [upI_1, upJ_1, e]
theorem hcF_o (hkk : k' ≠ k) : (hcF S k i k' i).1 (16, k', h) w = S.1 (16, k', h) w ∧ (hcF S k i k' i).2.1 (16, k', h) w = S.2.1 (16, k', h) w := by
  unfold hcF
  simp [upI_1, upJ_1, upI_2, upJ_2, hkk]
theorem hcF_N : (hcF S k i k' i).2.1 (16, k, h) 0 = if h = i then S.2.1 (16, k', i) 0 else S.2.1 (16, k, h) 0 := by
  unfold hcF
  by_cases e : h = i
  · subst e; simp [upI_2, upJ_2]
  · simp [upI_2, upJ_2, e]
theorem hcL_k' (hkk : k' ≠ k) : ∀ j, (hcL S k k' j).1 (16, k', h) w = S.1 (16, k', h) w ∧ (hcL S k k' j).2.1 (16, k', h) w = S.2.1 (16, k', h) w := by
  intro j
  induction j with
  | zero => exact ⟨rfl, rfl⟩
  | succ j ih => unfold hcL; rw [(hcF_o hkk).1, (hcF_o hkk).2]; exact ih
theorem hcL_H (hkk : k' ≠ k) (hw : w < 4) : ∀ j, (hcL S k k' j).1 (16, k, h) (w + 1) = if h < j then S.1 (16, k', h) (w + 1) else S.1 (16, k, h) (w + 1) := by
  intro j
  induction j with
  | zero => rw [if_neg (Nat.not_lt_zero h)]; rfl
  | succ j ih =>
    unfold hcL
    rw [hcF_H hw, (hcL_k' hkk j).1, ih]
    by_cases e : h = j
    · subst e; rw [if_pos rfl, if_pos (show h < h + 1 by omega)]
    · rw [if_neg e]
      by_cases hlt : h < j
      · rw [if_pos hlt, if_pos (show h < j + 1 by omega)]
      · rw [if_neg hlt, if_neg (show ¬ h < j + 1 by omega)]
theorem hcL_N (hkk : k' ≠ k) : ∀ j, (hcL S k k' j).2.1 (16, k, h) 0 = if h < j then S.2.1 (16, k', h) 0 else S.2.1 (16, k, h) 0 := by
  intro j
  induction j with
  | zero => rw [if_neg (Nat.not_lt_zero h)]; rfl
  | succ j ih =>
    unfold hcL
    rw [hcF_N, (hcL_k' hkk j).2, ih]
    by_cases e : h = j
    · subst e; rw [if_pos rfl, if_pos (show h < h + 1 by omega)]
    · rw [if_neg e]
      by_cases hlt : h < j
      · rw [if_pos hlt, if_pos (show h < j + 1 by omega)]
      · rw [if_neg hlt, if_neg (show ¬ h < j + 1 by omega)]
theorem cpy_P (hw : w < 11) : (cpyF S k i k' i).1 (17, k, p) (w + 1) = if p = i then S.1 (17, k', i) (w + 1) else S.1 (17, k, p) (w + 1) := by
  unfold cpyF
  by_cases e : p = i
  · subst e
    rcases (show w = 0 ∨ w = 1 ∨ w = 2 ∨ w = 3 ∨ w = 4 ∨ w = 5 ∨ w = 6 ∨ w = 7 ∨ w = 8 ∨ w = 9 ∨ w = 10 by omega) with e2 | e2 | e2 | e2 | e2 | e2 | e2 | e2 | e2 | e2 | e2 <;> subst e2 <;> simp [upI_1, upJ_1, rwI_1, rwJ_1]
  · simp [upI_1, upJ_1, rwI_1, rwJ_1, e]
theorem cpy_L (hw : w < 6) : (cpyF S k i k' i).1 (18, k, p) w = if p = i then S.1 (18, k', i) w else S.1 (18, k, p) w := by
  unfold cpyF
  by_cases e : p = i
  · subst e
    rw [rwJ_1, rwI_1, if_pos rfl, va6 hw, if_pos rfl]
  · rw [rwJ_1, rwI_1, if_neg (by simp [e]), if_neg e]
    simp [upI_1, upJ_1]
theorem cpy_C (hw : w < 8) : (cpyF S k i k' i).2.1 (19, k, p) w = if p = i then S.2.1 (19, k', i) w else S.2.1 (19, k, p) w := by
  unfold cpyF
  by_cases e : p = i
  · subst e
    rw [rwJ_2, if_pos rfl, va6 hw, if_pos rfl]
  · rw [rwJ_2, if_neg (by simp [e]), if_neg e]
    simp [upI_2, upJ_2, rwI_2]
theorem cpy_N : (cpyF S k i k' i).2.1 (17, k, p) 0 = if p = i then S.2.1 (17, k', i) 0 else S.2.1 (17, k, p) 0 := by
  unfold cpyF
  by_cases e : p = i
  · subst e; simp [upI_2, upJ_2, rwI_2, rwJ_2]
  · simp [upI_2, upJ_2, rwI_2, rwJ_2, e]
theorem cpy_o (hkk : k' ≠ k) : (cpyF S k i k' i).1 (q, k', h) = S.1 (q, k', h) ∧ (cpyF S k i k' i).2.1 (q, k', h) = S.2.1 (q, k', h) := by
  have hne : ∀ a b : Nat, ((q, k', h) : Ob) ≠ (a, k, b) := fun a b e => hkk (by injection e with _ e2; injection e2 with e3 _)
  unfold cpyF
  constructor
  · rw [rwJ_1, rwI_fun' _ _ (hne _ _), upI_fun' _ _ _ (hne _ _), upI_fun' _ _ _ (hne _ _), upI_fun' _ _ _ (hne _ _), upI_fun' _ _ _ (hne _ _), upI_fun' _ _ _ (hne _ _), upI_fun' _ _ _ (hne _ _), upI_fun' _ _ _ (hne _ _), upI_fun' _ _ _ (hne _ _), upI_fun' _ _ _ (hne _ _), upI_fun' _ _ _ (hne _ _), upI_fun' _ _ _ (hne _ _)]
    rfl
  · rw [rwJ_fun' _ _ (hne _ _)]
    show (upJ S (17, k, i) 0 _).2.1 (q, k', h) = _
    rw [upJ_fun' _ _ _ (hne _ _)]
theorem pcL_k' (hkk : k' ≠ k) : ∀ j, (pcL S k k' j).1 (q, k', h) = S.1 (q, k', h) ∧ (pcL S k k' j).2.1 (q, k', h) = S.2.1 (q, k', h) := by
  intro j
  induction j with
  | zero => exact ⟨rfl, rfl⟩
  | succ j ih => unfold pcL; rw [(cpy_o hkk).1, (cpy_o hkk).2]; exact ih
theorem pcL_P (hkk : k' ≠ k) (hw : w < 11) : ∀ j, (pcL S k k' j).1 (17, k, p) (w + 1) = if p < j then S.1 (17, k', p) (w + 1) else S.1 (17, k, p) (w + 1) := by
  intro j
  induction j with
  | zero => rw [if_neg (Nat.not_lt_zero p)]; rfl
  | succ j ih =>
    unfold pcL
    rw [cpy_P hw, (pcL_k' hkk j).1, ih]
    by_cases e : p = j
    · subst e; rw [if_pos rfl, if_pos (show p < p + 1 by omega)]
    · rw [if_neg e]
      by_cases hlt : p < j
      · rw [if_pos hlt, if_pos (show p < j + 1 by omega)]
      · rw [if_neg hlt, if_neg (show ¬ p < j + 1 by omega)]
theorem pcL_L (hkk : k' ≠ k) (hw : w < 6) : ∀ j, (pcL S k k' j).1 (18, k, p) w = if p < j then S.1 (18, k', p) w else S.1 (18, k, p) w := by
  intro j
  induction j with
  | zero => rw [if_neg (Nat.not_lt_zero p)]; rfl
  | succ j ih =>
    unfold pcL
    rw [cpy_L hw, (pcL_k' hkk j).1, ih]
    by_cases e : p = j
    · subst e; rw [if_pos rfl, if_pos (show p < p + 1 by omega)]
    · rw [if_neg e]
      by_cases hlt : p < j
      · rw [if_pos hlt, if_pos (show p < j + 1 by omega)]
      · rw [if_neg hlt, if_neg (show ¬ p < j + 1 by omega)]
theorem pcL_C (hkk : k' ≠ k) (hw : w < 8) : ∀ j, (pcL S k k' j).2.1 (19, k, p) w = if p < j then S.2.1 (19, k', p) w else S.2.1 (19, k, p) w := by
  intro j
  induction j with
  | zero => rw [if_neg (Nat.not_lt_zero p)]; rfl
  | succ j ih =>
    unfold pcL
    rw [cpy_C hw, (pcL_k' hkk j).2, ih]
    by_cases e : p = j
    · subst e; rw [if_pos rfl, if_pos (show p < p + 1 by omega)]
    · rw [if_neg e]
      by_cases hlt : p < j
      · rw [if_pos hlt, if_pos (show p < j + 1 by omega)]
      · rw [if_neg hlt, if_neg (show ¬ p < j + 1 by omega)]
theorem pcL_N (hkk : k' ≠ k) : ∀ j, (pcL S k k' j).2.1 (17, k, p) 0 = if p < j then S.2.1 (17, k', p) 0 else S.2.1 (17, k, p) 0 := by
  intro j
  induction j with
  | zero => rw [if_neg (Nat.not_lt_zero p)]; rfl
  | succ j ih =>
    unfold pcL
    rw [cpy_N, (pcL_k' hkk j).2, ih]
    by_cases e : p = j
    · subst e; rw [if_pos rfl, if_pos (show p < p + 1 by omega)]
    · rw [if_neg e]
      by_cases hlt : p < j
      · rw [if_pos hlt, if_pos (show p < j + 1 by omega)]
      · rw [if_neg hlt, if_neg (show ¬ p < j + 1 by omega)]
theorem pcL_oJ {o : Ob} (h : o.1 ≠ 17 ∧ o.1 ≠ 19) : ∀ j, (pcL S k k' j).2.1 o = S.2.1 o := by
  intro j
  induction j with
  | zero => rfl
  | succ j ih =>
    unfold pcL cpyF
    rw [rwJ_fun' _ _ (fun e => h.2 (by rw [e]))]
    show (upJ (pcL S k k' j) (17, k, j) 0 _).2.1 o = _
    rw [upJ_fun' _ _ _ (fun e => h.1 (by rw [e])), ih]
theorem hcL_oJ {o : Ob} (h : o.1 ≠ 16) : ∀ j, (hcL S k k' j).2.1 o = S.2.1 o := by
  intro j
  induction j with
  | zero => rfl
  | succ j ih =>
    unfold hcL hcF
    show (upJ (hcL S k k' j) (16, k, j) 0 _).2.1 o = _
    rw [upJ_fun' _ _ _ (fun e => h (by rw [e])), ih]
theorem lcF_Eqk (hkk : k' ≠ k) : Eqk k k' S (lcF S k k' n nh) n nh := by
  have h15 : ∀ o : Ob, o.1 ≠ 15 → (lcF S k k' n nh).1 o = (pcL (hcL (lc0 S k k') k k' nh) k k' n).1 o := fun o ho => by
    unfold lcF hrC
    rw [rwI_fun' _ _ (fun e => ho (by rw [e]))]
  have hJ : ∀ o : Ob, (lcF S k k' n nh).2.1 o = (pcL (hcL (lc0 S k k') k k' nh) k k' n).2.1 o := fun o => rfl
  have k0 : ∀ a b : Nat, (lc0 S k k').1 (a, k', b) = S.1 (a, k', b) := fun a b => by
    funext x
    exact lc0_o (fun e => hkk (by injection e with _ e2; injection e2 with e3 _))
  have k0J : (lc0 S k k').2 = S.2 := rfl
  refine ⟨fun g hg => ?_, fun h w hh hw => ?_, fun p w hp hw => ?_, fun p w hp hw => ?_, fun p w hp hw => ?_, fun z hz => ?_, fun h hh => ?_, fun p hp => ?_⟩
  · rw [h15 _ (by simp), pcL_o (by simp), hcL_o (by simp), lc0_s hg]
  · rw [h15 _ (by simp), pcL_o (by simp), hcL_H hkk hw, if_pos hh, k0]
  · rw [h15 _ (by simp), pcL_P hkk hw, if_pos hp, hcL_o (by simp), k0]
  · rw [h15 _ (by simp), pcL_L hkk hw, if_pos hp, hcL_o (by simp), k0]
  · rw [hJ, pcL_C hkk hw, if_pos hp, hcL_oJ (by simp), k0J]
  · unfold lcF hrC
    rw [rwI_1, if_pos rfl, va6 hz, (pcL_k' hkk n).1, hcL_o (by simp), k0]
  · rw [hJ, pcL_oJ (by simp), hcL_N hkk, if_pos hh, k0J]
  · rw [hJ, pcL_N hkk, if_pos hp, hcL_oJ (by simp), k0J]
end CZ
