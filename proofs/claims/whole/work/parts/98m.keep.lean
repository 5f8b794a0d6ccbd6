section KP
variable {n nh t k k' p i h z m u f pn pc fb fr b x j c : Nat} {S S' T T' U V R : St} {q v : Int32}
/-! UNDO AND SNAPSHOTS -/
/-- a copied row -/
theorem cpy_in {α : Type} {f g : Nat → α} {a b n j : Nat} (h1 : b ≤ j) (h2 : j < b + n) : va_cpy f g a b n j = f (a + (j - b)) := by
  unfold va_cpy
  rw [if_pos (by omega)]
theorem cpy_out {α : Type} {f g : Nat → α} {a b n j : Nat} (h : j < b ∨ b + n ≤ j) : va_cpy f g a b n j = g j := by
  unfold va_cpy
  rw [if_neg (by omega)]
/-- past rows behind a shift -/
theorem kpL_row : ∀ m, (∀ i j, i < m → j < 384 → (kpL S m).1 (11, 2, 0) (384 * i + j) = S.1 (11, 2, 0) (384 * (i + 1) + j)) ∧ (∀ z, 384 * m ≤ z → (kpL S m).1 (11, 2, 0) z = S.1 (11, 2, 0) z) := by
  intro m
  induction m with
  | zero => exact ⟨fun i j hi => absurd hi (Nat.not_lt_zero i), fun z _ => rfl⟩
  | succ m ih =>
    obtain ⟨i1, i2⟩ := ih
    have e : (kpL S (m + 1)).1 (11, 2, 0) = va_cpy ((kpL S m).1 (11, 2, 0)) ((kpL S m).1 (11, 2, 0)) (384 * (m + 1)) (384 * m) 384 := by
      rw [show kpL S (m + 1) = kpS (kpL S m) m from rfl]
      generalize kpL S m = K
      unfold kpS cpJ cpI
      rw [rwJ_1, rwI_fun]
    rw [e]
    refine ⟨fun i j hi hj => ?_, fun z hz => ?_⟩
    · by_cases em : i = m
      · subst em
        rw [cpy_in (by omega) (by omega), i2 _ (by omega), Nat.add_sub_cancel_left]
      · rw [cpy_out (by omega)]
        exact i1 i j (by omega) hj
    · rw [cpy_out (by omega)]
      exact i2 z (by omega)
theorem kpL_rowJ : ∀ m, (∀ i j, i < m → j < 114 → (kpL S m).2.1 (11, 7, 0) (114 * i + j) = S.2.1 (11, 7, 0) (114 * (i + 1) + j)) ∧ (∀ z, 114 * m ≤ z → (kpL S m).2.1 (11, 7, 0) z = S.2.1 (11, 7, 0) z) := by
  intro m
  induction m with
  | zero => exact ⟨fun i j hi => absurd hi (Nat.not_lt_zero i), fun z _ => rfl⟩
  | succ m ih =>
    obtain ⟨i1, i2⟩ := ih
    have e : (kpL S (m + 1)).2.1 (11, 7, 0) = va_cpy ((kpL S m).2.1 (11, 7, 0)) ((kpL S m).2.1 (11, 7, 0)) (114 * (m + 1)) (114 * m) 114 := by
      rw [show kpL S (m + 1) = kpS (kpL S m) m from rfl]
      generalize kpL S m = K
      unfold kpS cpJ cpI
      rw [rwJ_fun]
      rfl
    rw [e]
    refine ⟨fun i j hi hj => ?_, fun z hz => ?_⟩
    · by_cases em : i = m
      · subst em
        rw [cpy_in (by omega) (by omega), i2 _ (by omega), Nat.add_sub_cancel_left]
      · rw [cpy_out (by omega)]
        exact i1 i j (by omega) hj
    · rw [cpy_out (by omega)]
      exact i2 z (by omega)
theorem kpT_2 : (kpT S c).1 (11, 2, 0) = va_cpy (S.1 (11, 0, 0)) (S.1 (11, 2, 0)) 0 (384 * c) 384 := by
  unfold kpT cpJ cpI
  rw [upI_fun' _ _ _ (by simp), rwJ_1, rwI_fun]
theorem kpT_7 : (kpT S c).2.1 (11, 7, 0) = va_cpy (S.2.1 (11, 5, 0)) (S.2.1 (11, 7, 0)) 0 (114 * c) 114 := by
  unfold kpT cpJ cpI
  rw [upI_2, rwJ_fun]
  rfl
theorem kpT_11 : (kpT S c).1 (8, 0, 0) 11 = Int32.ofNat (c + 1) := by
  unfold kpT
  rw [upI_1, if_pos ⟨rfl, rfl⟩]
/-- keeps on both sides -/
theorem op_keep (h : InvP S T n nh t pn pc fb fr) : ∃ pn' pc', InvP (kuF S n nh pn pc) (kpF T pc) n nh t pn' pc' fb fr := by
  obtain ⟨⟨hL, ht⟩, h0, h1, h2, h3, h4, h5⟩ := h
  obtain ⟨b1, b2, b3, b4, b5⟩ := h0
  have hEq : Eqk (3 + pn) 1 S (lcF S (3 + pn) 1 n nh) n nh := lcF_Eqk (by omega)
  have hFr : Fr (3 + pn) S (lcF S (3 + pn) 1 n nh) := lcF_Fr
  have cK : ∀ o : Ob, o ≠ (0, 0, 0) → (kuF S n nh pn pc).1 o = (lcF S (3 + pn) 1 n nh).1 o ∧ (kuF S n nh pn pc).2.1 o = (lcF S (3 + pn) 1 n nh).2.1 o := fun o ho => by
    unfold kuF
    rw [upI_fun' _ _ _ ho, upI_fun' _ _ _ ho]
    exact ⟨rfl, rfl⟩
  have k5 : (kuF S n nh pn pc).1 (0, 0, 0) 5 = Int32.ofNat ((pn + 1) % 8) := by unfold kuF; rw [upI_1, if_neg (by simp), upI_1, if_pos ⟨rfl, rfl⟩]
  have k6 : (kuF S n nh pn pc).1 (0, 0, 0) 6 = Int32.ofNat (if pc = 8 then 8 else pc + 1) := by unfold kuF; rw [upI_1, if_pos ⟨rfl, rfl⟩]
  have hEqK : Eqk (3 + pn) 1 S (kuF S n nh pn pc) n nh := by
    obtain ⟨e1, e2, e3, e4, e5, e6, e7, e8⟩ := hEq
    have cI : ∀ a b : Nat, 12 ≤ a → (kuF S n nh pn pc).1 (a, 3 + pn, b) = (lcF S (3 + pn) 1 n nh).1 (a, 3 + pn, b) := fun a b ha => (cK _ (fun e => by injection e with e _; omega)).1
    have cJ : ∀ a b : Nat, 12 ≤ a → (kuF S n nh pn pc).2.1 (a, 3 + pn, b) = (lcF S (3 + pn) 1 n nh).2.1 (a, 3 + pn, b) := fun a b ha => (cK _ (fun e => by injection e with e _; omega)).2
    exact ⟨fun g hg => by rw [cI 12 0 (by decide)]; exact e1 g hg, fun h w hh hw => by rw [cI 16 h (by decide)]; exact e2 h w hh hw, fun p w hp hw => by rw [cI 17 p (by decide)]; exact e3 p w hp hw, fun p w hp hw => by rw [cI 18 p (by decide)]; exact e4 p w hp hw, fun p w hp hw => by rw [cJ 19 p (by decide)]; exact e5 p w hp hw, fun z hz => by rw [cI 15 0 (by decide)]; exact e6 z hz, fun h hh => by rw [cJ 16 h (by decide)]; exact e7 h hh, fun p hp => by rw [cJ 17 p (by decide)]; exact e8 p hp⟩
  have c : ∀ o : Ob, o ≠ (0, 0, 0) → o.2.1 ≠ 3 + pn ∨ o.1 < 12 → (kuF S n nh pn pc).1 o = S.1 o ∧ (kuF S n nh pn pc).2.1 o = S.2.1 o := fun o ho hk => by
    rw [(cK o ho).1, (cK o ho).2]
    exact hFr.1 o hk
  have c12 : ∀ o : Ob, 12 ≤ o.1 → o.2.1 ≠ 3 + pn → (kuF S n nh pn pc).1 o = S.1 o ∧ (kuF S n nh pn pc).2.1 o = S.2.1 o := fun o ho hk => c o (fun e => by rw [e] at ho; simp at ho) (Or.inl hk)
  have hM := kpF_Kf (S := T) (c := pc)
  have hW := kp_W (S := T) (c := pc)
  have hnew : Lnr (3 + pn) (kuF S n nh pn pc) (T.1 (11, 0, 0)) (T.2.1 (11, 5, 0)) n nh t := Lnr_Eqk hL hEqK (fun _ _ => rfl) (fun _ _ => rfl)
  have hold : ∀ i, i < pc → i + (if pc = 8 then 0 else 1) ≠ 0 → ∃ n' nh' t', t' ≤ 100000 ∧ Lnr (3 + (pn + 8 - pc + i) % 8) (kuF S n nh pn pc) (fun j => T.1 (11, 2, 0) (384 * i + j)) (fun j => T.2.1 (11, 7, 0) (114 * i + j)) n' nh' t' := fun i hi hne => by
    obtain ⟨n', nh', t', a1, a2⟩ := h1 i hi
    have hk : 3 + (pn + 8 - pc + i) % 8 ≠ 3 + pn := by
      split at hne <;> omega
    exact ⟨n', nh', t', a1, Lnr_Eqk a2 (Eqk_of (fun o ho a _ => (c12 o a (by rw [ho]; exact hk)).1) (fun o ho a _ => (c12 o a (by rw [ho]; exact hk)).2)) (fun _ _ => rfl) (fun _ _ => rfl)⟩
  have hU : Und (kuF S n nh pn pc) (kpF T pc) ((pn + 1) % 8) (if pc = 8 then 8 else pc + 1) := by
    intro i hi
    unfold kpF
    by_cases e8 : pc = 8
    · rw [if_pos e8] at hi ⊢
      rw [if_pos e8]
      have r1 := kpL_row (S := upI T (8, 0, 0) 11 7) 7
      have r2 := kpL_rowJ (S := upI T (8, 0, 0) 11 7) 7
      by_cases e : i = 7
      · subst e
        refine ⟨n, nh, t, ht, ?_⟩
        rw [show 3 + ((pn + 1) % 8 + 8 - 8 + 7) % 8 = 3 + pn by omega]
        refine Lnr_Eqk hnew ⟨fun _ _ => rfl, fun _ _ _ _ => rfl, fun _ _ _ _ => rfl, fun _ _ _ _ => rfl, fun _ _ _ _ => rfl, fun _ _ => rfl, fun _ _ => rfl, fun _ _ => rfl⟩ (fun j hj => ?_) (fun j hj => ?_)
        · rw [kpT_2, cpy_in (by omega) (by omega), (kpL_Kf 7).1 _ (by simp) (by simp), upI_fun' _ _ _ (by simp), Nat.add_sub_cancel_left, Nat.zero_add]
        · rw [kpT_7, cpy_in (by omega) (by omega), (kpL_Kf 7).2.2.1 _ (by simp), Nat.add_sub_cancel_left, Nat.zero_add]
          rfl
      · obtain ⟨n', nh', t', a1, a2⟩ := hold (i + 1) (by omega) (by omega)
        refine ⟨n', nh', t', a1, ?_⟩
        rw [show 3 + ((pn + 1) % 8 + 8 - 8 + i) % 8 = 3 + (pn + 8 - pc + (i + 1)) % 8 by omega]
        refine Lnr_Eqk a2 ⟨fun _ _ => rfl, fun _ _ _ _ => rfl, fun _ _ _ _ => rfl, fun _ _ _ _ => rfl, fun _ _ _ _ => rfl, fun _ _ => rfl, fun _ _ => rfl, fun _ _ => rfl⟩ (fun j hj => ?_) (fun j hj => ?_)
        · rw [kpT_2, cpy_out (by omega), r1.1 i j (by omega) hj, upI_fun' _ _ _ (by simp)]
        · rw [kpT_7, cpy_out (by omega), r2.1 i j (by omega) hj]
          rfl
    · rw [if_neg e8] at hi ⊢
      rw [if_neg e8]
      by_cases e : i = pc
      · subst e
        refine ⟨n, nh, t, ht, ?_⟩
        rw [show 3 + ((pn + 1) % 8 + 8 - (i + 1) + i) % 8 = 3 + pn by omega]
        refine Lnr_Eqk hnew ⟨fun _ _ => rfl, fun _ _ _ _ => rfl, fun _ _ _ _ => rfl, fun _ _ _ _ => rfl, fun _ _ _ _ => rfl, fun _ _ => rfl, fun _ _ => rfl, fun _ _ => rfl⟩ (fun j hj => ?_) (fun j hj => ?_)
        · rw [kpT_2, cpy_in (by omega) (by omega), Nat.add_sub_cancel_left, Nat.zero_add]
        · rw [kpT_7, cpy_in (by omega) (by omega), Nat.add_sub_cancel_left, Nat.zero_add]
      · obtain ⟨n', nh', t', a1, a2⟩ := hold i (by omega) (by rw [if_neg e8]; omega)
        refine ⟨n', nh', t', a1, ?_⟩
        rw [show 3 + ((pn + 1) % 8 + 8 - (pc + 1) + i) % 8 = 3 + (pn + 8 - pc + i) % 8 by omega]
        refine Lnr_Eqk a2 ⟨fun _ _ => rfl, fun _ _ _ _ => rfl, fun _ _ _ _ => rfl, fun _ _ _ _ => rfl, fun _ _ _ _ => rfl, fun _ _ => rfl, fun _ _ => rfl, fun _ _ => rfl⟩ (fun j hj => ?_) (fun j hj => ?_)
        · rw [kpT_2, cpy_out (by omega)]
        · rw [kpT_7, cpy_out (by omega)]
  have h11 : (kpF T pc).1 (8, 0, 0) 11 = Int32.ofNat (if pc = 8 then 8 else pc + 1) := by
    unfold kpF
    by_cases e8 : pc = 8
    · rw [if_pos e8, if_pos e8, kpT_11]
    · rw [if_neg e8, if_neg e8, kpT_11]
  refine ⟨(pn + 1) % 8, (if pc = 8 then 8 else pc + 1), ⟨Lnk_W (Lnk_x hL (fun o a b => c12 o a (by omega))) hW, ht⟩, ⟨k5, Nat.mod_lt _ (by decide), k6, by split <;> omega, h11⟩, hU, ?_, ?_, ?_, ?_⟩
  · exact Snp_m (Snp_x h2 (c _ (by simp) (Or.inr (by simp))).1 (fun o a b => c12 o a (by omega))) (hM.1 _ (by simp) (by simp)) (hM.2.2.1 _ (by simp)) (hM.1 _ (by simp) (by simp))
  · exact Bfr_x h3 (congrFun (c _ (by simp) (Or.inr (by simp))).1 _) (c _ (by simp) (Or.inr (by simp))).1 (hM.2.1 _ (by decide)) (hM.1 _ (by simp) (by simp))
  · exact Rpt_x h4 (c _ (by simp) (Or.inr (by simp))).1 (c _ (by simp) (Or.inr (by simp))).1 (hM.2.1 _ (by decide)) (hM.1 _ (by simp) (by simp))
  · exact Rdz_x h5 (fun o a b => c12 o a (by omega))
end KP
