section LK10
variable {n nh t k p i j h w q g z b : Nat} {S T U : St} {d6 d7 : Nat → Int64} {v pr rf y u s l : Int32}
theorem ptL_H : ∀ m, (ptL S k m).1 (16, k, h) (w + 1) = if h < m ∧ (w = 2 ∨ w = 3) then 0 else S.1 (16, k, h) (w + 1) := by
  intro m
  induction m with
  | zero => rw [if_neg (fun e => absurd e.1 (Nat.not_lt_zero h))]; rfl
  | succ m ih =>
    unfold ptL phR
    rw [upI_1, upI_1, upI_1, if_neg (by simp : ¬ ((16, k, h) = ((15, k, 0) : Ob) ∧ _)), ih]
    by_cases e : h = m
    · subst e
      rcases (show w = 2 ∨ w = 3 ∨ (w ≠ 2 ∧ w ≠ 3) by omega) with e2 | e2 | e2
      · subst e2; simp
      · subst e2; simp
      · rw [if_neg (by simp; omega), if_neg (by simp; omega), if_neg (by omega), if_neg (by omega)]
    · rw [if_neg (by simp [e]), if_neg (by simp [e])]
      by_cases e2 : h < m ∧ (w = 2 ∨ w = 3)
      · rw [if_pos e2, if_pos ⟨by omega, e2.2⟩]
      · rw [if_neg e2, if_neg (fun e3 => e2 ⟨by omega, e3.2⟩)]
theorem ptL_hr (hpl : ∀ j, j < 6 → (phF (ehF S k - 1) (Int32.ofNat j)).toNatClampNeg = b * 6 + j) : ∀ m, m ≤ 6 → (ptL S k m).1 (15, k, 0) z = if b * 6 ≤ z ∧ z < b * 6 + m then S.1 (16, k, z - b * 6) 4 else S.1 (15, k, 0) z := by
  intro m
  induction m with
  | zero => intro _; rw [if_neg (by omega)]; rfl
  | succ m ih =>
    intro hm
    have e5 : ehF (ptL S k m) k = ehF S k := by unfold ehF; rw [ptL_lk]
    have e4 : (ptL S k m).1 (16, k, m) 4 = S.1 (16, k, m) 4 := by rw [ptL_H (w := 3) m, if_neg (by omega)]
    unfold ptL phR
    rw [upI_1, if_neg (by simp), upI_1, if_neg (by simp), upI_1, e5, hpl m (by omega), e4, ih (by omega)]
    by_cases e : z = b * 6 + m
    · rw [if_pos ⟨rfl, e⟩, if_pos (by omega), e, show b * 6 + m - b * 6 = m by omega]
    · rw [if_neg (fun e2 => e e2.2)]
      by_cases e2 : b * 6 ≤ z ∧ z < b * 6 + m
      · rw [if_pos e2, if_pos (by omega)]
      · rw [if_neg e2, if_neg (by omega)]
theorem ptL_o {o : Ob} (h15 : o.1 ≠ 15) (h16 : o.1 ≠ 16) : ∀ m, (ptL S k m).1 o = S.1 o := by
  intro m
  induction m with
  | zero => rfl
  | succ m ih =>
    unfold ptL phR
    rw [upI_fun' _ _ _ (by intro e; rw [e] at h16; exact h16 rfl), upI_fun' _ _ _ (by intro e; rw [e] at h16; exact h16 rfl), upI_fun' _ _ _ (by intro e; rw [e] at h15; exact h15 rfl), ih]
theorem ptL_2 : ∀ m, (ptL S k m).2 = S.2 := by
  intro m
  induction m with
  | zero => rfl
  | succ m ih => unfold ptL phR; exact ih
theorem reL_H (hb : 240 ≤ b) (hh : h < 6) (hw : w < 4) : ∀ m, gH (reL T b m) h w = if h < m ∧ (w = 2 ∨ w = 3) then 0 else gH T h w := by
  intro m
  induction m with
  | zero => rw [if_neg (fun e => absurd e.1 (Nat.not_lt_zero h))]; rfl
  | succ m ih =>
    unfold reL
    rw [gH_sH hw (by decide), gH_sH hw (by decide)]
    have e0 : gH (upI (reL T b m) (11, 0, 0) (b + m) (gH (reL T b m) m 3)) h w = gH (reL T b m) h w := by
      unfold gH; rw [upI_1, if_neg (by omega)]
    rw [e0, ih]
    by_cases e : h = m
    · subst e
      rcases (show w = 2 ∨ w = 3 ∨ (w ≠ 2 ∧ w ≠ 3) by omega) with e2 | e2 | e2
      · subst e2; simp
      · subst e2; simp
      · rw [if_neg (by omega), if_neg (by omega), if_neg (by omega), if_neg (by omega)]
    · rw [if_neg (fun e2 => e e2.1), if_neg (fun e2 => e e2.1)]
      by_cases e2 : h < m ∧ (w = 2 ∨ w = 3)
      · rw [if_pos e2, if_pos ⟨by omega, e2.2⟩]
      · rw [if_neg e2, if_neg (fun e3 => e2 ⟨by omega, e3.2⟩)]
theorem reL_hr (hb : 240 ≤ b) (hz : 240 ≤ z) : ∀ m, m ≤ 6 → (reL T b m).1 (11, 0, 0) z = if b ≤ z ∧ z < b + m then gH T (z - b) 3 else T.1 (11, 0, 0) z := by
  intro m
  induction m with
  | zero => intro _; rw [if_neg (by omega)]; rfl
  | succ m ih =>
    intro hm
    have e4 : gH (reL T b m) m 3 = gH T m 3 := by rw [reL_H hb (by omega) (by decide), if_neg (by omega)]
    unfold reL sH
    rw [upI_1, if_neg (by omega), upI_1, if_neg (by omega), upI_1, e4, ih (by omega)]
    by_cases e : z = b + m
    · rw [if_pos ⟨rfl, e⟩, if_pos (by omega), e, show b + m - b = m by omega]
    · rw [if_neg (fun e2 => e e2.2)]
      by_cases e2 : b ≤ z ∧ z < b + m
      · rw [if_pos e2, if_pos (by omega)]
      · rw [if_neg e2, if_neg (by omega)]
theorem reL_mid (hb : 240 ≤ b) (hz : z < 12 ∨ (36 ≤ z ∧ z < 240)) : ∀ m, m ≤ 6 → (reL T b m).1 (11, 0, 0) z = T.1 (11, 0, 0) z := by
  intro m
  induction m with
  | zero => intro _; rfl
  | succ m ih =>
    intro hm
    unfold reL sH
    rw [upI_1, if_neg (by omega), upI_1, if_neg (by omega), upI_1, if_neg (by omega), ih (by omega)]
theorem reL_2 : ∀ m, (reL T b m).2 = T.2 := by
  intro m
  induction m with
  | zero => rfl
  | succ m ih => unfold reL sH; exact ih
/-- the end of an hour on both sides -/
theorem hour_mix (hM : Mix k S T n nh d6 d7) (hn : n ≤ 12) (hnh : nh ≤ 6) {a : Nat} (ha : a < 24) (hpl : ∀ j, j < 6 → (phF (ehF S k - 1) (Int32.ofNat j)).toNatClampNeg = a * 6 + j) : Mix k (ptL S k nh) (reL T (240 + 6 * a) 6) n nh d6 d7 := by
  obtain ⟨m2, m3, m4, m5, m6, m7, m8, m9⟩ := hM
  refine ⟨?_, ?_, ?_, ?_, ?_, ?_, ?_, ?_⟩
  · intro h w hh hw
    rw [show (reL T (240 + 6 * a) 6).1 (11, 0, 0) (12 + 4 * h + w) = gH (reL T (240 + 6 * a) 6) h w from rfl, ptL_H, reL_H (by omega) (by omega) hw, m2 h w hh hw]
    by_cases e : w = 2 ∨ w = 3
    · rw [if_pos ⟨hh, e⟩, if_pos ⟨by omega, e⟩]
    · rw [if_neg (fun e2 => e e2.2), if_neg (fun e2 => e e2.2)]
      rfl
  · intro q w hq hw
    rw [ptL_o (by simp) (by simp), reL_mid (by omega) (by omega) 6 (Nat.le_refl 6)]
    exact m3 q w hq hw
  · intro q w hq hw
    rw [ptL_o (by simp) (by simp), reL_mid (by omega) (by omega) 6 (Nat.le_refl 6)]
    exact m4 q w hq hw
  · intro q w hq hw
    rw [ptL_2, reL_2]
    exact m5 q w hq hw
  · intro q hq
    rw [ptL_2, reL_2]
    exact m6 q hq
  · intro q h hq hh
    rw [ptL_hr hpl nh hnh, reL_hr (by omega) (by omega) 6 (Nat.le_refl 6), m7 q h hq hh]
    by_cases e : q = a
    · subst e
      rw [if_pos (by omega), if_pos (by omega), show q * 6 + h - q * 6 = h by omega, show 240 + 6 * q + h - (240 + 6 * q) = h by omega]
      exact m2 h 3 hh (by decide)
    · rw [if_neg (by omega), if_neg (by omega)]
  · intro h hh
    rw [ptL_2, reL_2]
    exact m8 h hh
  · intro q hq
    rw [ptL_2, reL_2]
    exact m9 q hq
theorem i12m {b : Nat} (h : b < 2 ^ 21) : Int32.ofNat b - Int32.ofNat b / 12 * 12 = Int32.ofNat (b % 12) := by
  rw [show (12 : Int32) = Int32.ofNat 12 from rfl, oN_div (by omega) (by decide), oN_mul, oN_sub (by omega)]
  congr 1
  omega
theorem time_mix (hM : Mix k S T n nh d6 d7) (hn : n ≤ 12) (hnh : nh ≤ 6) (ht : t < 2 ^ 20) (h5 : S.1 (12, k, 0) 5 = Int32.ofNat t) : Mix k (ptF S k nh) (rq6 T t) n nh d6 d7 := by
  have e5 : (ptT S k).1 (12, k, 0) 5 = Int32.ofNat (t + 1) := by
    unfold ptT
    rw [upI_1, if_pos ⟨rfl, rfl⟩, h5, ← inc_ofNat]
  have hM2 : Mix k (ptT S k) (upI T (11, 0, 0) 7 (Int32.ofNat (t + 1))) n nh d6 d7 := Mix_rz (Mix_lk hM) (by decide)
  unfold ptF rq6
  rw [e5, i12m (by omega)]
  by_cases hz : (t + 1) % 12 = 0
  · rw [hz, if_pos (show Int32.ofNat 0 = 0 from rfl), if_pos rfl]
    unfold reF
    have hE : ehF (ptT S k) k - 1 = Int32.ofNat ((t + 1) / 12 - 1) := by
      unfold ehF
      rw [e5, show (12 : Int32) = Int32.ofNat 12 from rfl, oN_div (by omega) (by decide), show (1 : Int32) = Int32.ofNat 1 from rfl, oN_sub (by omega)]
    refine hour_mix hM2 hn hnh (Nat.mod_lt _ (by decide)) (fun j hj => ?_)
    rw [hE, phN (by omega) hj, oN_clamp (by have := Nat.mod_lt ((t + 1) / 12 - 1) (show 0 < 24 by decide); omega)]
  · rw [if_neg (fun e => hz (by have := inj0 (a := (t + 1) % 12) (b := 0) (by omega) (by decide) e; exact this)), if_neg hz]
    exact hM2
theorem ptF_lk (hg : g ≠ 5) : (ptF S k nh).1 (12, k, 0) g = S.1 (12, k, 0) g := by
  have e : (ptT S k).1 (12, k, 0) g = S.1 (12, k, 0) g := by unfold ptT; rw [upI_1, if_neg (fun e => hg e.2)]
  unfold ptF
  split
  · rw [ptL_lk, e]
  · exact e
theorem ptF_5 : (ptF S k nh).1 (12, k, 0) 5 = S.1 (12, k, 0) 5 + 1 := by
  have e : (ptT S k).1 (12, k, 0) 5 = S.1 (12, k, 0) 5 + 1 := by unfold ptT; rw [upI_1, if_pos ⟨rfl, rfl⟩]
  unfold ptF
  split
  · rw [ptL_lk, e]
  · exact e
theorem rq6_z (hz : z < 12) : (rq6 T t).1 (11, 0, 0) z = if z = 7 then Int32.ofNat (t + 1) else T.1 (11, 0, 0) z := by
  have e : (upI T (11, 0, 0) 7 (Int32.ofNat (t + 1))).1 (11, 0, 0) z = if z = 7 then Int32.ofNat (t + 1) else T.1 (11, 0, 0) z := by
    rw [upI_1]
    by_cases h7 : z = 7
    · rw [if_pos ⟨rfl, h7⟩, if_pos h7]
    · rw [if_neg (fun e => h7 e.2), if_neg h7]
  unfold rq6
  split
  · unfold reF
    rw [reL_mid (by omega) (Or.inl hz) 6 (Nat.le_refl 6), e]
  · exact e
end LK10
