section LK4
variable {n nh t k p i j h w q g z : Nat} {S T U : St} {d6 d7 : Nat → Int64} {v pr y u s l : Int32}
theorem sumF_congr {f f' : Nat → Int32} : ∀ n, (∀ p, p < n → f p = f' p) → sumF f n = sumF f' n := by
  intro n
  induction n with
  | zero => intro _; rfl
  | succ n ih => intro h; unfold sumF; rw [ih (fun p hp => h p (by omega)), h n (by omega)]
theorem Mix_congr {e6 e7 : Nat → Int64} (h : Mix k S T n nh d6 d7) (h6 : ∀ p, p < n → d6 p = e6 p) (h7 : ∀ p, p < n → d7 p = e7 p) : Mix k S T n nh e6 e7 := by
  obtain ⟨m2, m3, m4, m5, m6, m7, m8, m9⟩ := h
  refine ⟨m2, m3, m4, m5, fun p hp => ?_, m7, m8, m9⟩
  rw [← h6 p hp, ← h7 p hp]
  exact m6 p hp
/-- writes to the link's own numbers touch nothing else -/
theorem Mix_lk (h : Mix k S T n nh d6 d7) : Mix k (upI S (12, k, 0) g v) T n nh d6 d7 := by
  obtain ⟨m2, m3, m4, m5, m6, m7, m8, m9⟩ := h
  refine ⟨fun a b c d => ?_, fun a b c d => ?_, fun a b c d => ?_, m5, m6, fun a b c d => ?_, m8, m9⟩
  · rw [upI_1, if_neg (by simp)]; exact m2 a b c d
  · rw [upI_1, if_neg (by simp)]; exact m3 a b c d
  · rw [upI_1, if_neg (by simp)]; exact m4 a b c d
  · rw [upI_1, if_neg (by simp)]; exact m7 a b c d
theorem Mix_rz (h : Mix k S T n nh d6 d7) (hg : g < 12) : Mix k S (upI T (11, 0, 0) g v) n nh d6 d7 := by
  obtain ⟨m2, m3, m4, m5, m6, m7, m8, m9⟩ := h
  refine ⟨fun a b c d => ?_, fun a b c d => ?_, fun a b c d => ?_, m5, m6, fun a b c d => ?_, m8, m9⟩
  · rw [upI_1, if_neg (by omega)]; exact m2 a b c d
  · rw [upI_1, if_neg (by omega)]; exact m3 a b c d
  · rw [upI_1, if_neg (by omega)]; exact m4 a b c d
  · rw [upI_1, if_neg (by omega)]; exact m7 a b c d
theorem adm_lk : adm (upI S (12, k, 0) g v) k p = adm S k p := by
  unfold adm
  rw [upI_1, upI_1, upI_1, if_neg (by simp), if_neg (by simp), if_neg (by simp)]
theorem snt_lk : snt (upI S (12, k, 0) g v) k p = snt S k p := by
  unfold snt
  rw [adm_lk, upI_1, if_neg (by simp)]
theorem Aux_lk (h : Aux k S T n) : Aux k (upI S (12, k, 0) g v) T n := by
  intro p hp
  rw [adm_lk, snt_lk, upI_1, if_neg (by simp)]
  exact h p hp
theorem Aux_rz (h : Aux k S T n) : Aux k S (upI T (11, 0, 0) g v) n := by
  intro p hp
  rw [upI_1, if_neg (by simp), upI_1, if_neg (by simp), upI_1, if_neg (by simp)]
  exact h p hp
/-- the warning and the yields -/
def d7Y (S : St) (k : Nat) (r : Int32) (p : Nat) : Int64 := (S.1 (18, k, p) 3 * r).toInt64
theorem ps2_mix (hM : Mit k S T n nh d6 (fun _ => 0)) (hA : Aux k S T n) (hn : n ≤ 12) (hnh : nh ≤ 6) (hhs : ∀ p, p < n → hisF S k p < nh) (h0 : ∀ p, p < n → S.1 (18, k, p) 3 = 0) : Mit k (ps2 S k n) (rq2 T n) n nh d6 (d7Y (ps2 S k n) k (S.1 (12, k, 0) 3)) ∧ Aux k (ps2 S k n) (rq2 T n) n := by
  have hX := Mix_of hM
  have sc := hM.1
  have c1 := sc 3 (by decide)
  have c0 := sc 2 (by decide)
  have c5 := sc 5 (by decide)
  have c8 := sc 8 (by decide)
  have c10 := sc 10 (by decide)
  rw [show scI 3 = 1 from rfl] at c1
  rw [show scI 2 = 0 from rfl] at c0
  rw [show scI 5 = 3 from rfl] at c5
  rw [show scI 8 = 6 from rfl] at c8
  rw [show scI 10 = 8 from rfl] at c10
  have hsum : sumF (adm S k) n = sumF (T.1 (11, 12, 0)) n := sumF_congr n (fun p hp => (hA p hp).1.symm)
  have hW : psW S k n = rqW T n := by
    unfold psW rqW
    rw [c1, c0, hsum]
  have hrh : ∀ p, p < n → rh T p < 6 := by
    intro p hp
    have : rh T p = hisF S k p := by
      unfold rh hisF gP
      rw [← hX.2.1 p 0 hp (by decide)]
    have := hhs p hp
    omega
  unfold ps2 rq2
  rw [← hW]
  by_cases hw : psW S k n = true
  · rw [if_pos hw, if_pos hw]
    have hX1 : Mix k (upI (upI S (12, k, 0) 8 1) (12, k, 0) 6 (S.1 (12, k, 0) 6 + 1)) T n nh d6 (fun _ => 0) := Mix_lk (Mix_lk hX)
    have hA1 : Aux k (upI (upI S (12, k, 0) 8 1) (12, k, 0) 6 (S.1 (12, k, 0) 6 + 1)) T n := Aux_lk (Aux_lk hA)
    have r3 : (upI (upI S (12, k, 0) 8 1) (12, k, 0) 6 (S.1 (12, k, 0) 6 + 1)).1 (12, k, 0) 3 = S.1 (12, k, 0) 3 := by rw [upI_1, if_neg (by simp), upI_1, if_neg (by simp)]
    have ho : ∀ p x, (upI (upI S (12, k, 0) 8 1) (12, k, 0) 6 (S.1 (12, k, 0) 6 + 1)).1 (18, k, p) x = S.1 (18, k, p) x := fun p x => by rw [upI_1, if_neg (by simp), upI_1, if_neg (by simp)]
    have hh : ∀ p, hisF (upI (upI S (12, k, 0) 8 1) (12, k, 0) 6 (S.1 (12, k, 0) 6 + 1)) k p = hisF S k p := fun p => by unfold hisF; rw [upI_1, if_neg (by simp), upI_1, if_neg (by simp)]
    have hlp := yld_loop hX1 hA1 hn hnh (fun p hp => by rw [hh]; exact hhs p hp) (by rw [r3]; exact c5) (fun p hp => by rw [ho]; exact h0 p hp) n (Nat.le_refl n)
    have hlk : ∀ g, (ylL (upI (upI S (12, k, 0) 8 1) (12, k, 0) 6 (S.1 (12, k, 0) 6 + 1)) k n).1 (12, k, 0) g = (upI (upI S (12, k, 0) 8 1) (12, k, 0) 6 (S.1 (12, k, 0) 6 + 1)).1 (12, k, 0) g := fun g => ylL_k n
    rw [r3] at hlp
    generalize ylL (upI (upI S (12, k, 0) 8 1) (12, k, 0) 6 (S.1 (12, k, 0) 6 + 1)) k n = S2 at *
    have hz : ∀ z, z < 12 → (rpY T n).1 (11, 0, 0) z = T.1 (11, 0, 0) z := fun z hz => rpY_z hz n hn hrh
    generalize rpY T n = T2 at *
    refine ⟨Mit_of ?_ ?_, ?_⟩
    · intro g hg
      rw [hlk]
      unfold rqF
      rcases (show g = 8 ∨ g = 10 ∨ (g ≠ 8 ∧ g ≠ 10) by omega) with e | e | e
      · subst e
        rw [show scI 8 = 6 from rfl, upI_1, if_pos ⟨rfl, rfl⟩, upI_1, if_pos ⟨rfl, rfl⟩, hz 8 (by decide), c8]
      · subst e
        rw [show scI 10 = 8 from rfl, upI_1, if_neg (by simp), upI_1, if_pos ⟨rfl, rfl⟩, upI_1, if_neg (by simp), upI_1, if_pos ⟨rfl, rfl⟩]
      · have n6 : scI g ≠ 6 := by unfold scI; split <;> omega
        have n8 : scI g ≠ 8 := by unfold scI; split <;> omega
        rw [upI_1, if_neg (fun h => n6 h.2), upI_1, if_neg (fun h => n8 h.2), upI_1, if_neg (fun h => e.1 h.2), upI_1, if_neg (fun h => e.2 h.2), hz g (by omega)]
        exact sc g hg
    · unfold rqF
      refine Mix_rz (Mix_rz (Mix_congr hlp.1 (fun _ _ => rfl) (fun p hp => ?_)) (by decide)) (by decide)
      rw [if_pos hp]
      rfl
    · unfold rqF
      exact Aux_rz (Aux_rz hlp.2)
  · rw [if_neg hw, if_neg hw]
    refine ⟨Mit_of ?_ ?_, ?_⟩
    · intro g hg
      unfold rqF
      rcases (show g = 8 ∨ g = 10 ∨ (g ≠ 8 ∧ g ≠ 10) by omega) with e | e | e
      · subst e
        rw [show scI 8 = 6 from rfl, upI_1, if_neg (by simp), upI_1, if_pos ⟨rfl, rfl⟩, c8, Int32.add_zero]
      · subst e
        rw [show scI 10 = 8 from rfl, upI_1, if_pos ⟨rfl, rfl⟩, upI_1, if_neg (by simp), upI_1, if_pos ⟨rfl, rfl⟩]
      · have n8 : scI g ≠ 8 := by unfold scI; split <;> omega
        rw [upI_1, if_neg (fun h => n8 h.2), upI_1, if_neg (fun h => e.1 h.2), upI_1, if_neg (fun h => e.2 h.2)]
        exact sc g hg
    · unfold rqF
      refine Mix_rz (Mix_rz (Mix_lk (Mix_congr hX (fun _ _ => rfl) (fun p hp => ?_))) (by decide)) (by decide)
      unfold d7Y
      rw [upI_1, if_neg (by simp), h0 p hp, Int32.zero_mul]
      rfl
    · unfold rqF
      exact Aux_rz (Aux_rz (Aux_lk hA))
/-- a drop on both sides -/
theorem Mix_drop (h : Mix k S T n nh d6 d7) (hn : n ≤ 12) (hnh : nh ≤ 6) (hp : p < n) : Mix k (upI S (18, k, p) 4 v) (sL T p 4 v) n nh d6 d7 := by
  obtain ⟨m2, m3, m4, m5, m6, m7, m8, m9⟩ := h
  refine ⟨fun a b c d => ?_, fun a b c d => ?_, fun a b c d => ?_, m5, m6, fun a b c d => ?_, m8, m9⟩
  · unfold sL; rw [upI_1, if_neg (by simp), upI_1, if_neg (by omega)]; exact m2 a b c d
  · unfold sL; rw [upI_1, if_neg (by simp), upI_1, if_neg (by omega)]; exact m3 a b c d
  · unfold sL
    rw [upI_1, upI_1]
    by_cases e : a = p ∧ b = 4
    · rw [if_pos ⟨by rw [e.1], e.2⟩, if_pos ⟨rfl, by rw [e.1, e.2]⟩]
    · rw [if_neg (by simp; omega), if_neg (by omega)]
      exact m4 a b c d
  · unfold sL; rw [upI_1, if_neg (by simp), upI_1, if_neg (by omega)]; exact m7 a b c d
theorem sL_self : sL T p w (gL T p w) = T := upI_self
theorem hy_rg (h : Mix k S T n nh d6 d7) (hp : p < n) : (rgF T y p = 1) = (hyF S k p = y) := by
  have h3 := h.2.2.1 p 3 hp (by decide)
  unfold rgF hyF gL
  rw [h3]
  by_cases e : (if 0 < T.1 (11, 0, 0) (168 + 6 * p + 3) then (1 : Int32) else 0) = y
  · rw [if_pos e]; simp [e]
  · rw [if_neg e]; simp [e]
theorem daA_mix (h : Mix k S T n nh d6 d7) (hA : Aux k S T n) (hn : n ≤ 12) (hnh : nh ≤ 6) (h4 : ∀ p, p < n → hyF S k p = y → S.1 (18, k, p) 4 = 0) : ∀ j, j ≤ n → Mix k (daA S k y u s j).1 (rdA T y u s j).1 n nh d6 d7 ∧ (daA S k y u s j).2 = (rdA T y u s j).2 ∧ (∀ p, j ≤ p → (daA S k y u s j).1.1 (18, k, p) 4 = S.1 (18, k, p) 4) := by
  intro j
  induction j with
  | zero => intro _; exact ⟨h, rfl, fun _ _ => rfl⟩
  | succ j ih =>
    intro hj
    obtain ⟨i1, i2, i3⟩ := ih (by omega)
    have hg := hy_rg (y := y) h (p := j) (by omega)
    have g4 : gL (rdA T y u s j).1 j 4 = (daA S k y u s j).1.1 (18, k, j) 4 := (i1.2.2.1 j 4 (by omega) (by decide)).symm
    rw [show rdA T y u s (j + 1) = (sL (rdA T y u s j).1 j 4 (gL (rdA T y u s j).1 j 4 + rdI T y u s j), (rdA T y u s j).2 - rdI T y u s j) from rfl, show daA S k y u s (j + 1) = if hyF S k j = y then (upI (daA S k y u s j).1 (18, k, j) 4 (u * snt S k j / s), (daA S k y u s j).2 - u * snt S k j / s) else daA S k y u s j from rfl]
    unfold rdI
    by_cases hy : hyF S k j = y
    · rw [if_pos hy, if_pos (by rw [hg]; exact hy), (hA j (by omega)).2.1, g4, i3 j (Nat.le_refl j), h4 j (by omega) hy, Int32.zero_add, i2]
      refine ⟨Mix_drop i1 hn hnh (by omega), rfl, fun p hp => ?_⟩
      rw [upI_1, if_neg (by simp; omega)]
      exact i3 p (by omega)
    · rw [if_neg hy, if_neg (by rw [hg]; exact hy), Int32.add_zero, sL_self, Int32.sub_zero]
      exact ⟨i1, i2, fun p hp => i3 p (by omega)⟩
theorem daB_mix (h : Mix k S T n nh d6 d7) (hA : Aux k S T n) (hn : n ≤ 12) (hnh : nh ≤ 6) : ∀ j, j ≤ n → Mix k (daB S k y l j).1 (rdB T y l j).1 n nh d6 d7 ∧ (daB S k y l j).2 = (rdB T y l j).2 := by
  intro j
  induction j with
  | zero => intro _; exact ⟨h, rfl⟩
  | succ j ih =>
    intro hj
    obtain ⟨i1, i2⟩ := ih (by omega)
    have hg := hy_rg (y := y) h (p := j) (by omega)
    have g4 : gL (rdB T y l j).1 j 4 = (daB S k y l j).1.1 (18, k, j) 4 := (i1.2.2.1 j 4 (by omega) (by decide)).symm
    rw [show rdB T y l (j + 1) = if 0 < (rdB T y l j).2 ∧ rgF T y j = 1 ∧ gL (rdB T y l j).1 j 4 < T.1 (11, 13, 0) j then (sL (rdB T y l j).1 j 4 (gL (rdB T y l j).1 j 4 + 1), (rdB T y l j).2 - 1) else rdB T y l j from rfl, show daB S k y l (j + 1) = if 0 < (daB S k y l j).2 ∧ hyF S k j = y ∧ (daB S k y l j).1.1 (18, k, j) 4 < snt S k j then (upI (daB S k y l j).1 (18, k, j) 4 ((daB S k y l j).1.1 (18, k, j) 4 + 1), (daB S k y l j).2 - 1) else daB S k y l j from rfl]
    rw [(hA j (by omega)).2.1, g4, ← i2]
    by_cases hc : 0 < (daB S k y l j).2 ∧ hyF S k j = y ∧ (daB S k y l j).1.1 (18, k, j) 4 < snt S k j
    · rw [if_pos hc, if_pos ⟨hc.1, by rw [hg]; exact hc.2.1, hc.2.2⟩]
      exact ⟨Mix_drop i1 hn hnh (by omega), rfl⟩
    · rw [if_neg hc, if_neg (fun e => hc ⟨e.1, by rw [← hg]; exact e.2.1, e.2.2⟩)]
      exact ⟨i1, i2⟩
end LK4
