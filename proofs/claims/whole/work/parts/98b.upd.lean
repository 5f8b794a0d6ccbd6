section UD
variable {n nh t k k' p i j h w q g z m : Nat} {S S' T T' U V : St} {a b c v y pr rf e : Int32} {d6 d7 : Nat → Int64}
/-! one number changed on both sides -/
theorem scI_inj {g g' : Nat} (h : scI g = scI g') (h1 : g < 11) (h2 : g' < 11) : g = g' := by
  unfold scI at h
  split at h <;> split at h <;> omega
theorem Mit_k (h : Mit k S T n nh d6 d7) (hg : g < 11) : Mit k (upI S (12, k, 0) (scI g) v) (upI T (11, 0, 0) g v) n nh d6 d7 := by
  refine Mit_of (fun g' hg' => ?_) (Mix_rz (Mix_lk h.2) (by omega))
  rw [upI_1, upI_1]
  by_cases e : g' = g
  · subst e; rw [if_pos ⟨rfl, rfl⟩, if_pos ⟨rfl, rfl⟩]
  · rw [if_neg (fun e2 => e (scI_inj e2.2 hg' hg)), if_neg (fun e2 => e e2.2)]
    exact h.1 g' hg'
theorem Mit_P (h : Mit k S T n nh d6 d7) (hn : n ≤ 12) (hnh : nh ≤ 6) (hp : p < n) (hw : w < 11) : Mit k (upI S (17, k, p) (w + 1) v) (upI T (11, 0, 0) (36 + 11 * p + w) v) n nh d6 d7 := by
  refine Mit_of (fun g hg => ?_) (Mix_P h.2 hn hnh hp hw)
  rw [upI_1, if_neg (by simp), upI_1, if_neg (by omega)]
  exact h.1 g hg
theorem Mit_H (h : Mit k S T n nh d6 d7) (hn : n ≤ 12) (hnh : nh ≤ 6) (hi : i < nh) (hw : w < 4) : Mit k (upI S (16, k, i) (w + 1) v) (upI T (11, 0, 0) (12 + 4 * i + w) v) n nh d6 d7 := by
  obtain ⟨m1, m2, m3, m4, m5, m6, m7, m8, m9⟩ := h
  refine ⟨fun g hg => ?_, fun h' w' hh' hw' => ?_, fun p w hp hw => ?_, fun p w hp hw => ?_, m5, m6, fun q h hq hh => ?_, m8, m9⟩
  · rw [upI_1, if_neg (by simp), upI_1, if_neg (by omega)]; exact m1 g hg
  · rw [upI_1, upI_1]
    by_cases e : h' = i ∧ w' = w
    · rw [if_pos ⟨by rw [e.1], by omega⟩, if_pos ⟨rfl, by omega⟩]
    · rw [if_neg (fun e2 => e ⟨by have := e2.1; injection this with _ e4; injection e4, by omega⟩), if_neg (fun e2 => e (by omega))]
      exact m2 h' w' hh' hw'
  · rw [upI_1, if_neg (by simp), upI_1, if_neg (by omega)]; exact m3 p w hp hw
  · rw [upI_1, if_neg (by simp), upI_1, if_neg (by omega)]; exact m4 p w hp hw
  · rw [upI_1, if_neg (by simp), upI_1, if_neg (by omega)]; exact m7 q h hq hh
theorem Cok_upI {o : Ob} {f : Nat} (h : Cok S k n nh t) (ho : ∀ i, o ≠ (16, k, i) ∨ f ≠ 4) (ho2 : o ≠ (15, k, 0)) : Cok (upI S o f v) k n nh t := by
  obtain ⟨c1, c2, c3⟩ := h
  refine ⟨c1, fun h hh => ?_, fun z h hz hh => ?_⟩
  · rw [upI_1, if_neg (fun e => by rcases ho h with e2 | e2; exact e2 e.1.symm; exact e2 e.2.symm)]
    exact c2 h hh
  · rw [upI_1, if_neg (fun e => ho2 e.1.symm)]
    exact c3 z h hz hh
theorem Lnk_k (h : Lnk k S T n nh t) (hg : g < 11) (hg2 : scI g < 5) (hK : NK ((upI S (12, k, 0) (scI g) v).1 (12, k, 0))) : Lnk k (upI S (12, k, 0) (scI g) v) (upI T (11, 0, 0) g v) n nh t := by
  obtain ⟨h1, h2, h3, h4, h5⟩ := h
  refine ⟨Mit_k h1 hg, ?_, Cok_upI h3 (fun i => Or.inl (by simp)) (by simp), upI_ok (by omega) h4, by rw [upI_1, if_neg (by omega)]; exact h5⟩
  rw [Num_iff] at h2 ⊢
  obtain ⟨a1, a2, a3, a4, a5⟩ := h2
  exact ⟨a1, a2, hK, fun p hp => by rw [upI_fun' _ _ _ (by simp)]; exact a4 p hp, fun h hh => by rw [upI_1, if_neg (by simp)]; exact a5 h hh⟩
theorem Lnk_k2 {g2 : Nat} {v2 : Int32} (h : Lnk k S T n nh t) (hg : g < 11) (hg2 : scI g < 5) (hg' : g2 < 11) (hg2' : scI g2 < 5) (hK : NK ((upI (upI S (12, k, 0) (scI g) v) (12, k, 0) (scI g2) v2).1 (12, k, 0))) : Lnk k (upI (upI S (12, k, 0) (scI g) v) (12, k, 0) (scI g2) v2) (upI (upI T (11, 0, 0) g v) (11, 0, 0) g2 v2) n nh t := by
  obtain ⟨h1, h2, h3, h4, h5⟩ := h
  refine ⟨Mit_k (Mit_k h1 hg) hg', ?_, Cok_upI (Cok_upI h3 (fun i => Or.inl (by simp)) (by simp)) (fun i => Or.inl (by simp)) (by simp), upI_ok (by omega) (upI_ok (by omega) h4), by rw [upI_1, if_neg (by omega), upI_1, if_neg (by omega)]; exact h5⟩
  rw [Num_iff] at h2 ⊢
  obtain ⟨a1, a2, a3, a4, a5⟩ := h2
  exact ⟨a1, a2, hK, fun p hp => by rw [upI_fun' _ _ _ (by simp), upI_fun' _ _ _ (by simp)]; exact a4 p hp, fun h hh => by rw [upI_1, if_neg (by simp), upI_1, if_neg (by simp)]; exact a5 h hh⟩
theorem Lnk_P (h : Lnk k S T n nh t) (hp : p < n) (hw : w < 11) (hw2 : 2 ≤ w) (hP : NP ((upI S (17, k, p) (w + 1) v).1 (17, k, p)) nh) : Lnk k (upI S (17, k, p) (w + 1) v) (upI T (11, 0, 0) (36 + 11 * p + w) v) n nh t := by
  obtain ⟨h1, h2, h3, h4, h5⟩ := h
  have hn := h2.1
  have hnh := h2.2.1
  refine ⟨Mit_P h1 hn hnh hp hw, ?_, Cok_upI h3 (fun i => Or.inl (by simp)) (by simp), ?_, by rw [upI_1, if_neg (by simp)]; exact h5⟩
  · rw [Num_iff] at h2 ⊢
    obtain ⟨a1, a2, a3, a4, a5⟩ := h2
    refine ⟨a1, a2, by rw [upI_fun' _ _ _ (by simp)]; exact a3, fun q hq => ?_, fun h hh => by rw [upI_1, if_neg (by simp)]; exact a5 h hh⟩
    by_cases e : q = p
    · subst e; exact hP
    · rw [upI_fun' _ _ _ (by simp [e])]; exact a4 q hq
  · exact Lok_fr h4 (by rw [upI_1, if_neg (by simp)]) (by rw [upI_1, if_neg (by simp)]) (by rw [upI_1, if_neg (by simp)]) (fun p => by rw [upI_1, if_neg (by omega)]) (fun p => by rw [upI_1, if_neg (by omega)])
theorem Lnk_H (h : Lnk k S T n nh t) (hi : i < nh) (hw : w < 2) (hB : w = 1 → 0 ≤ v.toInt ∧ v.toInt ≤ 9999999) : Lnk k (upI S (16, k, i) (w + 1) v) (upI T (11, 0, 0) (12 + 4 * i + w) v) n nh t := by
  obtain ⟨h1, h2, h3, h4, h5⟩ := h
  have hn := h2.1
  have hnh := h2.2.1
  refine ⟨Mit_H h1 hn hnh hi (by omega), ?_, Cok_upI h3 (fun i => Or.inr (by omega)) (by simp), ?_, by rw [upI_1, if_neg (by simp)]; exact h5⟩
  · rw [Num_iff] at h2 ⊢
    obtain ⟨a1, a2, a3, a4, a5⟩ := h2
    refine ⟨a1, a2, by rw [upI_fun' _ _ _ (by simp)]; exact a3, fun q hq => by rw [upI_fun' _ _ _ (by simp)]; exact a4 q hq, fun h hh => ?_⟩
    rw [upI_1]
    by_cases e : (16, k, h) = (16, k, i) ∧ 2 = w + 1
    · rw [if_pos e]; exact hB (by omega)
    · rw [if_neg e]; exact a5 h hh
  · exact Lok_fr h4 (by rw [upI_1, if_neg (by simp)]) (by rw [upI_1, if_neg (by simp)]) (by rw [upI_1, if_neg (by simp)]) (fun p => by rw [upI_1, if_neg (by simp)]) (fun p => by rw [upI_1, if_neg (by simp)])
/-- the numbers that trials change -/
theorem NK_0 (h : NK (S.1 (12, k, 0))) (hv : 0 ≤ v.toInt ∧ v.toInt ≤ 9999) : NK ((upI S (12, k, 0) 0 v).1 (12, k, 0)) := by
  obtain ⟨a, b, c, d, e⟩ := h
  unfold NK
  rw [upI_1, if_pos ⟨rfl, rfl⟩, upI_1, if_neg (by simp), upI_1, if_neg (by simp), upI_1, if_neg (by simp), upI_1, if_neg (by simp)]
  exact ⟨hv, b, c, d, e⟩
theorem NK_1 (h : NK (S.1 (12, k, 0))) (hv : 1 ≤ v.toInt ∧ v.toInt ≤ 100) : NK ((upI S (12, k, 0) 1 v).1 (12, k, 0)) := by
  obtain ⟨a, b, c, d, e⟩ := h
  unfold NK
  rw [upI_1, if_neg (by simp), upI_1, if_pos ⟨rfl, rfl⟩, upI_1, if_neg (by simp), upI_1, if_neg (by simp), upI_1, if_neg (by simp)]
  exact ⟨a, hv, c, d, e⟩
theorem NK_23 (h : NK (S.1 (12, k, 0))) {v2 : Int32} (hv : 0 ≤ v.toInt ∧ v.toInt ≤ 99) (hv2 : 0 ≤ v2.toInt ∧ v2.toInt ≤ v.toInt) : NK ((upI (upI S (12, k, 0) 2 v) (12, k, 0) 3 v2).1 (12, k, 0)) := by
  obtain ⟨a, b, c, d, e⟩ := h
  have e0 : (upI (upI S (12, k, 0) 2 v) (12, k, 0) 3 v2).1 (12, k, 0) 0 = S.1 (12, k, 0) 0 := by simp [upI_1]
  have e1 : (upI (upI S (12, k, 0) 2 v) (12, k, 0) 3 v2).1 (12, k, 0) 1 = S.1 (12, k, 0) 1 := by simp [upI_1]
  have e2 : (upI (upI S (12, k, 0) 2 v) (12, k, 0) 3 v2).1 (12, k, 0) 2 = v := by simp [upI_1]
  have e3 : (upI (upI S (12, k, 0) 2 v) (12, k, 0) 3 v2).1 (12, k, 0) 3 = v2 := by simp [upI_1]
  have e4 : (upI (upI S (12, k, 0) 2 v) (12, k, 0) 3 v2).1 (12, k, 0) 4 = S.1 (12, k, 0) 4 := by simp [upI_1]
  unfold NK
  rw [e0, e1, e2, e3, e4]
  exact ⟨a, b, hv, hv2, e⟩
theorem up17 (hg : z ≠ g) : (upI S (17, k, p) g v).1 (17, k, p) z = S.1 (17, k, p) z := by rw [upI_1, if_neg (fun e => hg e.2)]
theorem up17' : (upI S (17, k, p) g v).1 (17, k, p) g = v := by rw [upI_1, if_pos ⟨rfl, rfl⟩]
theorem NP_11 (h : NP (S.1 (17, k, p)) nh) (hv : v = 0 ∨ v = 1) : NP ((upI S (17, k, p) 11 v).1 (17, k, p)) nh := by
  obtain ⟨a, b, c, d, e⟩ := h
  unfold NP
  rw [up17', up17 (by decide), up17 (by decide), up17 (by decide), up17 (by decide), up17 (by decide), up17 (by decide), up17 (by decide), up17 (by decide), up17 (by decide)]
  exact ⟨hv, b, c, d, e⟩
theorem NP_3 (h : NP (S.1 (17, k, p)) nh) (hv : (S.1 (17, k, p) 4).toInt ≤ v.toInt ∧ v.toInt ≤ (S.1 (17, k, p) 5).toInt) : NP ((upI S (17, k, p) 3 v).1 (17, k, p)) nh := by
  obtain ⟨a, b, c, d, e⟩ := h
  unfold NP
  rw [up17', up17 (by decide), up17 (by decide), up17 (by decide), up17 (by decide), up17 (by decide), up17 (by decide), up17 (by decide), up17 (by decide), up17 (by decide)]
  exact ⟨a, b, c, ⟨d.1, hv.1, hv.2, d.2.2.2⟩, e⟩
theorem NP_7 (h : NP (S.1 (17, k, p)) nh) (hv : 0 ≤ v.toInt ∧ v.toInt ≤ 100) : NP ((upI S (17, k, p) 7 v).1 (17, k, p)) nh := by
  obtain ⟨a, b, c, d, e⟩ := h
  unfold NP
  rw [up17', up17 (by decide), up17 (by decide), up17 (by decide), up17 (by decide), up17 (by decide), up17 (by decide), up17 (by decide), up17 (by decide), up17 (by decide)]
  exact ⟨a, b, c, d, ⟨e.1, e.2.1, hv.1, hv.2, e.2.2.2.2⟩⟩
end UD
