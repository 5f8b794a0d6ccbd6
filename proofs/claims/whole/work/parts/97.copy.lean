section CY
variable {n nh t k k' p i j h w q g z : Nat} {S S' T T' U V : St} {a b c v y pr rf e : Int32} {r r' : Nat → Int32} {l l' : Nat → Int64} {d6 d7 : Nat → Int64}
/-! copies of links -/
def NP (f : Nat → Int32) (nh : Nat) : Prop := (f 11 = 0 ∨ f 11 = 1) ∧ (¬ f 1 < 0 ∧ (f 1).toNatClampNeg < nh) ∧ (f 2 = 0 ∨ f 2 = 1 ∨ f 2 = 2 ∨ f 2 = 3) ∧ (0 ≤ (f 4).toInt ∧ (f 4).toInt ≤ (f 3).toInt ∧ (f 3).toInt ≤ (f 5).toInt ∧ (f 5).toInt ≤ 999) ∧ (0 ≤ (f 6).toInt ∧ (f 6).toInt ≤ 99 ∧ 0 ≤ (f 7).toInt ∧ (f 7).toInt ≤ 100 ∧ 0 ≤ (f 8).toInt ∧ (f 8).toInt ≤ 50 ∧ 0 ≤ (f 9).toInt ∧ (f 9).toInt ≤ 100)
def NK (f : Nat → Int32) : Prop := (0 ≤ (f 0).toInt ∧ (f 0).toInt ≤ 9999) ∧ (1 ≤ (f 1).toInt ∧ (f 1).toInt ≤ 100) ∧ (0 ≤ (f 2).toInt ∧ (f 2).toInt ≤ 99) ∧ (0 ≤ (f 3).toInt ∧ (f 3).toInt ≤ (f 2).toInt) ∧ (0 ≤ (f 4).toInt ∧ (f 4).toInt ≤ 9)
theorem Num_iff : Num S k n nh ↔ (n ≤ 12 ∧ nh ≤ 6 ∧ NK (S.1 (12, k, 0)) ∧ (∀ p, p < n → NP (S.1 (17, k, p)) nh) ∧ (∀ h, h < nh → 0 ≤ (S.1 (16, k, h) 2).toInt ∧ (S.1 (16, k, h) 2).toInt ≤ 9999999)) := by
  constructor
  · rintro ⟨hn, hnh, h0, h1, h2, h3, h4, hon, hhs, hkd, hrt, hpg, hbl⟩
    exact ⟨hn, hnh, ⟨h0, h1, h2, h3, h4⟩, fun p hp => ⟨hon p hp, hhs p hp, hkd p hp, hrt p hp, hpg p hp⟩, hbl⟩
  · rintro ⟨hn, hnh, ⟨h0, h1, h2, h3, h4⟩, hP, hbl⟩
    exact ⟨hn, hnh, h0, h1, h2, h3, h4, fun p hp => (hP p hp).1, fun p hp => (hP p hp).2.1, fun p hp => (hP p hp).2.2.1, fun p hp => (hP p hp).2.2.2.1, fun p hp => (hP p hp).2.2.2.2, hbl⟩
theorem NP_congr {f f' : Nat → Int32} (h : NP f nh) (e : ∀ w, w < 11 → f' (w + 1) = f (w + 1)) : NP f' nh := by
  unfold NP
  rw [e 0 (by decide), e 1 (by decide), e 2 (by decide), e 3 (by decide), e 4 (by decide), e 5 (by decide), e 6 (by decide), e 7 (by decide), e 8 (by decide), e 10 (by decide)]
  exact h
theorem NK_congr {f f' : Nat → Int32} (h : NK f) (e : ∀ w, w < 5 → f' w = f w) : NK f' := by
  unfold NK
  rw [e 0 (by decide), e 1 (by decide), e 2 (by decide), e 3 (by decide), e 4 (by decide)]
  exact h
/-- link k of S' is link k' of S -/
def Eqk (k k' : Nat) (S S' : St) (n nh : Nat) : Prop :=
  (∀ g, g < 11 → S'.1 (12, k, 0) g = S.1 (12, k', 0) g) ∧
  (∀ h w, h < nh → w < 4 → S'.1 (16, k, h) (w + 1) = S.1 (16, k', h) (w + 1)) ∧
  (∀ p w, p < n → w < 11 → S'.1 (17, k, p) (w + 1) = S.1 (17, k', p) (w + 1)) ∧
  (∀ p w, p < n → w < 6 → S'.1 (18, k, p) w = S.1 (18, k', p) w) ∧
  (∀ p w, p < n → w < 8 → S'.2.1 (19, k, p) w = S.2.1 (19, k', p) w) ∧
  (∀ z, z < 144 → S'.1 (15, k, 0) z = S.1 (15, k', 0) z) ∧
  (∀ h, h < nh → S'.2.1 (16, k, h) 0 = S.2.1 (16, k', h) 0) ∧
  (∀ p, p < n → S'.2.1 (17, k, p) 0 = S.2.1 (17, k', p) 0)
theorem Eqk_of (hI : ∀ o : Ob, o.2.1 = k → 12 ≤ o.1 → o.1 ≤ 19 → S'.1 o = S.1 o) (hJ : ∀ o : Ob, o.2.1 = k → 12 ≤ o.1 → o.1 ≤ 19 → S'.2.1 o = S.2.1 o) : Eqk k k S S' n nh := by
  refine ⟨fun g _ => ?_, fun h w _ _ => ?_, fun p w _ _ => ?_, fun p w _ _ => ?_, fun p w _ _ => ?_, fun z _ => ?_, fun h _ => ?_, fun p _ => ?_⟩
  · rw [hI (12, k, 0) rfl (by simp) (by simp)]
  · rw [hI (16, k, h) rfl (by simp) (by simp)]
  · rw [hI (17, k, p) rfl (by simp) (by simp)]
  · rw [hI (18, k, p) rfl (by simp) (by simp)]
  · rw [hJ (19, k, p) rfl (by simp) (by simp)]
  · rw [hI (15, k, 0) rfl (by simp) (by simp)]
  · rw [hJ (16, k, h) rfl (by simp) (by simp)]
  · rw [hJ (17, k, p) rfl (by simp) (by simp)]
theorem Mid_Eqk (h : Mid k' S r l n nh d6 d7) (e : Eqk k k' S S' n nh) (hn : n ≤ 12) (hnh : nh ≤ 6) (er : rowEq r' r) (el : rowEqJ l' l) : Mid k S' r' l' n nh d6 d7 := by
  obtain ⟨m1, m2, m3, m4, m5, m6, m7, m8, m9⟩ := h
  obtain ⟨e1, e2, e3, e4, e5, e6, e7, e8⟩ := e
  refine ⟨fun g hg => ?_, fun h w hh hw => ?_, fun p w hp hw => ?_, fun p w hp hw => ?_, fun p w hp hw => ?_, fun p hp => ?_, fun q h hq hh => ?_, fun h hh => ?_, fun p hp => ?_⟩
  · rw [e1 (scI g) (by unfold scI; split <;> omega), m1 g hg, er g (by omega)]
  · rw [e2 h w hh hw, m2 h w hh hw, er _ (by omega)]
  · rw [e3 p w hp hw, m3 p w hp hw, er _ (by omega)]
  · rw [e4 p w hp hw, m4 p w hp hw, er _ (by omega)]
  · rw [e5 p w hp (by omega), m5 p w hp hw, el _ (by omega)]
  · rw [e5 p 6 hp (by omega), e5 p 7 hp (by omega), (m6 p hp).1, (m6 p hp).2, el _ (by omega), el _ (by omega)]
    exact ⟨rfl, rfl⟩
  · rw [e6 _ (by omega), m7 q h hq hh, er _ (by omega)]
  · rw [e7 h hh, el _ (by omega)]; exact m8 h hh
  · rw [e8 p hp, el _ (by omega)]; exact m9 p hp
theorem Lnr_Eqk (h : Lnr k' S r l n nh t) (e : Eqk k k' S S' n nh) (er : rowEq r' r) (el : rowEqJ l' l) : Lnr k S' r' l' n nh t := by
  obtain ⟨h1, h2, h3, h4, h5⟩ := h
  have hn := h2.1
  have hnh := h2.2.1
  refine ⟨Mid_Eqk h1 e hn hnh er el, ?_, ?_, ?_, ?_⟩
  · obtain ⟨e1, e2, e3, e4, e5, e6, e7, e8⟩ := e
    rw [Num_iff] at h2 ⊢
    obtain ⟨_, _, hK, hP, hB⟩ := h2
    exact ⟨hn, hnh, NK_congr hK (fun w hw => e1 w (by omega)), fun p hp => NP_congr (hP p hp) (fun w hw => e3 p w hp hw), fun h hh => by rw [e2 h 1 hh (by decide)]; exact hB h hh⟩
  · obtain ⟨e1, e2, e3, e4, e5, e6, e7, e8⟩ := e
    obtain ⟨c1, c2, c3⟩ := h3
    exact ⟨fun p hp w hw => by rw [e5 p w hp (by omega)]; exact c1 p hp w hw, fun h hh => by rw [e2 h 3 hh (by decide)]; exact c2 h hh, fun z h hz hh => by rw [e6 _ (by omega)]; exact c3 z h hz hh⟩
  · obtain ⟨e1, e2, e3, e4, e5, e6, e7, e8⟩ := e
    obtain ⟨a1, a2, a3, a4, a5, a6, a7, a8⟩ := h4
    exact ⟨a1, a2, a3, by rw [e1 10 (by decide)]; exact a4, by rw [e1 9 (by decide)]; exact a5, by rw [e1 5 (by decide)]; exact a6, fun p hp => by unfold hisF; rw [e3 p 0 hp (by decide)]; exact a7 p hp, fun p hp => by rw [e3 p 1 hp (by decide)]; exact a8 p hp⟩
  · rw [e.1 8 (by decide)]; exact h5
theorem Lnk_W (h : Lnk k S T n nh t) (w : sameW T T') : Lnk k S T' n nh t := Lnr_Eqk h ⟨fun _ _ => rfl, fun _ _ _ _ => rfl, fun _ _ _ _ => rfl, fun _ _ _ _ => rfl, fun _ _ _ _ => rfl, fun _ _ => rfl, fun _ _ => rfl, fun _ _ => rfl⟩ w.1 w.2
theorem Lnk_Eqk (h : Lnk k' S T n nh t) (e : Eqk k k' S S' n nh) : Lnk k S' T n nh t := Lnr_Eqk h e (fun _ _ => rfl) (fun _ _ => rfl)
theorem Lob_of (h : Lnr k S r l n nh t) : Lob S k n := ⟨h.2.2.2.2, fun p hp => h.2.1.2.2.2.2.2.2.2.1 p hp⟩
theorem Lok_of (h : Lnr k S r l n nh t) : Lok S k n nh t := h.2.2.2.1
theorem Rok_of (h : Lnk k S T n nh t) : Rok T n t := by
  obtain ⟨h1, h2, h3, h4, h5⟩ := h
  have hn := h2.1
  have hnh := h2.2.1
  obtain ⟨m1, m2, m3, m4, m5, m6, m7, m8, m9⟩ := h1
  obtain ⟨a1, a2, a3, a4, a5, a6, a7, a8⟩ := h4
  refine ⟨a1, a3, ?_, ?_, fun p hp => ?_, fun p hp => ?_⟩
  · rw [← m1 1 (by decide)]; exact a4
  · rw [← m1 7 (by decide)]; exact a6
  · have e : gP T p 0 = S.1 (17, k, p) 1 := (m3 p 0 hp (by decide)).symm
    unfold rh
    rw [e]
    exact a7 p hp
  · have e : gP T p 1 = S.1 (17, k, p) 2 := (m3 p 1 hp (by decide)).symm
    rw [e]
    exact a8 p hp
end CY
