section OP1
variable {sx : xSx} {s0 n nh t k p i h z u f s c d x j e b g r y q a pn pc fb fr : Nat} {S S' T T' U V R : St} {v w o : Int32} {m : Nat × Nat × Nat}
/-! THE CALLS OF THE LAW, 1: a call with a long written out -/
def thM (m : Nat × Nat × Nat) : Nat × Nat × Nat := (0, m.2.1 + 1, m.2.2 + 6)
/-- a call of the shaper and one of the reference, with the codes that the wrapper gives -/
def OI (s0 : Nat) (c d : xM → Option xR) (cd : Nat → Int32) (S : St) : Prop := ∀ m : Nat × Nat × Nat, (∃ v S1 S2, c (hp s0 S, m) = some (.inl (some (.int v)), (hp s0 S1, m)) ∧ d (hp s0 (upJ S1 (9, 0, 0) 0 v.toInt64), m) = some (.inl (some (.int v)), (hp s0 S2, m)) ∧ S2.1 (8, 0, 0) 12 = 0 ∧ S2.2.1 (9, 0, 0) 0 = v.toInt64 ∧ Inv S2) ∨ (∃ e S2, c (hp s0 S, m) = some (.inr e, (hp s0 S, thM m)) ∧ d (hp s0 S, thM m) = some (.inl (some (.int 0)), (hp s0 S2, thM m)) ∧ S2.1 (8, 0, 0) 12 = cd e ∧ cd e ≠ 0 ∧ Inv S2)
def OJ (s0 : Nat) (c d : xM → Option xR) (cd : Nat → Int32) (S : St) : Prop := ∀ m : Nat × Nat × Nat, (∃ v S1 S2, c (hp s0 S, m) = some (.inl (some (.long v)), (hp s0 S1, m)) ∧ d (hp s0 (upJ S1 (9, 0, 0) 0 v), m) = some (.inl (some (.long v)), (hp s0 S2, m)) ∧ S2.1 (8, 0, 0) 12 = 0 ∧ S2.2.1 (9, 0, 0) 0 = v ∧ Inv S2) ∨ (∃ e S2, c (hp s0 S, m) = some (.inr e, (hp s0 S, thM m)) ∧ d (hp s0 S, thM m) = some (.inl (some (.long 0)), (hp s0 S2, thM m)) ∧ S2.1 (8, 0, 0) 12 = cd e ∧ cd e ≠ 0 ∧ Inv S2)
theorem up_12 : (upI S (8, 0, 0) 12 v).1 (8, 0, 0) 12 = v := by rw [upI_1, if_pos ⟨rfl, rfl⟩]
/-- a refusal of both -/
theorem OI_ref {cf df : xM → Option xR} {cd : Nat → Int32} {v : Int32} (hI : Inv S) (e : Nat) (hc : ∀ m : Nat × Nat × Nat, cf (hp s0 S, m) = some (.inr e, (hp s0 S, 0, m.2.1 + 1, m.2.2 + 6))) (hd : ∀ m, df (hp s0 S, m) = some (.inl (some (.int 0)), (hp s0 (upI S (8, 0, 0) 12 v), m))) (h1 : v = cd e) (h2 : cd e ≠ 0) : OI s0 cf df cd S := fun m => Or.inr ⟨e, _, hc m, hd (thM m), up_12.trans h1, h2, Inv_12 hI⟩
theorem OJ_ref {cf df : xM → Option xR} {cd : Nat → Int32} {v : Int32} (hI : Inv S) (e : Nat) (hc : ∀ m : Nat × Nat × Nat, cf (hp s0 S, m) = some (.inr e, (hp s0 S, 0, m.2.1 + 1, m.2.2 + 6))) (hd : ∀ m, df (hp s0 S, m) = some (.inl (some (.long 0)), (hp s0 (upI S (8, 0, 0) 12 v), m))) (h1 : v = cd e) (h2 : cd e ≠ 0) : OJ s0 cf df cd S := fun m => Or.inr ⟨e, _, hc m, hd (thM m), up_12.trans h1, h2, Inv_12 hI⟩
/-- both only read -/
theorem OI_get {cf df : xM → Option xR} {cd : Nat → Int32} {v : Int32} (hI : Inv S) (hc : ∀ m : Nat × Nat × Nat, cf (hp s0 S, m) = some (.inl (some (.int v)), (hp s0 S, m))) (hd : ∀ m, df (hp s0 (upJ S (9, 0, 0) 0 v.toInt64), m) = some (.inl (some (.int v)), (hp s0 (upI (upJ S (9, 0, 0) 0 v.toInt64) (8, 0, 0) 12 0), m))) : OI s0 cf df cd S := fun m => Or.inl ⟨v, S, _, hc m, hd m, up_12, by show (upJ S (9, 0, 0) 0 v.toInt64).2.1 (9, 0, 0) 0 = _; rw [upJ_2, if_pos ⟨rfl, rfl⟩], Inv_12 (Inv_out hI)⟩
theorem OJ_get {cf df : xM → Option xR} {cd : Nat → Int32} {v : Int64} (hI : Inv S) (hc : ∀ m : Nat × Nat × Nat, cf (hp s0 S, m) = some (.inl (some (.long v)), (hp s0 S, m))) (hd : ∀ m, df (hp s0 (upJ S (9, 0, 0) 0 v), m) = some (.inl (some (.long v)), (hp s0 (upI (upJ S (9, 0, 0) 0 v) (8, 0, 0) 12 0), m))) : OJ s0 cf df cd S := fun m => Or.inl ⟨v, S, _, hc m, hd m, up_12, by show (upJ S (9, 0, 0) 0 v).2.1 (9, 0, 0) 0 = _; rw [upJ_2, if_pos ⟨rfl, rfl⟩], Inv_12 (Inv_out hI)⟩
def cd0 (e : Nat) : Int32 := if e = 0 then 1 else 0
def cd2 (e : Nat) : Int32 := if e = 2 then 1 else if e = 0 then 2 else 0
/-- an int within two numbers or outside -/
theorem rng (v : Int32) {lo hi : Nat} (hl : lo < 2 ^ 31) (hh : hi < 2 ^ 31) : (v < Int32.ofNat lo ∨ Int32.ofNat hi < v) ∨ (∃ k : Nat, lo ≤ k ∧ k ≤ hi ∧ v = Int32.ofNat k) := by
  by_cases h : v < Int32.ofNat lo ∨ Int32.ofNat hi < v
  · exact Or.inl h
  · refine Or.inr ⟨v.toInt.toNat, ?_⟩
    rw [ltI, ltI, oN_toInt hl, oN_toInt hh] at h
    refine ⟨by omega, by omega, ?_⟩
    apply Int32.toInt_inj.mp
    rw [oN_toInt (by omega)]
    omega
theorem idx (v : Int32) {n : Nat} (hn : n < 2 ^ 31) : (v < 0 ∨ Int32.ofNat n ≤ v) ∨ (∃ k : Nat, k < n ∧ v = Int32.ofNat k) := by
  by_cases h : v < 0 ∨ Int32.ofNat n ≤ v
  · exact Or.inl h
  · refine Or.inr ⟨v.toInt.toNat, ?_⟩
    rw [ltI, leI, oN_toInt hn, show (0 : Int32).toInt = 0 from rfl] at h
    refine ⟨by omega, ?_⟩
    apply Int32.toInt_inj.mp
    rw [oN_toInt (by omega)]
    omega
theorem in_12 (hk : k ≤ 12) : Int32.ofNat k = 0 ∨ Int32.ofNat k = 1 ∨ Int32.ofNat k = 2 ∨ Int32.ofNat k = 3 ∨ Int32.ofNat k = 4 ∨ Int32.ofNat k = 5 ∨ Int32.ofNat k = 6 ∨ Int32.ofNat k = 7 ∨ Int32.ofNat k = 8 ∨ Int32.ofNat k = 9 ∨ Int32.ofNat k = 10 ∨ Int32.ofNat k = 11 ∨ Int32.ofNat k = 12 := by
  rcases (show k = 0 ∨ k = 1 ∨ k = 2 ∨ k = 3 ∨ k = 4 ∨ k = 5 ∨ k = 6 ∨ k = 7 ∨ k = 8 ∨ k = 9 ∨ k = 10 ∨ k = 11 ∨ k = 12 by omega) with e | e | e | e | e | e | e | e | e | e | e | e | e <;> subst e
  · exact Or.inl rfl
  · exact Or.inr (Or.inl rfl)
  · exact Or.inr (Or.inr (Or.inl rfl))
  · exact Or.inr (Or.inr (Or.inr (Or.inl rfl)))
  · exact Or.inr (Or.inr (Or.inr (Or.inr (Or.inl rfl))))
  · exact Or.inr (Or.inr (Or.inr (Or.inr (Or.inr (Or.inl rfl)))))
  · exact Or.inr (Or.inr (Or.inr (Or.inr (Or.inr (Or.inr (Or.inl rfl))))))
  · exact Or.inr (Or.inr (Or.inr (Or.inr (Or.inr (Or.inr (Or.inr (Or.inl rfl)))))))
  · exact Or.inr (Or.inr (Or.inr (Or.inr (Or.inr (Or.inr (Or.inr (Or.inr (Or.inl rfl))))))))
  · exact Or.inr (Or.inr (Or.inr (Or.inr (Or.inr (Or.inr (Or.inr (Or.inr (Or.inr (Or.inl rfl)))))))))
  · exact Or.inr (Or.inr (Or.inr (Or.inr (Or.inr (Or.inr (Or.inr (Or.inr (Or.inr (Or.inr (Or.inl rfl))))))))))
  · exact Or.inr (Or.inr (Or.inr (Or.inr (Or.inr (Or.inr (Or.inr (Or.inr (Or.inr (Or.inr (Or.inr (Or.inl rfl)))))))))))
  · exact Or.inr (Or.inr (Or.inr (Or.inr (Or.inr (Or.inr (Or.inr (Or.inr (Or.inr (Or.inr (Or.inr (Or.inr (rfl))))))))))))
theorem in_5 (hk : k ≤ 5) : Int32.ofNat k = 0 ∨ Int32.ofNat k = 1 ∨ Int32.ofNat k = 2 ∨ Int32.ofNat k = 3 ∨ Int32.ofNat k = 4 ∨ Int32.ofNat k = 5 := by
  rcases (show k = 0 ∨ k = 1 ∨ k = 2 ∨ k = 3 ∨ k = 4 ∨ k = 5 by omega) with e | e | e | e | e | e <;> subst e
  · exact Or.inl rfl
  · exact Or.inr (Or.inl rfl)
  · exact Or.inr (Or.inr (Or.inl rfl))
  · exact Or.inr (Or.inr (Or.inr (Or.inl rfl)))
  · exact Or.inr (Or.inr (Or.inr (Or.inr (Or.inl rfl))))
  · exact Or.inr (Or.inr (Or.inr (Or.inr (Or.inr (rfl)))))
theorem in_10 (hk : k ≤ 10) : Int32.ofNat k = 0 ∨ Int32.ofNat k = 1 ∨ Int32.ofNat k = 2 ∨ Int32.ofNat k = 3 ∨ Int32.ofNat k = 4 ∨ Int32.ofNat k = 5 ∨ Int32.ofNat k = 6 ∨ Int32.ofNat k = 7 ∨ Int32.ofNat k = 8 ∨ Int32.ofNat k = 9 ∨ Int32.ofNat k = 10 := by
  rcases (show k = 0 ∨ k = 1 ∨ k = 2 ∨ k = 3 ∨ k = 4 ∨ k = 5 ∨ k = 6 ∨ k = 7 ∨ k = 8 ∨ k = 9 ∨ k = 10 by omega) with e | e | e | e | e | e | e | e | e | e | e <;> subst e
  · exact Or.inl rfl
  · exact Or.inr (Or.inl rfl)
  · exact Or.inr (Or.inr (Or.inl rfl))
  · exact Or.inr (Or.inr (Or.inr (Or.inl rfl)))
  · exact Or.inr (Or.inr (Or.inr (Or.inr (Or.inl rfl))))
  · exact Or.inr (Or.inr (Or.inr (Or.inr (Or.inr (Or.inl rfl)))))
  · exact Or.inr (Or.inr (Or.inr (Or.inr (Or.inr (Or.inr (Or.inl rfl))))))
  · exact Or.inr (Or.inr (Or.inr (Or.inr (Or.inr (Or.inr (Or.inr (Or.inl rfl)))))))
  · exact Or.inr (Or.inr (Or.inr (Or.inr (Or.inr (Or.inr (Or.inr (Or.inr (Or.inl rfl))))))))
  · exact Or.inr (Or.inr (Or.inr (Or.inr (Or.inr (Or.inr (Or.inr (Or.inr (Or.inr (Or.inl rfl)))))))))
  · exact Or.inr (Or.inr (Or.inr (Or.inr (Or.inr (Or.inr (Or.inr (Or.inr (Or.inr (Or.inr (rfl))))))))))
/-- 4 -/
theorem o_4 (hI : Inv S) : OI s0 (X xtab sx 4 0 [some (.ref (adr s0 (0, 0, 0))), some (.int v)] []) (X xtab sx 105 0 [some (.ref (adr s0 (8, 0, 0))), some (.int v)] []) cd0 S := by
  have hI2 := hI
  obtain ⟨n, nh, t, pn, pc, fb, fr, h⟩ := hI
  rcases rng v (lo := 0) (hi := 12) (by decide) (by decide) with hv | ⟨k, k1, k2, rfl⟩
  · exact OI_ref hI2 0 (fun m => x4t hv) (fun m => x105t hv) rfl (by decide)
  · have hv := in_12 (k := k) (by omega)
    refine OI_get hI2 (fun m => x4n hv) (fun m => ?_)
    have hs := see_J (v := 0) (w := (szF S (Int32.ofNat k)).toInt64) h
    have hx := x105n (sx := sx) (s0 := s0) (S := upJ S (9, 0, 0) 0 (szF S (Int32.ofNat k)).toInt64) (m := m) hv
    rw [← get_4 hs.1.1 hs.2.1 hs.2.2.2.2.1 hv] at hx
    exact hx
/-- 5 -/
theorem o_5 (hI : Inv S) : OI s0 (X xtab sx 5 0 [some (.ref (adr s0 (0, 0, 0))), some (.int v), some (.int w), none] []) (X xtab sx 107 0 [some (.ref (adr s0 (8, 0, 0))), some (.int v), some (.int w)] []) cd2 S := by
  have hI2 := hI
  obtain ⟨n, nh, t, pn, pc, fb, fr, h⟩ := hI
  have hL := Lok_of h.1.1
  have hnh := hL.2.1
  rcases idx v (n := nh) (by omega) with hv | ⟨i, hi, rfl⟩
  · exact OI_ref hI2 2 (fun m => x5u (by rw [hL.2.2.2.2.1]; exact hv)) (fun m => x107u (nh_of h.1.1) (by omega) hv) rfl (by decide)
  · rcases rng w (lo := 0) (hi := 5) (by decide) (by decide) with hw | ⟨k, k1, k2, rfl⟩
    · exact OI_ref hI2 0 (fun m => x5t hL hi hw) (fun m => x107t (nh_of h.1.1) (by omega) hi hw) rfl (by decide)
    · have hw := in_5 (k := k) (by omega)
      refine OI_get hI2 (fun m => x5n hL hi hw) (fun m => ?_)
      have hs := see_J (v := 0) (w := (hhF S n i (Int32.ofNat k)).toInt64) h
      have hs0 := see_0 (w := (hhF S n i (Int32.ofNat k)).toInt64) h
      have hx := x107n (sx := sx) (s0 := s0) (S := upJ S (9, 0, 0) 0 (hhF S n i (Int32.ofNat k)).toInt64) (m := m) (nh_of hs0.1.1) hnh hi (n_of hs0.1.1) hL.1 hw
      rw [← get_5 hs.1.1 hi hw] at hx
      exact hx
/-- 6 -/
theorem o_6 (hI : Inv S) : OI s0 (X xtab sx 6 0 [some (.ref (adr s0 (0, 0, 0))), some (.int v), some (.int w), none] []) (X xtab sx 108 0 [some (.ref (adr s0 (8, 0, 0))), some (.int v), some (.int w)] []) cd2 S := by
  have hI2 := hI
  obtain ⟨n, nh, t, pn, pc, fb, fr, h⟩ := hI
  have hL := Lok_of h.1.1
  have hn := hL.1
  rcases idx v (n := n) (by omega) with hv | ⟨i, hi, rfl⟩
  · exact OI_ref hI2 2 (fun m => x6u (by rw [hL.2.2.2.1]; exact hv)) (fun m => x108u (n_of h.1.1) (by omega) hv) rfl (by decide)
  · rcases rng w (lo := 0) (hi := 10) (by decide) (by decide) with hw | ⟨k, k1, k2, rfl⟩
    · exact OI_ref hI2 0 (fun m => x6t hL hi hw) (fun m => x108t (n_of h.1.1) (by omega) hi hw) rfl (by decide)
    · have hw := in_10 (k := k) (by omega)
      refine OI_get hI2 (fun m => x6n hL hi hw) (fun m => ?_)
      have hs0 := see_0 (w := (pgF S i (Int32.ofNat k)).toInt64) h
      have hx := x108n (sx := sx) (s0 := s0) (S := upJ S (9, 0, 0) 0 (pgF S i (Int32.ofNat k)).toInt64) (m := m) (w := Int32.ofNat k) (n_of hs0.1.1) hn hi (by rw [show (0 : Int32) = Int32.ofNat 0 from rfl, oN_le (by omega) (by omega)]; omega) (by rw [show (10 : Int32) = Int32.ofNat 10 from rfl, oN_le (by omega) (by omega)]; omega)
      rw [← get_6 hs0.1.1 hi hw] at hx
      exact hx
/-- 7 -/
theorem o_7 (hI : Inv S) : OI s0 (X xtab sx 7 0 [some (.ref (adr s0 (0, 0, 0))), some (.int o), some (.int v), some (.int w), none, none] []) (X xtab sx 111 0 [some (.ref (adr s0 (8, 0, 0))), some (.int o), some (.int v), some (.int w)] []) (fun e => if e = 2 then 1 else 0) S := by
  have hI2 := hI
  obtain ⟨n, nh, t, pn, pc, fb, fr, h⟩ := hI
  have hL := Lok_of h.1.1
  have hn := hL.1
  have hnh := hL.2.1
  by_cases ho : o = 0
  · subst ho
    rcases idx v (n := n) (by omega) with hv | ⟨i, hi, rfl⟩
    · exact OI_ref hI2 2 (fun m => x7u (by rw [hL.2.2.2.1]; exact hv)) (fun m => x111w hn (n_of h.1.1) hv) rfl (by decide)
    · refine OI_get hI2 (fun m => x7p hL hi) (fun m => ?_)
      have hN := h.1.1.1.2.2.2.2.2.2.2.2 i hi
      rw [nm_lt hN]
      have hs0 := see_0 (w := (loN (S.2.1 (11, 5, 0) (102 + i)) w).toInt64) h
      have hx := x111p (sx := sx) (s0 := s0) (S := upJ S (9, 0, 0) 0 (loN (S.2.1 (11, 5, 0) (102 + i)) w).toInt64) (m := m) (q := w) hi hn (n_of hs0.1.1) (by rw [upJ_2, if_neg (by simp)]; exact nm_s5 hN)
      rw [upJ_2, if_neg (by simp)] at hx
      exact hx
  · rcases idx v (n := nh) (by omega) with hv | ⟨i, hi, rfl⟩
    · exact OI_ref hI2 2 (fun m => x7t ho (by rw [hL.2.2.2.2.1]; exact hv)) (fun m => x111u ho hnh (nh_of h.1.1) hv) rfl (by decide)
    · refine OI_get hI2 (fun m => x7h ho hL hi) (fun m => ?_)
      have hN := h.1.1.1.2.2.2.2.2.2.2.1 i hi
      rw [nm_lt hN]
      have hs0 := see_0 (w := (loN (S.2.1 (11, 5, 0) (96 + i)) w).toInt64) h
      have hx := x111h (sx := sx) (s0 := s0) (S := upJ S (9, 0, 0) 0 (loN (S.2.1 (11, 5, 0) (96 + i)) w).toInt64) (m := m) (q := w) ho hi hnh (nh_of hs0.1.1) (by rw [upJ_2, if_neg (by simp)]; exact nm_s5 hN)
      rw [upJ_2, if_neg (by simp)] at hx
      exact hx
/-- 8 -/
theorem o_8 (hI : Inv S) : OJ s0 (X xtab sx 8 0 [some (.ref (adr s0 (0, 0, 0))), some (.int v), some (.int w)] []) (X xtab sx 112 0 [some (.ref (adr s0 (8, 0, 0))), some (.int v), some (.int w)] []) cd2 S := by
  have hI2 := hI
  obtain ⟨n, nh, t, pn, pc, fb, fr, h⟩ := hI
  have hL := Lok_of h.1.1
  have hn := hL.1
  rcases idx v (n := n) (by omega) with hv | ⟨i, hi, rfl⟩
  · exact OJ_ref hI2 2 (fun m => x8u (by rw [hL.2.2.2.1]; exact hv)) (fun m => x112u (n_of h.1.1) (by omega) hv) rfl (by decide)
  · rcases rng w (lo := 0) (hi := 7) (by decide) (by decide) with hw | ⟨k, k1, k2, rfl⟩
    · exact OJ_ref hI2 0 (fun m => x8t hL hi hw) (fun m => x112t (n_of h.1.1) (by omega) hi hw) rfl (by decide)
    · refine OJ_get hI2 (fun m => x8n hL hi (by omega)) (fun m => ?_)
      have hs0 := see_0 (w := S.2.1 (19, 1, i) k) h
      have hx := x112n (sx := sx) (s0 := s0) (S := upJ S (9, 0, 0) 0 (S.2.1 (19, 1, i) k)) (m := m) (w := Int32.ofNat k) (n_of hs0.1.1) hn hi (by rw [show (0 : Int32) = Int32.ofNat 0 from rfl, oN_le (by omega) (by omega)]; omega) (by rw [show (7 : Int32) = Int32.ofNat 7 from rfl, oN_le (by omega) (by omega)]; omega)
      rw [oN_clamp (by omega), ← cnt_eq hs0.1.1 hi (by omega)] at hx
      exact hx
/-- 9 -/
theorem o_9 (hI : Inv S) : OJ s0 (X xtab sx 9 0 [some (.ref (adr s0 (0, 0, 0))), some (.int v), none, none, none] []) (X xtab sx 113 0 [some (.ref (adr s0 (8, 0, 0))), some (.int v), none, none, none] []) cd0 S := by
  have hI2 := hI
  obtain ⟨n, nh, t, pn, pc, fb, fr, h⟩ := hI
  have hL := Lok_of h.1.1
  rcases rng v (lo := 0) (hi := 7) (by decide) (by decide) with hv | ⟨k, k1, k2, rfl⟩
  · exact OJ_ref hI2 0 (fun m => x9t hv) (fun m => x113t hv) rfl (by decide)
  · refine OJ_get hI2 (fun m => x9n (c := k) (by omega) hL.1 hL.2.2.2.1) (fun m => ?_)
    have hs0 := see_0 (w := sumJ (fun p => S.2.1 (19, 1, p) k) n) h
    have hx := x113n (sx := sx) (s0 := s0) (S := upJ S (9, 0, 0) 0 (sumJ (fun p => S.2.1 (19, 1, p) k) n)) (m := m) (c := k) (by omega) hL.1 (n_of hs0.1.1)
    rw [← get_9 hs0.1.1 (by omega)] at hx
    exact hx
/-- 10 -/
theorem o_10 (hI : Inv S) : OI s0 (X xtab sx 10 0 [some (.ref (adr s0 (0, 0, 0))), some (.int v), some (.int w)] []) (X xtab sx 114 0 [some (.ref (adr s0 (8, 0, 0))), some (.int v), some (.int w)] []) cd2 S := by
  have hI2 := hI
  obtain ⟨n, nh, t, pn, pc, fb, fr, h⟩ := hI
  have hL := Lok_of h.1.1
  have hn := hL.1
  rcases idx v (n := n) (by omega) with hv | ⟨i, hi, rfl⟩
  · exact OI_ref hI2 2 (fun m => x10u (by rw [hL.2.2.2.1]; exact hv)) (fun m => x114u (n_of h.1.1) (by omega) hv) rfl (by decide)
  · rcases rng w (lo := 0) (hi := 5) (by decide) (by decide) with hw | ⟨k, k1, k2, rfl⟩
    · exact OI_ref hI2 0 (fun m => x10t hL hi hw) (fun m => x114t (n_of h.1.1) (by omega) hi hw) rfl (by decide)
    · refine OI_get hI2 (fun m => x10n hL hi (by omega)) (fun m => ?_)
      have hs0 := see_0 (w := (if S.1 (12, 1, 0) 5 = 0 then -1 else S.1 (18, 1, i) k : Int32).toInt64) h
      have hx := x114n (sx := sx) (s0 := s0) (S := upJ S (9, 0, 0) 0 (if S.1 (12, 1, 0) 5 = 0 then -1 else S.1 (18, 1, i) k : Int32).toInt64) (m := m) (w := Int32.ofNat k) (n_of hs0.1.1) hn hi (by rw [show (0 : Int32) = Int32.ofNat 0 from rfl, oN_le (by omega) (by omega)]; omega) (by rw [show (5 : Int32) = Int32.ofNat 5 from rfl, oN_le (by omega) (by omega)]; omega)
      rw [oN_clamp (by omega), ← get_10 hs0.1.1 hi (by omega)] at hx
      exact hx
/-- 12 -/
theorem o_12 (hI : Inv S) : OI s0 (X xtab sx 12 0 [some (.ref (adr s0 (0, 0, 0))), some (.int v), some (.int w)] []) (X xtab sx 118 0 [some (.ref (adr s0 (8, 0, 0))), some (.int v), some (.int w)] []) (fun e => if e = 2 then 1 else if e = 3 then 2 else 0) S := by
  have hI2 := hI
  obtain ⟨n, nh, t, pn, pc, fb, fr, h⟩ := hI
  have hL := Lok_of h.1.1
  have hnh := hL.2.1
  have ht := h.1.2
  rcases idx w (n := nh) (by omega) with hw | ⟨i, hi, rfl⟩
  · exact OI_ref hI2 2 (fun m => x12u (by rw [hL.2.2.2.2.1]; exact hw)) (fun m => x118u (nh_of h.1.1) (by omega) hw) rfl (by decide)
  · by_cases hk : fkF S 1 ≤ v ∧ v < ehF S 1
    · have hk2 := (kept_iff h.1.1).mp hk
      have e1 := fk_of h.1.1
      have e2 := eh_of h.1.1
      have hb : ∃ b : Nat, b < 2 ^ 20 ∧ v = Int32.ofNat b := by
        have a1 := hk.1
        have a2 := hk.2
        rw [e1, leI, oN_toInt (by omega)] at a1
        rw [e2, ltI, oN_toInt (by omega)] at a2
        refine ⟨v.toInt.toNat, by omega, ?_⟩
        apply Int32.toInt_inj.mp
        rw [oN_toInt (by omega)]
        omega
      obtain ⟨b, hb, rfl⟩ := hb
      have hbm := Nat.mod_lt b (show 0 < 24 by decide)
      have hph := phN hb (show i < 6 by omega)
      refine OI_get hI2 (fun m => x12n hL hi hk.1 hk.2 (by rw [hph, oN_neg (by omega)]; exact fun e => e) (by rw [hph, oN_clamp (by omega)]; omega)) (fun m => ?_)
      have hs0 := see_0 (w := (S.1 (15, 1, 0) (phF (Int32.ofNat b) (Int32.ofNat i)).toNatClampNeg).toInt64) h
      have hk3 := (kept_iff hs0.1.1).mp hk
      have hx := x118n (sx := sx) (s0 := s0) (S := upJ S (9, 0, 0) 0 (S.1 (15, 1, 0) (phF (Int32.ofNat b) (Int32.ofNat i)).toNatClampNeg).toInt64) (m := m) (b := b) (nh_of hs0.1.1) hnh hi hb hk3.1 hk3.2
      rw [← get_12 hs0.1.1 hi hb] at hx
      exact hx
    · have hk1 : v < fkF S 1 ∨ ehF S 1 ≤ v := by
        rw [ltI, leI]
        rw [leI, ltI] at hk
        omega
      have hk2 : ¬ (S.1 (11, 0, 0) 7 / 12 - hkR S ≤ v ∧ v ≤ S.1 (11, 0, 0) 7 / 12 - 1) := fun e => hk ((kept_iff h.1.1).mpr e)
      refine OI_ref hI2 3 (fun m => x12t hL hi hk1) (fun m => x118t (nh_of h.1.1) hnh hi ?_) rfl (by decide)
      rw [leI, leI] at hk2
      rw [ltI, ltI]
      omega
end OP1
