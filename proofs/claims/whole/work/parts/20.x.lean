/-! RUNS WITHOUT FUEL AND WITHOUT ROOM: xrun2 asks for no room, X is what xrun2 comes to with fuel enough; it keeps the step's equation. -/
def xcl2 (tab : List xMe) (f : Nat → Nat → xL → List Value → xM → Option xR) (y' : Nat) (As : List Value) (M' : xM) : Option xR := match tab[y']? with
  | none => none
  | some me' => f y' 0 (xentry (xmL me') As) [] M'
def xrun2 (tab : List xMe) (sx : xSx) : Nat → Nat → Nat → xL → List Value → xM → Option xR
  | 0, _, _, _, _, _ => none
  | n + 1, y, pc, L, st, M => match tab[y]? with
    | none => none
    | some me => xstep tab sx (fun y' _ _ As M' => xcl2 tab (xrun2 tab sx n) y' As M') (fun pc' L' st' M' => xrun2 tab sx n y pc' L' st' M') me 1000 1000 pc L st M
theorem xs1_up {k k' : xKt} {op a b i : Nat} {z : Int} {pc : Nat} {L : xL} {st : List Value} {M : xM} {r : xR} (hk : ∀ pc L st M, k pc L st M = some r → k' pc L st M = some r) (h : xs1 k op a b i z pc L st M = some r) : xs1 k' op a b i z pc L st M = some r := by
  unfold xs1 at *
  split at h
  · cases h
  · rename_i q hq
    split at h
    · cases h
    · rename_i r1 hr1
      exact hk _ _ _ _ h
theorem xs2_up {k k' : xKt} {me : xMe} {op a b i : Nat} {z : Int} {pc : Nat} {L : xL} {st : List Value} {M : xM} {r : xR} (hk : ∀ pc L st M, k pc L st M = some r → k' pc L st M = some r) (h : xs2 k me op a b i z pc L st M = some r) : xs2 k' me op a b i z pc L st M = some r := by
  unfold xs2 at *
  split at h
  · cases h
  · split at h
    · cases h
    · exact hk _ _ _ _ h
theorem xs3_up {sx : xSx} {k k' : xKt} {me : xMe} {op a b i : Nat} {z : Int} {pc : Nat} {L : xL} {st : List Value} {M : xM} {r : xR} (hk : ∀ pc L st M, k pc L st M = some r → k' pc L st M = some r) (h : xs3 sx k me op a b i z pc L st M = some r) : xs3 sx k' me op a b i z pc L st M = some r := by
  unfold xs3 at *
  split at h
  · cases h
  · split at h
    · cases h
    · exact hk _ _ _ _ h
theorem xs4_up {sx : xSx} {k k' : xKt} {me : xMe} {fl lf fl' lf' op a b i : Nat} {z : Int} {pc : Nat} {L : xL} {st : List Value} {M : xM} {r : xR} (hr : 5 ≤ fl' ∧ 128 ≤ lf') (hk : ∀ pc L st M, k pc L st M = some r → k' pc L st M = some r) (h : xs4 sx k me fl lf op a b i z pc L st M = some r) : xs4 sx k' me fl' lf' op a b i z pc L st M = some r := by
  unfold xs4 at *
  split at h
  · cases h
  · split at h
    · rename_i hc
      rw [if_pos ⟨hc.1, hr.1, hr.2⟩]
      split at h
      · cases h
      · exact hk _ _ _ _ h
    · cases h
theorem xsW_up {k k' : xKt} {me : xMe} {a : Nat} {L : xL} {st : List Value} {M : xM} {r : xR} (hk : ∀ pc L st M, k pc L st M = some r → k' pc L st M = some r) (h : xsW k me a L st M = some r) : xsW k' me a L st M = some r := by
  unfold xsW at *
  split at h
  · cases h
  · exact hk _ _ _ _ h
theorem xsT_up {fl lf fl' lf' a : Nat} {st : List Value} {M : xM} {r : xR} (hr : 6 ≤ fl' ∧ 128 ≤ lf') (h : xsT fl lf a st M = some r) : xsT fl' lf' a st M = some r := by
  unfold xsT at *
  split at h
  · rename_i hc
    rw [if_pos ⟨hr.1, hr.2, hc.2.2⟩]
    exact h
  · cases h
theorem xsB_up {k k' : xKt} {me : xMe} {op pc : Nat} {L : xL} {rest : List Value} {c c' : Option xR} {r : xR} (hc : ∀ r, c = some r → c' = some r) (hk : ∀ pc L st M, k pc L st M = some r → k' pc L st M = some r) (h : xsB k me op pc L rest c = some r) : xsB k' me op pc L rest c' = some r := by
  cases c with
  | none => cases h
  | some rc =>
    rw [hc rc rfl]
    obtain ⟨ro, M'⟩ := rc
    unfold xsB at *
    cases ro with
    | inl v => exact hk _ _ _ _ h
    | inr e =>
      dsimp only at h ⊢
      split at h
      · rename_i ho
        rw [if_pos ho]
        split at h
        · exact h
        · split at h
          · cases h
          · exact hk _ _ _ _ h
      · cases h
theorem xsC_up {tab : List xMe} {call call' : Nat → Nat → Nat → List Value → xM → Option xR} {k k' : xKt} {me : xMe} {fl lf fl' lf' op a pc : Nat} {L : xL} {st : List Value} {M : xM} {r : xR}
    (hr : ∀ me', tab[a]? = some me' → 1 ≤ fl' ∧ 19 + xmL me' ≤ lf' ∧ ∀ As M r, call a (fl - 1) (lf - (19 + xmL me')) As M = some r → call' a (fl' - 1) (lf' - (19 + xmL me')) As M = some r) (hk : ∀ pc L st M, k pc L st M = some r → k' pc L st M = some r) (h : xsC tab call k me fl lf op a pc L st M = some r) : xsC tab call' k' me fl' lf' op a pc L st M = some r := by
  unfold xsC at *
  split at h
  · cases h
  · rename_i me' hme
    obtain ⟨r1, r2, r3⟩ := hr me' hme
    split at h
    · cases h
    · split at h
      · rename_i hc
        rw [if_pos ⟨r1, r2, hc.2.2⟩]
        exact xsB_up (fun r hc => r3 _ _ _ hc) hk h
      · cases h
theorem xstep_up {tab : List xMe} {sx : xSx} {call call' : Nat → Nat → Nat → List Value → xM → Option xR} {k k' : xKt} {me : xMe} {fl lf fl' lf' pc : Nat} {L : xL} {st : List Value} {M : xM} {r : xR} (hk : ∀ pc L st M, k pc L st M = some r → k' pc L st M = some r)
    (hr : ∀ (op a b i : Nat) (z : Int), (xmI me)[pc]? = some (op, a, b, i, z) → (250 ≤ op → op < 300 → 5 ≤ fl' ∧ 128 ≤ lf') ∧ (op = 320 → 6 ≤ fl' ∧ 128 ≤ lf') ∧ (300 < op → op ≠ 310 → op ≠ 320 → op < 340 → ∀ me', tab[a]? = some me' → 1 ≤ fl' ∧ 19 + xmL me' ≤ lf' ∧ ∀ As M r, call a (fl - 1) (lf - (19 + xmL me')) As M = some r → call' a (fl' - 1) (lf' - (19 + xmL me')) As M = some r))
    (h : xstep tab sx call k me fl lf pc L st M = some r) : xstep tab sx call' k' me fl' lf' pc L st M = some r := by
  unfold xstep at *
  cases hq : (xmI me)[pc]? with
  | none => rw [hq] at h; cases h
  | some q =>
    obtain ⟨op, a, b, i, z⟩ := q
    obtain ⟨g4, gT, gC⟩ := hr op a b i z hq
    rw [hq] at h
    dsimp only at h ⊢
    by_cases h1 : op < 100
    · rw [if_pos h1] at h ⊢; exact xs1_up hk h
    rw [if_neg h1] at h ⊢
    by_cases h2 : op < 200
    · rw [if_pos h2] at h ⊢; exact xs2_up hk h
    rw [if_neg h2] at h ⊢
    by_cases h3 : op < 250
    · rw [if_pos h3] at h ⊢; exact xs3_up hk h
    rw [if_neg h3] at h ⊢
    by_cases h4 : op < 300
    · rw [if_pos h4] at h ⊢; exact xs4_up (g4 (by omega) h4) hk h
    rw [if_neg h4] at h ⊢
    by_cases h5 : op = 300
    · rw [if_pos h5] at h ⊢; exact h
    rw [if_neg h5] at h ⊢
    by_cases h6 : op = 310
    · rw [if_pos h6] at h ⊢; exact xsW_up hk h
    rw [if_neg h6] at h ⊢
    by_cases h7 : op = 320
    · rw [if_pos h7] at h ⊢; exact xsT_up (gT h7) h
    rw [if_neg h7] at h ⊢
    by_cases h8 : op < 340
    · rw [if_pos h8] at h ⊢; exact xsC_up (gC (by omega) h6 h7 h8) hk h
    rw [if_neg h8] at h
    cases h
/-- a step goes on at one place only, behind one call at most -/
def xuse (r : xR) (S : xKt → Option xR) (k : xKt) : Prop := (∀ k' : xKt, S k' = some r) ∨ ∃ (pc' : Nat) (L' : xL) (st' : List Value) (M' : xM), k pc' L' st' M' = some r ∧ ∀ k' : xKt, k' pc' L' st' M' = some r → S k' = some r
theorem xs1_use {k : xKt} {op a b i : Nat} {z : Int} {pc : Nat} {L : xL} {st : List Value} {M : xM} {r : xR} (h : xs1 k op a b i z pc L st M = some r) : xuse r (fun k => xs1 k op a b i z pc L st M) k := by
  unfold xs1 at h
  unfold xuse xs1
  split at h
  · cases h
  · rename_i q hq
    try simp only [hq]
    split at h
    · cases h
    · rename_i r1 hr1
      try simp only [hr1]
      exact Or.inr ⟨_, _, _, _, h, fun k' h' => h'⟩
theorem xs2_use {k : xKt} {me : xMe} {op a b i : Nat} {z : Int} {pc : Nat} {L : xL} {st : List Value} {M : xM} {r : xR} (h : xs2 k me op a b i z pc L st M = some r) : xuse r (fun k => xs2 k me op a b i z pc L st M) k := by
  unfold xs2 at h
  unfold xuse xs2
  split at h
  · cases h
  · rename_i q hq
    try simp only [hq]
    split at h
    · cases h
    · rename_i r1 hr1
      try simp only [hr1]
      exact Or.inr ⟨_, _, _, _, h, fun k' h' => h'⟩
theorem xs3_use {sx : xSx} {k : xKt} {me : xMe} {op a b i : Nat} {z : Int} {pc : Nat} {L : xL} {st : List Value} {M : xM} {r : xR} (h : xs3 sx k me op a b i z pc L st M = some r) : xuse r (fun k => xs3 sx k me op a b i z pc L st M) k := by
  unfold xs3 at h
  unfold xuse xs3
  split at h
  · cases h
  · rename_i q hq
    try simp only [hq]
    split at h
    · cases h
    · rename_i r1 hr1
      try simp only [hr1]
      exact Or.inr ⟨_, _, _, _, h, fun k' h' => h'⟩
theorem xs4_use {sx : xSx} {k : xKt} {me : xMe} {fl lf op a b i : Nat} {z : Int} {pc : Nat} {L : xL} {st : List Value} {M : xM} {r : xR} (h : xs4 sx k me fl lf op a b i z pc L st M = some r) : xuse r (fun k => xs4 sx k me fl lf op a b i z pc L st M) k := by
  unfold xs4 at h
  unfold xuse xs4
  split at h
  · cases h
  · rename_i q hq
    try simp only [hq]
    split at h
    · rename_i hc
      try simp only [if_pos hc]
      split at h
      · cases h
      · rename_i r1 hr1
        try simp only [hr1]
        exact Or.inr ⟨_, _, _, _, h, fun k' h' => h'⟩
    · cases h
theorem xsW_use {k : xKt} {me : xMe} {a : Nat} {L : xL} {st : List Value} {M : xM} {r : xR} (h : xsW k me a L st M = some r) : xuse r (fun k => xsW k me a L st M) k := by
  unfold xsW at h
  unfold xuse xsW
  split at h
  · cases h
  · rename_i q hq
    try simp only [hq]
    exact Or.inr ⟨_, _, _, _, h, fun k' h' => h'⟩
theorem xsB_use {k : xKt} {me : xMe} {op pc : Nat} {L : xL} {rest : List Value} {rc : xR} {r : xR} (h : xsB k me op pc L rest (some rc) = some r) : xuse r (fun k => xsB k me op pc L rest (some rc)) k := by
  obtain ⟨ro, M'⟩ := rc
  unfold xsB at h
  unfold xuse xsB
  cases ro with
  | inl v => exact Or.inr ⟨_, _, _, _, h, fun k' h' => h'⟩
  | inr e =>
    dsimp only at h ⊢
    split at h
    · rename_i ho
      try simp only [if_pos ho]
      split at h
      · rename_i hh
        try simp only [hh]
        exact Or.inl (fun _ => h)
      · rename_i hh
        split at h
        · cases h
        · rename_i q hq
          try simp only [hq]
          cases hm : xmH me with
          | nil => exact absurd hm hh
          | cons hd tl => exact Or.inr ⟨_, _, _, _, h, fun k' h' => h'⟩
    · cases h
abbrev xClT : Type := Nat → Nat → Nat → List Value → xM → Option xR
theorem xsC_use {tab : List xMe} {call : xClT} {k : xKt} {me : xMe} {fl lf op a pc : Nat} {L : xL} {st : List Value} {M : xM} {r : xR} (h : xsC tab call k me fl lf op a pc L st M = some r) :
    ∃ (f l : Nat) (As : List Value) (rc : xR), call a f l As M = some rc ∧ ∀ call' : xClT, call' a f l As M = some rc → xuse r (fun k => xsC tab call' k me fl lf op a pc L st M) k := by
  unfold xsC at h
  unfold xsC
  split at h
  · cases h
  · rename_i me' hme
    try simp only [hme]
    split at h
    · cases h
    · rename_i q hq
      try simp only [hq]
      split at h
      · rename_i hc
        try simp only [if_pos hc]
        cases hr : call a (fl - 1) (lf - (19 + xmL me')) q.1 M with
        | none => rw [hr] at h; cases h
        | some rc =>
          rw [hr] at h
          refine ⟨_, _, _, rc, hr, fun call' h' => ?_⟩
          try simp only [h']
          exact xsB_use h
      · cases h
theorem xstep_use {tab : List xMe} {sx : xSx} {call : xClT} {k : xKt} {me : xMe} {fl lf pc : Nat} {L : xL} {st : List Value} {M : xM} {r : xR} (h : xstep tab sx call k me fl lf pc L st M = some r) :
    (∀ call' : xClT, xuse r (fun k => xstep tab sx call' k me fl lf pc L st M) k) ∨ ∃ (a f l : Nat) (As : List Value) (rc : xR), call a f l As M = some rc ∧ ∀ call' : xClT, call' a f l As M = some rc → xuse r (fun k => xstep tab sx call' k me fl lf pc L st M) k := by
  unfold xstep at h
  unfold xstep
  cases hq : (xmI me)[pc]? with
  | none => rw [hq] at h; cases h
  | some q =>
    obtain ⟨op, a, b, i, z⟩ := q
    rw [hq] at h
    dsimp only at h ⊢
    by_cases h1 : op < 100
    · simp only [if_pos h1] at h ⊢; exact Or.inl (fun _ => xs1_use h)
    simp only [if_neg h1] at h ⊢
    by_cases h2 : op < 200
    · simp only [if_pos h2] at h ⊢; exact Or.inl (fun _ => xs2_use h)
    simp only [if_neg h2] at h ⊢
    by_cases h3 : op < 250
    · simp only [if_pos h3] at h ⊢; exact Or.inl (fun _ => xs3_use h)
    simp only [if_neg h3] at h ⊢
    by_cases h4 : op < 300
    · simp only [if_pos h4] at h ⊢; exact Or.inl (fun _ => xs4_use h)
    simp only [if_neg h4] at h ⊢
    by_cases h5 : op = 300
    · simp only [if_pos h5] at h ⊢; exact Or.inl (fun _ => Or.inl (fun _ => h))
    simp only [if_neg h5] at h ⊢
    by_cases h6 : op = 310
    · simp only [if_pos h6] at h ⊢; exact Or.inl (fun _ => xsW_use h)
    simp only [if_neg h6] at h ⊢
    by_cases h7 : op = 320
    · simp only [if_pos h7] at h ⊢; exact Or.inl (fun _ => Or.inl (fun _ => h))
    simp only [if_neg h7] at h ⊢
    by_cases h8 : op < 340
    · simp only [if_pos h8] at h ⊢
      obtain ⟨f, l, As, rc, g1, g2⟩ := xsC_use h
      exact Or.inr ⟨a, f, l, As, rc, g1, g2⟩
    simp only [if_neg h8] at h
    cases h
theorem xuse_up {r : xR} {S : xKt → Option xR} {k k' : xKt} (h : xuse r S k) (hk : ∀ pc L st M, k pc L st M = some r → k' pc L st M = some r) : S k' = some r := by
  rcases h with h | ⟨pc', L', st', M', h1, h2⟩
  · exact h k'
  · exact h2 k' (hk _ _ _ _ h1)
theorem xstep_mono {tab : List xMe} {sx : xSx} {call call' : xClT} {k k' : xKt} {me : xMe} {fl lf pc : Nat} {L : xL} {st : List Value} {M : xM} {r : xR} (hk : ∀ pc L st M, k pc L st M = some r → k' pc L st M = some r) (hc : ∀ a f l As M r, call a f l As M = some r → call' a f l As M = some r)
    (h : xstep tab sx call k me fl lf pc L st M = some r) : xstep tab sx call' k' me fl lf pc L st M = some r := by
  rcases xstep_use h with h | ⟨a, f, l, As, rc, h1, h2⟩
  · exact xuse_up (h call') hk
  · exact xuse_up (h2 call' (hc _ _ _ _ _ _ h1)) hk
theorem xcl2_up {tab : List xMe} {f f' : Nat → Nat → xL → List Value → xM → Option xR} (hf : ∀ y pc L st M r, f y pc L st M = some r → f' y pc L st M = some r) (y' : Nat) (As : List Value) (M' : xM) (r : xR) (h : xcl2 tab f y' As M' = some r) : xcl2 tab f' y' As M' = some r := by
  unfold xcl2 at *
  split at h
  · cases h
  · exact hf _ _ _ _ _ _ h
theorem xrun2_succ {tab : List xMe} {sx : xSx} : ∀ (n y pc : Nat) (L : xL) (st : List Value) (M : xM) (r : xR), xrun2 tab sx n y pc L st M = some r → xrun2 tab sx (n + 1) y pc L st M = some r := by
  intro n
  induction n with
  | zero => intro y pc L st M r h; cases h
  | succ n ih =>
    intro y pc L st M r h
    rw [xrun2] at h
    rw [xrun2]
    cases hy : tab[y]? with
    | none => rw [hy] at h; cases h
    | some me =>
      rw [hy] at h
      exact xstep_mono (fun pc L st M h => ih _ _ _ _ _ _ h) (fun a f l As M r h => xcl2_up ih _ _ _ _ h) h
theorem xrun2_le {tab : List xMe} {sx : xSx} {n m : Nat} (hnm : n ≤ m) {y pc : Nat} {L : xL} {st : List Value} {M : xM} {r : xR} (h : xrun2 tab sx n y pc L st M = some r) : xrun2 tab sx m y pc L st M = some r := by
  induction hnm with
  | refl => exact h
  | step _ ih => exact xrun2_succ _ _ _ _ _ _ _ ih
noncomputable def X (tab : List xMe) (sx : xSx) (y pc : Nat) (L : xL) (st : List Value) (M : xM) : Option xR := @dite _ (∃ r : xR, ∃ n, xrun2 tab sx n y pc L st M = some r) (Classical.propDecidable _) (fun h => some h.choose) (fun _ => none)
theorem X_iff {tab : List xMe} {sx : xSx} {y pc : Nat} {L : xL} {st : List Value} {M : xM} {r : xR} : X tab sx y pc L st M = some r ↔ ∃ n, xrun2 tab sx n y pc L st M = some r := by
  unfold X
  by_cases h : ∃ r : xR, ∃ n, xrun2 tab sx n y pc L st M = some r
  · rw [dif_pos h]
    obtain ⟨n, hn⟩ := h.choose_spec
    constructor
    · intro e
      exact ⟨n, hn.trans e⟩
    · rintro ⟨m, hm⟩
      exact ((xrun2_le (Nat.le_max_left n m) hn).symm.trans (xrun2_le (Nat.le_max_right n m) hm))
  · rw [dif_neg h]
    constructor
    · intro e; cases e
    · intro e; exact absurd ⟨r, e⟩ h
theorem X_fix (tab : List xMe) (sx : xSx) (y pc : Nat) (L : xL) (st : List Value) (M : xM) : X tab sx y pc L st M = match tab[y]? with
    | none => none
    | some me => xstep tab sx (fun y' _ _ As M' => xcl2 tab (X tab sx) y' As M') (fun pc' L' st' M' => X tab sx y pc' L' st' M') me 1000 1000 pc L st M := by
  apply Option.ext
  intro r
  rw [X_iff]
  constructor
  · rintro ⟨n, hn⟩
    cases n with
    | zero => cases hn
    | succ n =>
      rw [xrun2] at hn
      cases hy : tab[y]? with
      | none => rw [hy] at hn; cases hn
      | some me =>
        rw [hy] at hn
        exact xstep_mono (fun pc L st M h => X_iff.mpr ⟨n, h⟩) (fun a f l As M r h => xcl2_up (fun y pc L st M r h => X_iff.mpr ⟨n, h⟩) _ _ _ _ h) hn
  · intro h
    cases hy : tab[y]? with
    | none => rw [hy] at h; cases h
    | some me =>
      rw [hy] at h
      have key : ∀ (N : Nat) (call' : xClT), (call' = fun y' _ _ As M' => xcl2 tab (xrun2 tab sx N) y' As M') → xuse r (fun k => xstep tab sx call' k me 1000 1000 pc L st M) (fun pc' L' st' M' => X tab sx y pc' L' st' M') → ∃ n, xrun2 tab sx n y pc L st M = some r := by
        intro N call' hc hu
        subst hc
        rcases hu with hu | ⟨pc', L', st', M', h1, h2⟩
        · refine ⟨N + 1, ?_⟩
          rw [xrun2, hy]
          exact hu _
        · obtain ⟨n, hn⟩ := X_iff.mp h1
          refine ⟨max N n + 1, ?_⟩
          rw [xrun2, hy]
          have h3 := h2 (fun pc' L' st' M' => xrun2 tab sx (max N n) y pc' L' st' M') (xrun2_le (Nat.le_max_right N n) hn)
          exact xstep_mono (fun pc L st M h => h) (fun a f l As M r h => xcl2_up (fun y pc L st M r h => xrun2_le (Nat.le_max_left N n) h) _ _ _ _ h) h3
      rcases xstep_use h with hu | ⟨a, f, l, As, rc, h1, h2⟩
      · exact key 0 _ rfl (hu _)
      · try dsimp only at h1
        unfold xcl2 at h1
        split at h1
        · cases h1
        · rename_i me' hme
          obtain ⟨N, hN⟩ := X_iff.mp h1
          refine key N _ rfl (h2 _ ?_)
          unfold xcl2
          rw [hme]
          exact hN
/-! the room: what a method needs of frames and locals, by a table -/
def xnd1 (tab : List xMe) (nd : List (Nat × Nat)) (me : xMe) (q : Nat × Nat) : Bool := (xmI me).all (fun w => (!(250 ≤ w.1 && w.1 < 300) || (5 ≤ q.1 && 128 ≤ q.2)) && (!(w.1 == 320) || (6 ≤ q.1 && 128 ≤ q.2)) && (!(300 < w.1 && w.1 != 310 && w.1 != 320 && w.1 < 340) || match tab[w.2.1]?, nd[w.2.1]? with
  | some me', some q' => q'.1 + 1 ≤ q.1 && q'.2 + 19 + xmL me' ≤ q.2
  | _, _ => false))
theorem xrun_of2 {tab : List xMe} {sx : xSx} {nd : List (Nat × Nat)} (hn : ∀ (y : Nat) (me : xMe) (q : Nat × Nat), tab[y]? = some me → nd[y]? = some q → xnd1 tab nd me q = true) :
    ∀ (n y fl lf pc : Nat) (L : xL) (st : List Value) (M : xM) (r : xR) (q : Nat × Nat), nd[y]? = some q → q.1 ≤ fl → q.2 ≤ lf → xrun2 tab sx n y pc L st M = some r → xrun tab sx n y fl lf pc L st M = some r := by
  intro n
  induction n with
  | zero => intro y fl lf pc L st M r q _ _ _ h; cases h
  | succ n ih =>
    intro y fl lf pc L st M r q hq hf hl h
    rw [xrun2] at h
    rw [xrun]
    cases hy : tab[y]? with
    | none => rw [hy] at h; cases h
    | some me =>
      rw [hy] at h
      refine xstep_up (fun pc L st M h => ih _ _ _ _ _ _ _ _ _ hq hf hl h) (fun op a b i z hw => ?_) h
      have h1 := List.all_eq_true.mp (hn y me q hy hq) _ (List.mem_of_getElem? hw)
      simp only [Bool.and_eq_true, Bool.or_eq_true, Bool.not_eq_true', Bool.and_eq_false_iff, decide_eq_true_eq, decide_eq_false_iff_not, beq_eq_false_iff_ne, bne_eq_false_iff_eq] at h1
      obtain ⟨⟨g1, g2⟩, g3⟩ := h1
      refine ⟨fun u1 u2 => ?_, fun u1 => ?_, fun u1 u2 u3 u4 me' hme => ?_⟩
      · rcases g1 with g1 | g1
        · omega
        · exact ⟨by omega, by omega⟩
      · rcases g2 with g2 | g2
        · exact absurd u1 g2
        · exact ⟨by omega, by omega⟩
      · rcases g3 with g3 | g3
        · omega
        · rw [hme] at g3
          cases hna : nd[a]? with
          | none => rw [hna] at g3; cases g3
          | some q' =>
            rw [hna] at g3
            simp only [Bool.and_eq_true, decide_eq_true_eq] at g3
            refine ⟨by omega, by omega, fun As M r h => ?_⟩
            unfold xcl2 at h
            rw [hme] at h ⊢
            exact ih _ _ _ _ _ _ _ _ _ hna (by omega) (by omega) h
/-! THE ROOM: what each method needs of frames and locals (printed), and that the tables keep to it. -/
def xndl : List (Nat × Nat) := [(0, 0), (8, 189), (1, 22), (9, 216), (6, 148), (7, 149), (7, 149), (7, 149), (7, 150), (7, 150), (7, 150), (0, 0), (7, 169), (7, 169), (1, 26), (6, 148), (7, 149), (0, 0), (1, 27), (9, 219), (9, 219), (8, 195), (8, 195), (9, 219), (9, 220), (8, 195), (9, 219), (9, 219), (8, 191), (8, 191), (8, 191), (8, 191), (8, 191), (8, 191), (8, 191), (3, 67), (0, 0), (7, 171), (7, 171), (7, 171), (8, 172), (7, 171), (6, 128), (6, 128), (6, 148), (6, 128), (0, 0), (0, 0), (0, 0), (5, 128), (0, 0), (0, 0), (0, 0), (0, 0), (0, 0), (0, 0), (1, 24), (1, 24), (1, 24), (0, 0), (0, 0), (0, 0), (0, 0), (0, 0), (0, 0), (0, 0), (0, 0), (1, 25), (1, 25), (0, 0), (1, 22), (0, 0), (1, 25), (1, 25), (2, 45), (0, 0), (0, 0), (3, 66), (5, 128), (4, 86), (4, 86), (0, 0), (6, 150), (5, 109), (6, 150), (7, 170), (4, 86), (8, 202), (9, 222), (5, 128), (1, 23), (0, 0), (1, 22), (2, 44), (3, 67), (5, 128), (1, 23), (1, 22), (1, 22), (5, 128), (1, 23), (6, 153), (7, 177), (5, 128), (6, 148), (7, 169), (1, 22), (2, 46), (2, 46), (0, 0), (1, 25), (2, 48), (2, 46), (1, 25), (2, 46), (0, 0), (6, 148), (0, 0), (7, 170), (0, 0), (2, 46), (7, 170), (1, 24), (6, 148), (2, 46), (1, 22), (1, 22), (2, 45), (8, 200), (9, 222), (8, 200), (7, 177), (7, 177), (9, 222), (10, 247), (10, 247), (10, 247), (8, 200), (2, 45), (3, 68), (3, 68), (3, 68), (3, 68), (3, 68), (3, 68), (3, 68), (0, 0), (1, 21), (2, 48), (3, 72), (1, 25), (1, 24), (1, 25), (1, 25), (7, 169), (5, 128), (0, 0), (6, 148), (6, 149), (0, 0), (0, 0), (0, 0), (0, 0), (0, 0), (0, 0), (5, 128), (1, 22), (0, 0), (2, 44), (8, 195), (7, 173), (1, 20), (3, 63), (2, 40), (2, 42), (5, 128), (2, 40), (6, 151), (0, 0), (1, 22), (5, 128), (5, 128), (5, 128), (1, 20), (0, 0), (0, 0), (1, 20), (2, 40), (5, 128), (0, 0), (5, 128), (0, 0), (2, 46), (1, 22), (1, 21), (0, 0), (7, 169), (0, 0), (8, 194), (6, 152), (4, 87), (7, 173), (3, 64), (6, 152), (3, 64), (3, 64), (0, 0), (5, 128), (2, 44), (1, 23), (1, 20), (0, 0), (0, 0), (10, 238), (7, 169), (8, 172), (8, 172), (8, 174), (8, 172), (8, 174), (8, 172), (8, 191), (8, 190), (8, 171), (10, 240), (10, 241), (10, 244), (10, 244), (10, 244), (10, 240), (9, 214), (9, 215), (9, 214), (9, 214), (9, 214), (9, 214), (9, 214), (8, 193), (8, 192), (11, 272)]
def xndf (y : Nat) : Bool := match xtab[y]?, xndl[y]? with
  | some me, some q => xnd1 xtab xndl me q
  | _, _ => true
theorem xnd_all : (List.range 240).all xndf = true := by decide +kernel
theorem xnd_ok (y : Nat) (me : xMe) (q : Nat × Nat) (h1 : xtab[y]? = some me) (h2 : xndl[y]? = some q) : xnd1 xtab xndl me q = true := by
  have h3 := (List.getElem?_eq_some_iff.mp h1).1
  rw [xtab_len] at h3
  have h4 := List.all_eq_true.mp xnd_all y (List.mem_range.mpr h3)
  unfold xndf at h4
  rw [h1, h2] at h4
  exact h4
