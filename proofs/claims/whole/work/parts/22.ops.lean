/-! THE STEP'S EQUATIONS, by kind of instruction. -/
def kB1 (o : Option (Nat × xL × List Value)) (f : Nat → xL → List Value → Option xR) : Option xR := match o with
  | none => none
  | some r => f r.1 r.2.1 r.2.2
def kB (o : Option (xH × List Value)) (f : xH → List Value → Option xR) : Option xR := match o with
  | none => none
  | some r => f r.1 r.2
def kB3 (o : Option (xM × List Value)) (f : xM → List Value → Option xR) : Option xR := match o with
  | none => none
  | some r => f r.1 r.2
def kW (o : Option (Nat × List Value)) (f : Nat → List Value → Option xR) : Option xR := match o with
  | none => none
  | some r => f r.1 r.2
def kX (o : Option (Option Value)) (M : xM) : Option xR := match o with
  | none => none
  | some v => some (.inl v, M)
def kV (h : xH) (r ci : Nat) (k : Option xR) : Option xR := match h r with
  | some (.inr (c, _)) => if c = ci then k else none
  | _ => none
/-- behind a call: on with its value, or its exception further out -/
def kR (rc : Option xR) (f : Option Value → xM → Option xR) : Option xR := match rc with
  | none => none
  | some (.inl v, M') => f v M'
  | some (.inr e, M') => some (.inr e, M')
def kR0 (rc : Option xR) (f : Option Value → xM → Option xR) : Option xR := match rc with
  | some (.inl v, M') => f v M'
  | _ => none
/-- behind a call inside handlers -/
def kH (hs : List (Nat × Nat × Nat × Nat)) (rc : Option xR) (f : Option Value → xM → Option xR) (g : Nat → Nat → xM → Option xR) : Option xR := match rc with
  | none => none
  | some (.inl v, M') => f v M'
  | some (.inr e, M') => match hs.find? (fun q => q.1 == e) with
    | none => none
    | some q => g q.2.1 q.2.2.1 M'
section OPS
variable {sx : xSx} {y pc op a b i : Nat} {z : Int} {me me' : xMe} {L : xL} {st rest vs : List Value} {M : xM}
theorem o1 {k : xK1} {d : xD1} (hy : xtab[y]? = some me) (hi : (xmI me)[pc]? = some (op, a, b, i, z)) (h1 : op < 100) (hq : x1ops[op]? = some (k, d)) : X xtab sx y pc L st M = kB1 (k a b i z pc L st) (fun pc' L' s' => X xtab sx y pc' L' s' M) := by
  rw [X_fix, hy]
  dsimp only
  unfold xstep
  rw [hi]
  dsimp only
  rw [if_pos h1]
  unfold xs1
  rw [hq]
  rfl
theorem o2 {k : xK2} {d : xD2} {n : Nat} (hy : xtab[y]? = some me) (hi : (xmI me)[pc]? = some (op, a, b, i, z)) (h1 : ¬ op < 100) (h2 : op < 200) (hq : x2ops[op - 100]? = some (k, d)) (hn : pc + (d (xmO me) (xmY me).name a b i z pc).2.1 = n) : X xtab sx y pc L st M = kB (k a b M.1 st) (fun h s => X xtab sx y n L s (h, M.2)) := by
  rw [X_fix, hy]
  dsimp only
  unfold xstep
  rw [hi]
  dsimp only
  rw [if_neg h1, if_pos h2]
  unfold xs2
  rw [hq]
  dsimp only
  rw [hn]
  rfl
theorem o3 {k : xK3} {d : xD2} {n : Nat} (hy : xtab[y]? = some me) (hi : (xmI me)[pc]? = some (op, a, b, i, z)) (h1 : ¬ op < 200) (h2 : op < 250) (hq : x3ops[op - 200]? = some (k, d)) (hn : pc + (d (xmO me) (xmY me).name a b i z pc).2.1 = n) : X xtab sx y pc L st M = kB3 (k sx a b i z M st) (fun M' s => X xtab sx y n L s M') := by
  rw [X_fix, hy]
  dsimp only
  unfold xstep
  rw [hi]
  dsimp only
  rw [if_neg (by omega), if_neg h1, if_pos h2]
  unfold xs3
  rw [hq]
  dsimp only
  rw [hn]
  rfl
theorem o4 {k : xK4} {d : xD2} {n : Nat} (hy : xtab[y]? = some me) (hi : (xmI me)[pc]? = some (op, a, b, i, z)) (h1 : ¬ op < 250) (h2 : op < 300) (hq : x4ops[op - 250]? = some (k, d)) (hn : pc + (d (xmO me) (xmY me).name a b i z pc).2.1 = n) : X xtab sx y pc L st M = if xsum st ≤ 16 then kB (k sx a b i z M.1 st) (fun h s => X xtab sx y n L s (h, M.2)) else none := by
  rw [X_fix, hy]
  dsimp only
  unfold xstep
  rw [hi]
  dsimp only
  rw [if_neg (by omega), if_neg (by omega), if_neg h1, if_pos h2]
  unfold xs4
  rw [hq]
  dsimp only
  rw [hn]
  by_cases hs : xsum st ≤ 16
  · rw [if_pos hs, if_pos ⟨hs, by decide, by decide⟩]
    rfl
  · rw [if_neg hs, if_neg (fun h => hs h.1)]
theorem oR (hy : xtab[y]? = some me) (hi : (xmI me)[pc]? = some (300, a, b, i, z)) : X xtab sx y pc L st M = kX (xretv a st) M := by
  rw [X_fix, hy]
  dsimp only
  unfold xstep
  rw [hi]
  rfl
theorem oW (hy : xtab[y]? = some me) (hi : (xmI me)[pc]? = some (310, a, b, i, z)) : X xtab sx y pc L st M = kW (xsw (xmS me) a st) (fun pc' s' => X xtab sx y pc' L s' M) := by
  rw [X_fix, hy]
  dsimp only
  unfold xstep
  rw [hi]
  rfl
theorem oT (hy : xtab[y]? = some me) (hi : (xmI me)[pc]? = some (320, a, b, i, z)) : X xtab sx y pc L st M = if xsum st ≤ 16 then some (.inr a, (M.1, 0, M.2.2.1 + 1, M.2.2.2 + 6)) else none := by
  rw [X_fix, hy]
  dsimp only
  unfold xstep
  rw [hi]
  show xsT 1000 1000 a st M = _
  unfold xsT
  by_cases hs : xsum st ≤ 16
  · rw [if_pos hs, if_pos ⟨by decide, by decide, hs⟩]
  · rw [if_neg hs, if_neg (fun h => hs h.2.2)]
theorem xcarg_V {n Xc r : Nat} (hn : vs.length = n) : xcarg 330 n Xc M (vs.reverse ++ .ref r :: rest) = (match M.1 r with
    | some (.inr (ci, _)) => if ci = Xc then some (.ref r :: vs, rest) else none
    | _ => none) := by
  unfold xcarg
  have hl : (vs.reverse).length = n := by simp [hn]
  rw [if_neg (by simp; omega), if_neg (by decide), List.take_left' hl, List.drop_left' hl]
  simp
  rfl
theorem xcarg_I {o n Xc r : Nat} (hn : vs.length = n) (ho : ¬ (o = 331 ∨ o = 333 ∨ o = 335)) (ho2 : ¬ o = 330) : xcarg o n Xc M (vs.reverse ++ .ref r :: rest) = some (.ref r :: vs, rest) := by
  unfold xcarg
  have hl : (vs.reverse).length = n := by simp [hn]
  rw [if_neg (by simp; omega), if_neg ho, List.take_left' hl, List.drop_left' hl]
  simp [ho2]
theorem xcarg_S {o n Xc : Nat} (hn : vs.length = n) (ho : o = 331 ∨ o = 333 ∨ o = 335) : xcarg o n Xc M (vs.reverse ++ rest) = some (vs, rest) := by
  unfold xcarg
  have hl : (vs.reverse).length = n := by simp [hn]
  rw [if_neg (by simp; omega), if_pos ho, List.take_left' hl, List.drop_left' hl]
  simp
def kC (ml : Nat) (rest As : List Value) (k : Option xR) : Option xR := if xsum rest ≤ 8 ∧ (xent As).length ≤ ml then k else none
theorem xsC_kC {call : xClT} {k : xKt} {As : List Value} (ha : xtab[a]? = some me') (hc : xcarg op (xmN me') (xmX me') M st = some (As, rest)) : xsC xtab call k me 1000 1000 op a pc L st M = if 19 + xmL me' ≤ 1000 then kC (xmL me') rest As (xsB k me op pc L rest (call a 999 (1000 - (19 + xmL me')) As M)) else none := by
  unfold xsC
  rw [ha]
  dsimp only
  rw [hc]
  dsimp only
  unfold kC
  by_cases h1 : 19 + xmL me' ≤ 1000
  · rw [if_pos h1]
    by_cases h2 : xsum rest ≤ 8 ∧ (xent As).length ≤ xmL me'
    · rw [if_pos h2, if_pos ⟨by decide, h1, h2.1, h2.2⟩]
    · rw [if_neg h2, if_neg (fun h => h2 ⟨h.2.2.1, h.2.2.2⟩)]
  · rw [if_neg h1, if_neg (fun h => h1 h.2.1)]
theorem X_xsC (hy : xtab[y]? = some me) (hi : (xmI me)[pc]? = some (op, a, b, i, z)) (h1 : 320 < op) (h2 : op < 340) : X xtab sx y pc L st M = xsC xtab (fun y' _ _ As M' => xcl2 xtab (X xtab sx) y' As M') (fun pc' L' st' M' => X xtab sx y pc' L' st' M') me 1000 1000 op a pc L st M := by
  rw [X_fix, hy]
  dsimp only
  unfold xstep
  rw [hi]
  dsimp only
  rw [if_neg (by omega), if_neg (by omega), if_neg (by omega), if_neg (by omega), if_neg (by omega), if_neg (by omega), if_neg (by omega), if_pos h2]
theorem xcl2_X {As : List Value} (ha : xtab[a]? = some me') : xcl2 xtab (X xtab sx) a As M = X xtab sx a 0 (xentry (xmL me') As) [] M := by
  unfold xcl2
  rw [ha]
theorem xsB_kR {k : xKt} {rc : Option xR} (ho : op = 330 ∨ op = 331) (hh : xmH me = []) : xsB k me op pc L rest rc = kR rc (fun v M' => k (pc + 3) L (v.toList ++ rest) M') := by
  unfold xsB kR
  cases rc with
  | none => rfl
  | some r =>
    obtain ⟨ro, M'⟩ := r
    cases ro with
    | inl v => rfl
    | inr e =>
      dsimp only
      rw [if_pos ho, hh]
theorem xsB_kR0 {k : xKt} {rc : Option xR} (ho : ¬ (op = 330 ∨ op = 331)) : xsB k me op pc L rest rc = kR0 rc (fun v M' => k (pc + 3) L (v.toList ++ rest) M') := by
  unfold xsB kR0
  cases rc with
  | none => rfl
  | some r =>
    obtain ⟨ro, M'⟩ := r
    cases ro with
    | inl v => rfl
    | inr e =>
      dsimp only
      rw [if_neg ho]
theorem xsB_kH {k : xKt} {rc : Option xR} (ho : op = 330 ∨ op = 331) (hh : xmH me ≠ []) : xsB k me op pc L rest rc = kH (xmC me) rc (fun v M' => k (pc + 3) L (v.toList ++ rest) M') (fun p j M' => k p ((xcl L j).set j none) [] M') := by
  unfold xsB kH
  cases rc with
  | none => rfl
  | some r =>
    obtain ⟨ro, M'⟩ := r
    cases ro with
    | inl v => rfl
    | inr e =>
      dsimp only
      rw [if_pos ho]
      cases hm : xmH me with
      | nil => exact absurd hm hh
      | cons hd tl => rfl
theorem oV {r : Nat} (hy : xtab[y]? = some me) (hi : (xmI me)[pc]? = some (330, a, b, i, z)) (ha : xtab[a]? = some me') (hn : vs.length = xmN me') (hl : 19 + xmL me' ≤ 1000) (hh : xmH me = []) :
    X xtab sx y pc L (vs.reverse ++ .ref r :: rest) M = kV M.1 r (xmX me') (kC (xmL me') rest (.ref r :: vs) (kR (X xtab sx a 0 (xentry (xmL me') (.ref r :: vs)) [] M) (fun v M' => X xtab sx y (pc + 3) L (v.toList ++ rest) M'))) := by
  rw [X_xsC hy hi (by decide) (by decide)]
  have h := xcarg_V (Xc := xmX me') (M := M) (vs := vs) (rest := rest) (r := r) hn
  unfold kV
  cases hM : M.1 r with
  | none =>
    rw [hM] at h
    unfold xsC
    rw [ha]
    dsimp only
    rw [h]
  | some c =>
    rw [hM] at h
    cases c with
    | inl x =>
      unfold xsC
      rw [ha]
      dsimp only
      rw [h]
    | inr o =>
      obtain ⟨ci, fs⟩ := o
      dsimp only at h ⊢
      by_cases hc : ci = xmX me'
      · rw [if_pos hc] at h ⊢
        rw [xsC_kC ha h, if_pos hl, xcl2_X ha, xsB_kR (Or.inl rfl) hh]
      · rw [if_neg hc] at h ⊢
        unfold xsC
        rw [ha]
        dsimp only
        rw [h]
theorem oVH {r : Nat} (hy : xtab[y]? = some me) (hi : (xmI me)[pc]? = some (330, a, b, i, z)) (ha : xtab[a]? = some me') (hn : vs.length = xmN me') (hl : 19 + xmL me' ≤ 1000) (hh : xmH me ≠ []) :
    X xtab sx y pc L (vs.reverse ++ .ref r :: rest) M = kV M.1 r (xmX me') (kC (xmL me') rest (.ref r :: vs) (kH (xmC me) (X xtab sx a 0 (xentry (xmL me') (.ref r :: vs)) [] M) (fun v M' => X xtab sx y (pc + 3) L (v.toList ++ rest) M') (fun p j M' => X xtab sx y p ((xcl L j).set j none) [] M'))) := by
  rw [X_xsC hy hi (by decide) (by decide)]
  have h := xcarg_V (Xc := xmX me') (M := M) (vs := vs) (rest := rest) (r := r) hn
  unfold kV
  cases hM : M.1 r with
  | none =>
    rw [hM] at h
    unfold xsC
    rw [ha]
    dsimp only
    rw [h]
  | some c =>
    rw [hM] at h
    cases c with
    | inl x =>
      unfold xsC
      rw [ha]
      dsimp only
      rw [h]
    | inr o =>
      obtain ⟨ci, fs⟩ := o
      dsimp only at h ⊢
      by_cases hc : ci = xmX me'
      · rw [if_pos hc] at h ⊢
        rw [xsC_kC ha h, if_pos hl, xcl2_X ha, xsB_kH (Or.inl rfl) hh]
      · rw [if_neg hc] at h ⊢
        unfold xsC
        rw [ha]
        dsimp only
        rw [h]
theorem oS (hy : xtab[y]? = some me) (hi : (xmI me)[pc]? = some (331, a, b, i, z)) (ha : xtab[a]? = some me') (hn : vs.length = xmN me') (hl : 19 + xmL me' ≤ 1000) (hh : xmH me = []) :
    X xtab sx y pc L (vs.reverse ++ rest) M = kC (xmL me') rest vs (kR (X xtab sx a 0 (xentry (xmL me') vs) [] M) (fun v M' => X xtab sx y (pc + 3) L (v.toList ++ rest) M')) := by
  rw [X_xsC hy hi (by decide) (by decide), xsC_kC ha (xcarg_S hn (Or.inl rfl)), if_pos hl, xcl2_X ha, xsB_kR (Or.inr rfl) hh]
theorem oS0 (hy : xtab[y]? = some me) (hi : (xmI me)[pc]? = some (op, a, b, i, z)) (ho : op = 333 ∨ op = 335) (ha : xtab[a]? = some me') (hn : vs.length = xmN me') (hl : 19 + xmL me' ≤ 1000) :
    X xtab sx y pc L (vs.reverse ++ rest) M = kC (xmL me') rest vs (kR0 (X xtab sx a 0 (xentry (xmL me') vs) [] M) (fun v M' => X xtab sx y (pc + 3) L (v.toList ++ rest) M')) := by
  rw [X_xsC hy hi (by omega) (by omega), xsC_kC ha (xcarg_S hn (by omega)), if_pos hl, xcl2_X ha, xsB_kR0 (by omega)]
theorem oI {r : Nat} (hy : xtab[y]? = some me) (hi : (xmI me)[pc]? = some (op, a, b, i, z)) (ho : op = 332 ∨ op = 334) (ha : xtab[a]? = some me') (hn : vs.length = xmN me') (hl : 19 + xmL me' ≤ 1000) :
    X xtab sx y pc L (vs.reverse ++ .ref r :: rest) M = kC (xmL me') rest (.ref r :: vs) (kR0 (X xtab sx a 0 (xentry (xmL me') (.ref r :: vs)) [] M) (fun v M' => X xtab sx y (pc + 3) L (v.toList ++ rest) M')) := by
  rw [X_xsC hy hi (by omega) (by omega), xsC_kC ha (xcarg_I hn (by omega) (by omega)), if_pos hl, xcl2_X ha, xsB_kR0 (by omega)]
end OPS
