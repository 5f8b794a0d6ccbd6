section SC1
variable {n k p i h z m u f s c d x j e : Nat} {S S' T T' U V R : St} {q : Int32} {v w v' w' : Int64} {l l' : List Nat} {cb b : Nat → Int32} {X Y : Int32} {f' : Int32 → Bool}
/-! THE READERS' TOKENS -/
theorem nmR_snoc : ∀ (l : List Nat) a, nmR (l ++ [c]) a = 32 * nmR l a + c := by
  intro l
  induction l with
  | nil => intro a; rfl
  | cons d l ih => intro a; exact ih (32 * a + d)
theorem nmR_rev : ∀ l : List Nat, nmR l.reverse 0 = nmC l 0 := by
  intro l
  induction l with
  | nil => rfl
  | cons c l ih => rw [List.reverse_cons, nmR_snoc, ih, nmC_cons]; omega
theorem nmC_inj : ∀ l l' : List Nat, Ltr l → Ltr l' → nmC l 0 = nmC l' 0 → l = l' := by
  intro l
  induction l with
  | nil =>
    intro l' _ h' e
    cases l' with
    | nil => rfl
    | cons c l' =>
      have h2 := Ltr_h h'
      rw [nmC_cons, show nmC [] 0 = 0 from rfl] at e
      omega
  | cons d l ih =>
    intro l' h h' e
    have h1 := Ltr_h h
    cases l' with
    | nil => rw [nmC_cons, show nmC [] 0 = 0 from rfl] at e; omega
    | cons c l' =>
      have h2 := Ltr_h h'
      rw [nmC_cons, nmC_cons] at e
      have e1 : d = c := by omega
      have e2 : nmC l 0 = nmC l' 0 := by omega
      rw [e1, ih l' (Ltr_t h) (Ltr_t h') e2]
theorem Ltr_rev (h : Ltr l) : Ltr l.reverse := fun c hc => h c (List.mem_reverse.mp hc)
theorem nmR_inj (h : Ltr l) (h' : Ltr l') (e : nmR l 0 = nmR l' 0) : l = l' := by
  have e1 := nmR_rev l.reverse
  have e2 := nmR_rev l'.reverse
  rw [List.reverse_reverse] at e1 e2
  rw [e1, e2] at e
  have := congrArg List.reverse (nmC_inj _ _ (Ltr_rev h) (Ltr_rev h') e)
  rwa [List.reverse_reverse, List.reverse_reverse] at this
theorem J_inj (hx : x < 2 ^ 63) (hd : d < 2 ^ 63) (e : Int64.ofNat x = Int64.ofNat d) : x = d := by
  have e2 := congrArg Int64.toInt e
  rw [J_ofNat hx, J_ofNat hd] at e2
  exact Int.ofNat.inj e2
theorem NmP_inj (h : NmP v w) (h' : NmP v' w') : (v = v') = (w = w') := by
  obtain ⟨l, h8, hL, hv, hw⟩ := h
  obtain ⟨l', h8', hL', hv', hw'⟩ := h'
  have a1 := p8 h8 (nmC_lt l hL)
  have a2 := p8 h8 (nmR_lt l hL)
  have a3 := p8 h8' (nmC_lt l' hL')
  have a4 := p8 h8' (nmR_lt l' hL')
  refine propext ⟨fun e => ?_, fun e => ?_⟩
  · rw [hv, hv'] at e
    rw [hw, hw', nmC_inj l l' hL hL' (J_inj (by omega) (by omega) e)]
  · rw [hw, hw'] at e
    rw [hv, hv', nmR_inj hL hL' (J_inj (by omega) (by omega) e)]
/-- bytes on both sides -/
def ByQ (X Y : Int32) : Prop := X = Y ∨ (X.toInt < 0 ∧ 128 ≤ Y.toInt)
def BQ (cb b : Nat → Int32) (e : Nat) : Prop := ∀ i, i < e → ByP (cb i) (b i)
theorem bAt_Q (h : BQ cb b e) : ByQ (bAt cb e p) (bAt b e p) := by
  unfold bAt
  by_cases hp9 : p < e
  · rw [if_pos hp9, if_pos hp9]
    rcases h p hp9 with h1 | h1
    · exact Or.inl h1.1
    · exact Or.inr ⟨h1.1, h1.2.1⟩
  · rw [if_neg hp9, if_neg hp9]
    exact Or.inl rfl
theorem bAt_m (h : BQ cb b e) : (bAt b e p = -1) = (e ≤ p) := by
  unfold bAt
  by_cases hp9 : p < e
  · rw [if_pos hp9]
    have h2 : 0 ≤ (b p).toInt := by
      rcases h p hp9 with h1 | h1
      · rw [← h1.1]; rw [h1.1]; exact h1.2.1
      · omega
    refine propext ⟨fun e1 => ?_, fun e1 => ?_⟩
    · rw [e1] at h2
      exact absurd h2 (by decide)
    · omega
  · rw [if_neg hp9]
    exact propext ⟨fun _ => by omega, fun _ => rfl⟩
theorem Q_dec (h : ByQ X Y) (hA : ∀ Z : Int32, Z.toInt < 0 → f' Z = false) (hB : ∀ Z : Int32, 128 ≤ Z.toInt → f' Z = false) : f' X = f' Y := by
  rcases h with h1 | h1
  · rw [h1]
  · rw [hA X h1.1, hB Y h1.2]
theorem bt_no {lo hi : Int32} (hlo : 0 ≤ lo.toInt) (hhi : hi.toInt < 128) : (∀ Z : Int32, Z.toInt < 0 → (decide (lo ≤ Z) && decide (Z ≤ hi)) = false) ∧ (∀ Z : Int32, 128 ≤ Z.toInt → (decide (lo ≤ Z) && decide (Z ≤ hi)) = false) := by
  refine ⟨fun Z hZ => ?_, fun Z hZ => ?_⟩
  · rw [decide_eq_false (fun e => by rw [leI] at e; omega), Bool.false_and]
  · rw [decide_eq_false (p := Z ≤ hi) (fun e => by rw [leI] at e; omega), Bool.and_false]
theorem Q_L (h : ByQ X Y) : isL X = isL Y := Q_dec (f' := isL) h (bt_no (lo := 97) (hi := 122) (by decide) (by decide)).1 (bt_no (lo := 97) (hi := 122) (by decide) (by decide)).2
theorem Q_D (h : ByQ X Y) : isD X = isD Y := Q_dec (f' := isD) h (bt_no (lo := 48) (hi := 57) (by decide) (by decide)).1 (bt_no (lo := 48) (hi := 57) (by decide) (by decide)).2
theorem Q_k {K : Int32} (hK : 0 ≤ K.toInt ∧ K.toInt < 128) (h : ByQ X Y) : (X = K) = (Y = K) := by
  rcases h with h1 | h1
  · rw [h1]
  · exact propext ⟨fun e => by rw [e] at h1; omega, fun e => by rw [e] at h1; omega⟩
theorem Q_W (h : ByQ X Y) : isW X = isW Y := by
  unfold isW
  rw [show decide (X = 32) = decide (Y = 32) from decide_eq_decide.mpr (Eq.to_iff (Q_k (by decide) h)), show decide (X = 10) = decide (Y = 10) from decide_eq_decide.mpr (Eq.to_iff (Q_k (by decide) h))]
theorem Q_eq (h : ByQ X Y) (hY : 0 ≤ X.toInt) : X = Y := by
  rcases h with h1 | h1
  · exact h1
  · omega
theorem rd_Q (h : BQ cb b e) : ∀ j p X, rdD cb e f p j X = rdD b e f p j X := by
  intro j
  induction j with
  | zero => intro p X; rfl
  | succ j ih =>
    intro p X
    have hq := bAt_Q (p := p) h
    rw [show rdD cb e f p (j + 1) X = if isD (bAt cb e p) then rdD cb e f (p + 1) j (if p < f + 5 then 10 * X + bAt cb e p - 48 else X) else (p, X) from rfl, show rdD b e f p (j + 1) X = if isD (bAt b e p) then rdD b e f (p + 1) j (if p < f + 5 then 10 * X + bAt b e p - 48 else X) else (p, X) from rfl, Q_D hq]
    by_cases hd : isD (bAt b e p) = true
    · rw [if_pos hd, if_pos hd]
      have hd2 := hd
      rw [← Q_D hq] at hd2
      unfold isD at hd2
      rw [Bool.and_eq_true] at hd2
      have h48 := of_decide_eq_true hd2.1
      rw [leI, show (48 : Int32).toInt = 48 from rfl] at h48
      rw [Q_eq hq (by omega)]
      exact ih _ _
    · rw [if_neg hd, if_neg hd]
theorem ws_Q (h : BQ cb b e) : ∀ j p, wsD cb e p j = wsD b e p j := by
  intro j
  induction j with
  | zero => intro p; rfl
  | succ j ih =>
    intro p
    rw [show wsD cb e p (j + 1) = if isW (bAt cb e p) then wsD cb e (p + 1) j else p from rfl, show wsD b e p (j + 1) = if isW (bAt b e p) then wsD b e (p + 1) j else p from rfl, Q_W (bAt_Q h), ih]
/-- a word on both sides -/
def Wl (b : Nat → Int32) (f p : Nat) (v w : Int64) : Prop := ∃ l : List Nat, l.length = min (p - f) 8 ∧ Ltr l ∧ v = Int64.ofNat (nmC l 0) ∧ w = Int64.ofNat (nmR l 0) ∧ ∀ i, i < l.length → b (f + i) = Int32.ofNat (l.getD i 0 + 96)
theorem Wl_0 : Wl b f f 0 0 := ⟨[], by rw [Nat.sub_self]; rfl, fun c hc => absurd hc List.not_mem_nil, rfl, rfl, fun i hi => absurd hi (Nat.not_lt_zero i)⟩
theorem isL_of (h : isL X = true) : ∃ c, 1 ≤ c ∧ c ≤ 26 ∧ X = Int32.ofNat (c + 96) := by
  unfold isL at h
  rw [Bool.and_eq_true] at h
  have h1 := of_decide_eq_true h.1
  have h2 := of_decide_eq_true h.2
  rw [leI, show (97 : Int32).toInt = 97 from rfl] at h1
  rw [leI, show (122 : Int32).toInt = 122 from rfl] at h2
  refine ⟨X.toInt.toNat - 96, by omega, by omega, ?_⟩
  apply Int32.toInt_inj.mp
  rw [oN_toInt (by omega)]
  omega
theorem nmC_snoc : ∀ (l : List Nat), nmC (l ++ [c]) 0 = nmC l 0 + 2 ^ (5 * l.length) * c := by
  intro l
  induction l with
  | nil => show c * 2 ^ 0 + 0 = 0 + 2 ^ (5 * 0) * c; rw [Nat.mul_zero, Nat.pow_zero]; omega
  | cons d l ih =>
    rw [List.cons_append, nmC_cons, nmC_cons, ih, List.length_cons, show 5 * (l.length + 1) = 5 + 5 * l.length by omega, Nat.pow_add, Nat.mul_assoc]
    generalize 2 ^ (5 * l.length) * c = z
    omega
theorem J_or (hx : x < 2 ^ s) (hs : s ≤ 35) (hc : c ≤ 26) : Int64.ofNat x ||| Int64.ofNat (2 ^ s * c) = Int64.ofNat (x + 2 ^ s * c) := by
  have h1 : 2 ^ s ≤ 2 ^ 35 := Nat.pow_le_pow_right (by decide) hs
  have h2 : 2 ^ s * c ≤ 2 ^ 35 * 26 := Nat.mul_le_mul h1 hc
  apply Int64.toBitVec_inj.mp
  apply BitVec.eq_of_toNat_eq
  rw [Int64.toBitVec_or, BitVec.toNat_or]
  show (x % 2 ^ 64) ||| (2 ^ s * c % 2 ^ 64) = (x + 2 ^ s * c) % 2 ^ 64
  rw [Nat.mod_eq_of_lt (by omega), Nat.mod_eq_of_lt (by omega), Nat.mod_eq_of_lt (by omega), Nat.add_comm, Nat.two_pow_add_eq_or_of_lt hx, Nat.or_comm]
theorem J_shl {a : Int64} (ha : a.toBitVec.smod 64 = BitVec.ofNat 64 s) (hs : s ≤ 35) (hc : c ≤ 26) : (Int64.ofNat c) <<< a = Int64.ofNat (2 ^ s * c) := by
  have h1 : 2 ^ s ≤ 2 ^ 35 := Nat.pow_le_pow_right (by decide) hs
  have h2 : 2 ^ s * c ≤ 2 ^ 35 * 26 := Nat.mul_le_mul h1 hc
  apply Int64.toBitVec_inj.mp
  apply BitVec.eq_of_toNat_eq
  rw [Int64.toBitVec_shiftLeft, ha]
  show (BitVec.shiftLeft (Int64.ofNat c).toBitVec (BitVec.ofNat 64 s).toNat).toNat = _
  rw [show BitVec.shiftLeft (Int64.ofNat c).toBitVec (BitVec.ofNat 64 s).toNat = (Int64.ofNat c).toBitVec <<< (BitVec.ofNat 64 s).toNat from rfl, BitVec.toNat_shiftLeft, BitVec.toNat_ofNat, Nat.mod_eq_of_lt (show s < 2 ^ 64 by omega)]
  show (c % 2 ^ 64) <<< s % 2 ^ 64 = 2 ^ s * c % 2 ^ 64
  rw [Nat.mod_eq_of_lt (show c < 2 ^ 64 by omega), Nat.shiftLeft_eq, Nat.mul_comm]
theorem wt_snoc (h8 : l.length < 8) (hL : Ltr l) (hc : 1 ≤ c ∧ c ≤ 26) : wtF (Int64.ofNat (nmC l 0)) (Int32.ofNat l.length) (Int32.ofNat (c + 96) - 97 + 1) = Int64.ofNat (nmC (l ++ [c]) 0) := by
  have h1 : nmC l 0 < 2 ^ (5 * l.length) := by
    have := nmC_lt l hL
    rwa [show (32 : Nat) = 2 ^ 5 from rfl, ← Nat.pow_mul] at this
  have e1 : Int32.ofNat (c + 96) - 97 + 1 = Int32.ofNat c := by
    rw [show (97 : Int32) = Int32.ofNat 97 from rfl, oN_sub (by omega), show (1 : Int32) = Int32.ofNat 1 from rfl, oN_add]
    congr 1
    omega
  unfold wtF
  rw [e1, I_j (by omega), J_shl (shA h8) (by omega) hc.2, J_or h1 (by omega) hc.2, nmC_snoc]
theorem Ltr_snoc (hL : Ltr l) (hc : 1 ≤ c ∧ c ≤ 26) : Ltr (l ++ [c]) := by
  intro d hd
  rcases List.mem_append.mp hd with h1 | h1
  · exact hL d h1
  · rw [List.mem_singleton.mp h1]; exact hc
theorem Wl_s (hW : Wl b f p v w) (hfp : f ≤ p) (hp9 : p < f + 8) (hc : 1 ≤ c ∧ c ≤ 26) (hb : b p = Int32.ofNat (c + 96)) : Wl b f (p + 1) (wtF v (Int32.ofNat (p - f)) (Int32.ofNat (c + 96) - 97 + 1)) (32 * w + (Int32.ofNat (c + 96)).toInt64 - 96) := by
  obtain ⟨l, h8, hL, hv, hw, hl⟩ := hW
  have hlen : l.length = p - f := by omega
  refine ⟨l ++ [c], ?_, Ltr_snoc hL hc, ?_, ?_, ?_⟩
  · rw [List.length_append, hlen]
    show p - f + 1 = _
    omega
  · rw [hv, ← hlen]
    exact wt_snoc (by omega) hL hc
  · rw [hw, nmR_snoc, I_j (by omega), show (32 : Int64) = Int64.ofNat 32 from rfl, J_mul, J_add, show (96 : Int64) = Int64.ofNat 96 from rfl, ← Int64.ofNat_sub _ _ (by omega)]
    congr 1 <;> omega
  · intro i hi
    rw [List.length_append] at hi
    have hi1 : i < l.length + 1 := hi
    by_cases h1 : i < l.length
    · rw [hl i h1, List.getD_eq_getElem?_getD, List.getD_eq_getElem?_getD, List.getElem?_append_left h1]
    · have e : i = l.length := by omega
      subst e
      rw [List.getD_eq_getElem?_getD, List.getElem?_append_right (Nat.le_refl _), Nat.sub_self, hlen, show f + (p - f) = p by omega, hb]
      rfl
theorem Wl_t (hW : Wl b f p v w) (hp9 : ¬ p < f + 8) : Wl b f (p + 1) v w := by
  obtain ⟨l, h8, h⟩ := hW
  exact ⟨l, by omega, h⟩
theorem rw_Q (h : BQ cb b e) : ∀ j p v w, f ≤ p → Wl b f p v w → (rwC cb e f p j v).1 = (rwD b e f p j w).1 ∧ Wl b f (rwD b e f p j w).1 (rwC cb e f p j v).2 (rwD b e f p j w).2 := by
  intro j
  induction j with
  | zero => intro p v w _ hW; exact ⟨rfl, hW⟩
  | succ j ih =>
    intro p v w hfp hW
    have hq := bAt_Q (p := p) h
    rw [show rwC cb e f p (j + 1) v = if isL (bAt cb e p) then rwC cb e f (p + 1) j (if p < f + 8 then wtF v (Int32.ofNat (p - f)) (bAt cb e p - 97 + 1) else v) else (p, v) from rfl, show rwD b e f p (j + 1) w = if isL (bAt b e p) then rwD b e f (p + 1) j (if p < f + 8 then 32 * w + (bAt b e p).toInt64 - 96 else w) else (p, w) from rfl, Q_L hq]
    by_cases hd : isL (bAt b e p) = true
    · rw [if_pos hd, if_pos hd]
      obtain ⟨c, hc1, hc2, hc3⟩ := isL_of hd
      have hd2 := hd
      rw [← Q_L hq] at hd2
      obtain ⟨c', hc1', hc2', hc3'⟩ := isL_of hd2
      have e1 := Q_eq hq (by rw [hc3', oN_toInt (by omega)]; omega)
      have hpe : p < e := by
        by_cases hpe : p < e
        · exact hpe
        · exfalso
          unfold bAt at hd
          rw [if_neg hpe] at hd
          exact absurd hd (by decide)
      have hbp : b p = Int32.ofNat (c + 96) := by
        unfold bAt at hc3
        rw [if_pos hpe] at hc3
        exact hc3
      rw [e1]
      by_cases hp9 : p < f + 8
      · rw [if_pos hp9, if_pos hp9, hc3]
        exact ih _ _ _ (by omega) (Wl_s hW hfp hp9 ⟨hc1, hc2⟩ hbp)
      · rw [if_neg hp9, if_neg hp9]
        exact ih _ _ _ (by omega) (Wl_t hW hp9)
    · rw [if_neg hd, if_neg hd]
      exact ⟨rfl, hW⟩
/-- the token -/
theorem tok_Q (h : BQ cb b e) {X Y : Int32} : (tokC cb e f X v).1 = (tokD b e f Y w).1 ∧ (tokC cb e f X v).2.1 = (tokD b e f Y w).2.1 ∧ ((tokC cb e f X v).2.1 = 2 → (tokC cb e f X v).2.2.1 = (tokD b e f Y w).2.2.1) ∧ ((tokC cb e f X v).2.1 = 1 → Wl b f (tokD b e f Y w).1 (tokC cb e f X v).2.2.2 (tokD b e f Y w).2.2.2 ∧ (tokD b e f Y w).1 ≤ f + 8) := by
  have hq := bAt_Q (p := f) h
  unfold tokC tokD
  by_cases h1 : e ≤ f
  · have h2 : bAt b e f = -1 := (bAt_m h).mpr h1
    rw [if_pos h1, if_pos h2]
    exact ⟨rfl, rfl, fun e => absurd e (show ¬ (0 : Int32) = 2 by decide), fun e => absurd e (show ¬ (0 : Int32) = 1 by decide)⟩
  · have h2 : ¬ bAt b e f = -1 := fun e => h1 ((bAt_m h).mp e)
    rw [if_neg h1, if_neg h2, Q_L hq]
    by_cases h3 : isL (bAt b e f) = true
    · rw [if_pos h3, if_pos h3]
      obtain ⟨r1, r2⟩ := rw_Q h (e - f) f 0 0 (Nat.le_refl f) Wl_0
      generalize rwC cb e f f (e - f) 0 = RC at *
      generalize rwD b e f f (e - f) 0 = RD at *
      show RC.1 = RD.1 ∧ kdR (f + 8) 4 1 RC.1 = kdR (f + 8) 4 1 RD.1 ∧ (kdR (f + 8) 4 1 RC.1 = 2 → X = Y) ∧ (kdR (f + 8) 4 1 RC.1 = 1 → Wl b f RD.1 RC.2 RD.2 ∧ RD.1 ≤ f + 8)
      rw [r1]
      refine ⟨rfl, rfl, ?_, ?_⟩
      · intro e1
        unfold kdR at e1
        split at e1
        · exact absurd e1 (by decide)
        · exact absurd e1 (by decide)
      · intro e1
        unfold kdR at e1
        split at e1
        · exact absurd e1 (by decide)
        · exact ⟨r2, by omega⟩
    · rw [if_neg h3, if_neg h3, Q_D hq]
      by_cases h4 : isD (bAt b e f) = true
      · rw [if_pos h4, if_pos h4, rd_Q h]
        generalize rdD b e f f (e - f) 0 = RD at *
        refine ⟨rfl, rfl, fun _ => rfl, ?_⟩
        intro e1
        have e2 : kdR (f + 5) 4 2 RD.1 = 1 := e1
        unfold kdR at e2
        split at e2
        · exact absurd e2 (by decide)
        · exact absurd e2 (by decide)
      · rw [if_neg h4, if_neg h4]
        have e59 : (bAt cb e f = 59) = (bAt b e f = 59) := Q_k (by decide) hq
        by_cases h5 : bAt b e f = 59
        · have h6 : bAt cb e f = 59 := e59.mpr h5
          rw [if_pos h5, if_pos h6]
          exact ⟨rfl, rfl, fun e => absurd e (show ¬ (3 : Int32) = 2 by decide), fun e => absurd e (show ¬ (3 : Int32) = 1 by decide)⟩
        · have h6 : ¬ bAt cb e f = 59 := fun e => h5 (e59.mp e)
          rw [if_neg h5, if_neg h6]
          exact ⟨rfl, rfl, fun e => absurd e (show ¬ (4 : Int32) = 2 by decide), fun e => absurd e (show ¬ (4 : Int32) = 1 by decide)⟩
end SC1
