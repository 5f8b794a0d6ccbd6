section CK1
variable {n nh k p i h z m u f s c d x j e b g r y t pn pc fb fr : Nat} {S T : St} {q : Int32} {w : Int64}
/-! THE CHECKSUM -/
theorem ckA_congr {f f' : Nat → Int32} : ∀ j w, (∀ i, i < j → f i = f' i) → ckA f j w = ckA f' j w := by
  intro j
  induction j with
  | zero => intro w _; rfl
  | succ j ih =>
    intro w h
    rw [show ckA f (j + 1) w = 31 * ckA f j w + (f j).toInt64 from rfl, show ckA f' (j + 1) w = 31 * ckA f' j w + (f' j).toInt64 from rfl, ih w (fun i hi => h i (by omega)), h j (by omega)]
theorem ckJ_congr {f f' : Nat → Int64} : ∀ j w, (∀ i, i < j → f i = f' i) → ckJ f j w = ckJ f' j w := by
  intro j
  induction j with
  | zero => intro w _; rfl
  | succ j ih =>
    intro w h
    rw [show ckJ f (j + 1) w = 31 * ckJ f j w + f j from rfl, show ckJ f' (j + 1) w = 31 * ckJ f' j w + f' j from rfl, ih w (fun i hi => h i (by omega)), h j (by omega)]
theorem ckB_congr {f f' : Nat → Nat → Int32} : ∀ j w, (∀ i v, i < j → v < 4 → f i v = f' i v) → ckB f j w = ckB f' j w := by
  intro j
  induction j with
  | zero => intro w _; rfl
  | succ j ih =>
    intro w h
    rw [show ckB f (j + 1) w = ckA (f j) 4 (ckB f j w) from rfl, show ckB f' (j + 1) w = ckA (f' j) 4 (ckB f' j w) from rfl, ih w (fun i v hi hv => h i v (by omega) hv)]
    exact ckA_congr 4 _ (fun v hv => h j v (by omega) hv)
theorem ckC_congr {f f' : Nat → Nat → Int32} {g g' : Nat → Nat → Int64} : ∀ j w, (∀ i v, i < j → v < 11 → f i v = f' i v) → (∀ i v, i < j → v < 8 → g i v = g' i v) → ckC f g j w = ckC f' g' j w := by
  intro j
  induction j with
  | zero => intro w _ _; rfl
  | succ j ih =>
    intro w h h2
    rw [show ckC f g (j + 1) w = ckJ (g j) 8 (31 * (31 * (31 * ckC f g j w + (f j 2).toInt64) + (f j 6).toInt64) + (f j 9).toInt64) from rfl, show ckC f' g' (j + 1) w = ckJ (g' j) 8 (31 * (31 * (31 * ckC f' g' j w + (f' j 2).toInt64) + (f' j 6).toInt64) + (f' j 9).toInt64) from rfl, ih w (fun i v hi hv => h i v (by omega) hv) (fun i v hi hv => h2 i v (by omega) hv), h j 2 (by omega) (by decide), h j 6 (by omega) (by decide), h j 9 (by omega) (by decide)]
    exact ckJ_congr 8 _ (fun v hv => h2 j v (by omega) hv)
theorem ck_eq (h : Lnk 1 S T n nh t) (h0 : Und0 S T pn pc) (h1 : Bfr S T fb) : ckC (pkF S) (ckK S) n (ckB (hkC S) nh (ckF (fun w => szF S (Int32.ofNat w)))) = ckC (gP T) (gC T) n (ckB (gH T) nh (ckF (fun w => szR T (Int32.ofNat w)))) := by
  have e : ∀ w : Nat, w ≤ 12 → szF S (Int32.ofNat w) = szR T (Int32.ofNat w) := fun w hw => get_4 h h0 h1 (by
    rcases (show w = 0 ∨ w = 1 ∨ w = 2 ∨ w = 3 ∨ w = 4 ∨ w = 5 ∨ w = 6 ∨ w = 7 ∨ w = 8 ∨ w = 9 ∨ w = 10 ∨ w = 11 ∨ w = 12 by omega) with e | e | e | e | e | e | e | e | e | e | e | e | e <;> subst e <;> decide)
  have ef : ckF (fun w => szF S (Int32.ofNat w)) = ckF (fun w => szR T (Int32.ofNat w)) := by
    unfold ckF
    dsimp only
    rw [ckA_congr (f := fun i => szF S (Int32.ofNat (i + 2))) (f' := fun i => szR T (Int32.ofNat (i + 2))) 7 0 (fun i hi => e (i + 2) (by omega)), e 11 (by decide), e 12 (by decide)]
  rw [ef]
  obtain ⟨m1, m2, m3, m4, m5, m6, m7, m8, m9⟩ := h.1
  rw [ckB_congr (f := hkC S) (f' := gH T) nh _ (fun i v hi hv => m2 i v hi hv)]
  exact ckC_congr n _ (fun i v hi hv => m3 i v hi hv) (fun i v hi hv => cnt_eq h hi hv)
end CK1
