/-! THE TABLES HOLD, part d: every instruction is the machine's, every callee has its words. -/
theorem xc_6 : (List.range' 239 1).all xcf = true := by decide +kernel
theorem xc_bool (y : Nat) (hy : y < 240) : xcf y = true := by
  by_cases h0 : y < 40
  · exact xall xc_0 y (by omega) h0
  by_cases h1 : y < 80
  · exact xall xc_1 y (by omega) h1
  by_cases h2 : y < 120
  · exact xall xc_2 y (by omega) h2
  by_cases h3 : y < 160
  · exact xall xc_3 y (by omega) h3
  by_cases h4 : y < 200
  · exact xall xc_4 y (by omega) h4
  by_cases h5 : y < 239
  · exact xall xc_5 y (by omega) h5
  by_cases h6 : y < 240
  · exact xall xc_6 y (by omega) h6
  · omega
theorem xc_all : ∀ (y : Nat) (me : xMe), xtab[y]? = some me → xcok xtab 239 me = true := by
  intro y me h
  have h1 := (List.getElem?_eq_some_iff.mp h).1
  rw [xtab_len] at h1
  have h2 := xc_bool y h1
  unfold xcf at h2
  rw [h] at h2
  exact h2
