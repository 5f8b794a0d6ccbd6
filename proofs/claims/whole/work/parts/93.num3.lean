section NU3
variable {n nh t k p i j h w q g z : Nat} {S T U V : St} {a b c v pr rf : Int32}
theorem hisF_ofL : hisF (ofL S k j) k p = hisF S k p := by unfold hisF; rw [ofL_p]
theorem sumI_0 {f : Nat → Int} : ∀ m, (∀ p, p < m → f p = 0) → sumI f m = 0 := by
  intro m
  induction m with
  | zero => intro _; rfl
  | succ m ih => intro h; unfold sumI; rw [ih (fun p hp => h p (by omega)), h m (by omega)]; rfl
theorem yok_of (hN : Num S k n nh) : Yok (ofL S k n) k n nh := by
  have hL := ofL_num hN n (Nat.le_refl n)
  obtain ⟨hn, hnh, hcap, hthr, hpr, hrf, hfg, hon, hhs, hkd, hrt, hpg, hbl⟩ := hN
  refine ⟨hn, hnh, by rw [ofL_pr]; exact hpr, by rw [ofL_pr, ofL_pr]; exact hrf, fun p hp => by rw [hisF_ofL]; exact (hhs p hp).2, fun p hp => by rw [ofL_p]; exact ⟨(hpg p hp).2.2.1, (hpg p hp).2.2.2.1⟩, fun p hp => ofL_34 (Or.inl rfl) n hp, hL.1, fun h hh => ?_⟩
  have h1 := hL.2 h hh
  have e : sumI (offI (ofL S k n) (ofL S k n) k h ((ofL S k n).1 (12, k, 0) 2).toInt) n = sumI (offI S (ofL S k n) k h (S.1 (12, k, 0) 2).toInt) n := sumI_congr n (fun p _ => by unfold offI; rw [hisF_ofL, ofL_pr])
  rw [e]
  have h2 := hbl h hh
  omega
theorem Yok_lk (hY : Yok S k n nh) (hg : g ≠ 2 ∧ g ≠ 3) : Yok (upI S (12, k, 0) g v) k n nh := by
  obtain ⟨h1, h2, h3, h4, h5, h6, h7, h8, h9⟩ := hY
  have e2 : (upI S (12, k, 0) g v).1 (12, k, 0) 2 = S.1 (12, k, 0) 2 := by rw [upI_1, if_neg (fun e => hg.1 e.2.symm)]
  have e3 : (upI S (12, k, 0) g v).1 (12, k, 0) 3 = S.1 (12, k, 0) 3 := by rw [upI_1, if_neg (fun e => hg.2 e.2.symm)]
  have eh : ∀ p, hisF (upI S (12, k, 0) g v) k p = hisF S k p := fun p => by unfold hisF; rw [upI_1, if_neg (by simp)]
  have ea : ∀ p, adm (upI S (12, k, 0) g v) k p = adm S k p := fun p => adm_lk
  refine ⟨h1, h2, by rw [e2]; exact h3, by rw [e2, e3]; exact h4, fun p hp => by rw [eh]; exact h5 p hp, fun p hp => by rw [upI_1, if_neg (by simp)]; exact h6 p hp, fun p hp => by rw [upI_1, if_neg (by simp)]; exact h7 p hp, fun p hp => by rw [ea]; exact h8 p hp, fun h hh => ?_⟩
  have e : sumI (offI (upI S (12, k, 0) g v) (upI S (12, k, 0) g v) k h ((upI S (12, k, 0) g v).1 (12, k, 0) 2).toInt) n = sumI (offI S S k h (S.1 (12, k, 0) 2).toInt) n := sumI_congr n (fun p _ => by unfold offI; rw [eh, ea, e2])
  rw [e, upI_1, if_neg (by simp)]
  exact h9 h hh
/-- behind the yields -/
theorem ps2_num (hY : Yok S k n nh) : Sbd (ps2 S k n) k n ∧ (∀ p, p < n → 0 ≤ ((ps2 S k n).1 (18, k, p) 3).toInt ∧ ((ps2 S k n).1 (18, k, p) 3).toInt ≤ 999) ∧ (∀ h, h < nh → 0 ≤ ((ps2 S k n).1 (16, k, h) 2).toInt ∧ ((ps2 S k n).1 (16, k, h) 2).toInt ≤ 9999999) := by
  have key : (∀ p, p < n → 0 ≤ ((ps2 S k n).1 (18, k, p) 3).toInt ∧ ((ps2 S k n).1 (18, k, p) 3).toInt ≤ (adm S k p).toInt) ∧ (∀ h, h < nh → 0 ≤ ((ps2 S k n).1 (16, k, h) 2).toInt ∧ ((ps2 S k n).1 (16, k, h) 2).toInt ≤ 9999999) := by
    unfold ps2
    by_cases hw : psW S k n = true
    · rw [if_pos hw]
      have hY2 : Yok (upI (upI S (12, k, 0) 8 1) (12, k, 0) 6 (S.1 (12, k, 0) 6 + 1)) k n nh := Yok_lk (Yok_lk hY (by decide)) (by decide)
      have ea : ∀ p, adm (upI (upI S (12, k, 0) 8 1) (12, k, 0) 6 (S.1 (12, k, 0) 6 + 1)) k p = adm S k p := fun p => adm_lk.trans adm_lk
      obtain ⟨k1, k2⟩ := ylL_num hY2 n (Nat.le_refl n)
      refine ⟨fun p hp => ?_, fun h hh => ?_⟩
      · have := k1 p hp
        rw [ea] at this
        exact this
      · have h1 := k2 h hh
        have h2 := hY2.2.2.2.2.2.2.2.2 h hh
        omega
    · rw [if_neg hw]
      refine ⟨fun p hp => ?_, fun h hh => ?_⟩
      · rw [upI_1, if_neg (by simp), hY.2.2.2.2.2.2.1 p hp, show (0 : Int32).toInt = 0 from rfl]
        exact ⟨Int.le_refl 0, (hY.2.2.2.2.2.2.2.1 p hp).1⟩
      · rw [upI_1, if_neg (by simp)]
        have h9 := hY.2.2.2.2.2.2.2.2 h hh
        have h0 : 0 ≤ sumI (offI S S k h (S.1 (12, k, 0) 2).toInt) n := by
          have := sumI_mono (f := offI S S k h (S.1 (12, k, 0) 2).toInt) (b := n) (fun p hp => by
            unfold offI
            split
            · exact Int.mul_nonneg (hY.2.2.2.2.2.2.2.1 p hp).1 hY.2.2.1.1
            · exact Int.le_refl 0) 0 (Nat.zero_le n)
          exact this
        omega
  refine ⟨fun p hp => ?_, fun p hp => ?_, key.2⟩
  · have h1 := key.1 p hp
    have h2 := hY.2.2.2.2.2.2.2.1 p hp
    have e : (snt (ps2 S k n) k p).toInt = (adm S k p).toInt - ((ps2 S k n).1 (18, k, p) 3).toInt := by
      unfold snt
      rw [ps2_adm, subI (by omega) (by omega)]
    have h3 := toN_le (v := snt (ps2 S k n) k p) (m := 999) (by omega) (by omega)
    exact h3
  · have h1 := key.1 p hp
    have h2 := hY.2.2.2.2.2.2.2.1 p hp
    omega
theorem Nok_of (hN : Num S k n nh) : Nok S k n nh := by
  have hP := ps2_num (yok_of hN)
  obtain ⟨hn, hnh, hcap, hthr, hpr, hrf, hfg, hon, hhs, hkd, hrt, hpg, hbl⟩ := hN
  refine ⟨⟨hn, hnh, ?_, hon, hhs⟩, ?_, hkd, fun p hp => ?_, hP.1⟩
  · rw [leI, show (0 : Int32).toInt = 0 from rfl]; exact hpr.1
  · have := toN_le (v := S.1 (12, k, 0) 0) (m := 9999) (by omega) (by omega)
    exact ⟨_, this.1, this.2⟩
  · rw [leI, show (0 : Int32).toInt = 0 from rfl]; exact (hpg p hp).2.2.1
/-- a program's bounds -/
def pgB (S : St) (k p : Nat) : Prop := (0 ≤ (S.1 (17, k, p) 4).toInt ∧ (S.1 (17, k, p) 4).toInt ≤ (S.1 (17, k, p) 3).toInt ∧ (S.1 (17, k, p) 3).toInt ≤ (S.1 (17, k, p) 5).toInt ∧ (S.1 (17, k, p) 5).toInt ≤ 999) ∧ (0 ≤ (S.1 (17, k, p) 6).toInt ∧ (S.1 (17, k, p) 6).toInt ≤ 99 ∧ 0 ≤ (S.1 (17, k, p) 7).toInt ∧ (S.1 (17, k, p) 7).toInt ≤ 100 ∧ 0 ≤ (S.1 (17, k, p) 8).toInt ∧ (S.1 (17, k, p) 8).toInt ≤ 50 ∧ 0 ≤ (S.1 (17, k, p) 9).toInt ∧ (S.1 (17, k, p) 9).toInt ≤ 100)
theorem rsd_num {ld : Int32} (hB : pgB S k p) (hld : ld.toInt ≤ 100) : 0 ≤ (rsdF S k p ld).toInt ∧ (rsdF S k p ld).toInt ≤ 200 := by
  obtain ⟨h1, h2⟩ := hB
  have m2 : (2 * S.1 (17, k, p) 8).toInt = 2 * (S.1 (17, k, p) 8).toInt := mulI (by rw [show (2 : Int32).toInt = 2 from rfl]; omega) (by rw [show (2 : Int32).toInt = 2 from rfl]; omega)
  have a1 : (S.1 (17, k, p) 7 + S.1 (17, k, p) 8).toInt = (S.1 (17, k, p) 7).toInt + (S.1 (17, k, p) 8).toInt := addI (by omega) (by omega)
  have a2 : (S.1 (17, k, p) 7 + 2 * S.1 (17, k, p) 8).toInt = (S.1 (17, k, p) 7).toInt + (2 * S.1 (17, k, p) 8).toInt := addI (by omega) (by omega)
  unfold rsdF
  split
  · omega
  · split
    · split
      · omega
      · omega
    · split
      · split
        · rename_i hlt
          rw [ltI] at hlt
          omega
        · omega
      · omega
theorem lrnF_f {wn fg ld : Int32} (hg : g ≠ 3 ∧ g ≠ 7 ∧ g ≠ 10) : (lrnF S k p wn fg ld).1 (17, k, q) g = S.1 (17, k, q) g := by
  unfold lrnF
  split
  · simp [upI_1, hg]
  · split
    · simp [upI_1, hg]
    · split <;> simp [upI_1, hg]
theorem lrn_num {wn fg ld : Int32} (hB : pgB S k p) (h3 : 0 ≤ (S.1 (18, k, p) 3).toInt ∧ (S.1 (18, k, p) 3).toInt ≤ 999) (hld : ld.toInt ≤ 100) (hfg : 0 ≤ fg.toInt ∧ fg.toInt ≤ 9) : pgB (lrnF S k p wn fg ld) k p := by
  have hB0 := hB
  obtain ⟨h1, h2⟩ := hB
  have f4 := lrnF_f (S := S) (k := k) (p := p) (q := p) (wn := wn) (fg := fg) (ld := ld) (g := 4) (by decide)
  have f5 := lrnF_f (S := S) (k := k) (p := p) (q := p) (wn := wn) (fg := fg) (ld := ld) (g := 5) (by decide)
  have f6 := lrnF_f (S := S) (k := k) (p := p) (q := p) (wn := wn) (fg := fg) (ld := ld) (g := 6) (by decide)
  have f8 := lrnF_f (S := S) (k := k) (p := p) (q := p) (wn := wn) (fg := fg) (ld := ld) (g := 8) (by decide)
  have f9 := lrnF_f (S := S) (k := k) (p := p) (q := p) (wn := wn) (fg := fg) (ld := ld) (g := 9) (by decide)
  have key : ((lrnF S k p wn fg ld).1 (17, k, p) 3).toInt ≤ (S.1 (17, k, p) 5).toInt ∧ (S.1 (17, k, p) 4).toInt ≤ ((lrnF S k p wn fg ld).1 (17, k, p) 3).toInt ∧ 0 ≤ ((lrnF S k p wn fg ld).1 (17, k, p) 7).toInt ∧ ((lrnF S k p wn fg ld).1 (17, k, p) 7).toInt ≤ 100 := by
    have d4 : (S.1 (17, k, p) 3 / 4).toInt = (S.1 (17, k, p) 3).toInt / 4 := divI (by omega) (by decide)
    have s4 : (S.1 (17, k, p) 3 - S.1 (17, k, p) 3 / 4).toInt = (S.1 (17, k, p) 3).toInt - (S.1 (17, k, p) 3 / 4).toInt := subI (by omega) (by omega)
    have s3 : (S.1 (17, k, p) 3 - S.1 (18, k, p) 3).toInt = (S.1 (17, k, p) 3).toInt - (S.1 (18, k, p) 3).toInt := subI (by omega) (by omega)
    have a6 : (S.1 (17, k, p) 3 + S.1 (17, k, p) 6).toInt = (S.1 (17, k, p) 3).toInt + (S.1 (17, k, p) 6).toInt := addI (by omega) (by omega)
    have sf : (S.1 (17, k, p) 7 - fg).toInt = (S.1 (17, k, p) 7).toInt - fg.toInt := subI (by omega) (by omega)
    unfold lrnF
    split
    · have hB2 : pgB (upI S (17, k, p) 10 (S.1 (17, k, p) 10 + 1)) k p := by
        unfold pgB
        simp only [upI_1]
        simp
        exact hB0
      have hr := rsd_num (ld := ld) hB2 hld
      generalize rsdF (upI S (17, k, p) 10 (S.1 (17, k, p) 10 + 1)) k p ld = R at *
      have e3 : (upI (upI (upI S (17, k, p) 10 (S.1 (17, k, p) 10 + 1)) (17, k, p) 7 (imin 100 R)) (17, k, p) 3 (imax (S.1 (17, k, p) 4) (S.1 (17, k, p) 3 - S.1 (17, k, p) 3 / 4))).1 (17, k, p) 3 = imax (S.1 (17, k, p) 4) (S.1 (17, k, p) 3 - S.1 (17, k, p) 3 / 4) := by rw [upI_1, if_pos ⟨rfl, rfl⟩]
      have e7 : (upI (upI (upI S (17, k, p) 10 (S.1 (17, k, p) 10 + 1)) (17, k, p) 7 (imin 100 R)) (17, k, p) 3 (imax (S.1 (17, k, p) 4) (S.1 (17, k, p) 3 - S.1 (17, k, p) 3 / 4))).1 (17, k, p) 7 = imin 100 R := by rw [upI_1, if_neg (by simp), upI_1, if_pos ⟨rfl, rfl⟩]
      rw [e3, e7, imaxI, iminI, show (100 : Int32).toInt = 100 from rfl]
      omega
    · split
      · have e3 : (upI (upI S (17, k, p) 10 0) (17, k, p) 3 (imax (S.1 (17, k, p) 4) (S.1 (17, k, p) 3 - S.1 (18, k, p) 3))).1 (17, k, p) 3 = imax (S.1 (17, k, p) 4) (S.1 (17, k, p) 3 - S.1 (18, k, p) 3) := by rw [upI_1, if_pos ⟨rfl, rfl⟩]
        have e7 : (upI (upI S (17, k, p) 10 0) (17, k, p) 3 (imax (S.1 (17, k, p) 4) (S.1 (17, k, p) 3 - S.1 (18, k, p) 3))).1 (17, k, p) 7 = S.1 (17, k, p) 7 := by rw [upI_1, if_neg (by simp), upI_1, if_neg (by simp)]
        rw [e3, e7, imaxI]
        omega
      · split
        · rename_i hc
          rw [ltI] at hc
          have e3 : (upI (upI (upI S (17, k, p) 10 0) (17, k, p) 3 (imin (S.1 (17, k, p) 5) (S.1 (17, k, p) 3 + S.1 (17, k, p) 6))) (17, k, p) 7 (imax (S.1 (17, k, p) 9) (S.1 (17, k, p) 7 - fg))).1 (17, k, p) 3 = imin (S.1 (17, k, p) 5) (S.1 (17, k, p) 3 + S.1 (17, k, p) 6) := by rw [upI_1, if_neg (by simp), upI_1, if_pos ⟨rfl, rfl⟩]
          have e7 : (upI (upI (upI S (17, k, p) 10 0) (17, k, p) 3 (imin (S.1 (17, k, p) 5) (S.1 (17, k, p) 3 + S.1 (17, k, p) 6))) (17, k, p) 7 (imax (S.1 (17, k, p) 9) (S.1 (17, k, p) 7 - fg))).1 (17, k, p) 7 = imax (S.1 (17, k, p) 9) (S.1 (17, k, p) 7 - fg) := by rw [upI_1, if_pos ⟨rfl, rfl⟩]
          rw [e3, e7, imaxI, iminI]
          omega
        · have e3 : (upI (upI S (17, k, p) 10 0) (17, k, p) 3 (imin (S.1 (17, k, p) 5) (S.1 (17, k, p) 3 + S.1 (17, k, p) 6))).1 (17, k, p) 3 = imin (S.1 (17, k, p) 5) (S.1 (17, k, p) 3 + S.1 (17, k, p) 6) := by rw [upI_1, if_pos ⟨rfl, rfl⟩]
          have e7 : (upI (upI S (17, k, p) 10 0) (17, k, p) 3 (imin (S.1 (17, k, p) 5) (S.1 (17, k, p) 3 + S.1 (17, k, p) 6))).1 (17, k, p) 7 = S.1 (17, k, p) 7 := by rw [upI_1, if_neg (by simp), upI_1, if_neg (by simp)]
          rw [e3, e7, iminI]
          omega
  unfold pgB
  rw [f4, f5, f6, f8, f9]
  omega
theorem ldF_num (h : ∀ p, p < n → (S.1 (17, k, p) 7).toInt ≤ 100) : ∀ m, m ≤ n → (ldF S k m).2.toInt ≤ 100 := by
  intro m
  induction m with
  | zero => intro _; exact (by decide : (-1 : Int32).toInt ≤ 100)
  | succ m ih =>
    intro hm
    unfold ldF
    split
    · exact h m (by omega)
    · exact ih (by omega)
theorem lrnF_o {wn fg ld : Int32} {o : Ob} (ho : o.1 ≠ 17) : (lrnF S k p wn fg ld).1 o = S.1 o := by
  have h : o ≠ (17, k, p) := fun e => by rw [e] at ho; exact ho rfl
  unfold lrnF
  split
  · rw [upI_fun' _ _ _ h, upI_fun' _ _ _ h, upI_fun' _ _ _ h]
  · split
    · rw [upI_fun' _ _ _ h, upI_fun' _ _ _ h]
    · split
      · rw [upI_fun' _ _ _ h, upI_fun' _ _ _ h, upI_fun' _ _ _ h]
      · rw [upI_fun' _ _ _ h, upI_fun' _ _ _ h]
theorem laF_o' {l : Int32} {o : Ob} (ho : o.1 ≠ 17) : ∀ j, (laF S k l j).1 o = S.1 o := by
  intro j
  induction j with
  | zero => rfl
  | succ j ih =>
    unfold laF
    split
    · exact ih
    · rw [lrnF_o ho, ih]
theorem laF_f {l : Int32} (hg : g ≠ 3 ∧ g ≠ 7 ∧ g ≠ 10) : ∀ j, (laF S k l j).1 (17, k, q) g = S.1 (17, k, q) g := by
  intro j
  induction j with
  | zero => rfl
  | succ j ih =>
    unfold laF
    split
    · exact ih
    · rw [lrnF_f hg, ih]
theorem laF_num {l : Int32} (hB : ∀ p, p < n → pgB S k p) (h3 : ∀ p, p < n → 0 ≤ (S.1 (18, k, p) 3).toInt ∧ (S.1 (18, k, p) 3).toInt ≤ 999) (hl : l.toInt ≤ 100) (hfg : 0 ≤ (S.1 (12, k, 0) 4).toInt ∧ (S.1 (12, k, 0) 4).toInt ≤ 9) : ∀ j, j ≤ n → ∀ p, p < n → pgB (laF S k l j) k p := by
  intro j
  induction j with
  | zero => intro _; exact hB
  | succ j ih =>
    intro hj p hp
    have ihp := ih (by omega)
    unfold laF
    split
    · exact ihp p hp
    · by_cases e : p = j
      · subst e
        refine lrn_num (ihp p hp) ?_ hl hfg
        rw [laF_o' (by simp)]
        exact h3 p hp
      · have h1 := ihp p hp
        unfold pgB at *
        rw [lrnF_q e, lrnF_q e, lrnF_q e, lrnF_q e, lrnF_q e, lrnF_q e, lrnF_q e]
        exact h1
end NU3
