section BT
variable {n nh t k k' p i j h w q g z m u : Nat} {S S' T T' U V R : St} {a b c v y pr rf e f fo : Int32}
theorem Fr_Eqk (h : Fr k' S S') (hk : k ≠ k') : Eqk k k S S' n nh := Eqk_of (fun o ho _ _ => (h.1 o (Or.inl (by rw [ho]; exact hk))).1) (fun o ho _ _ => (h.1 o (Or.inl (by rw [ho]; exact hk))).2)
theorem Lnk_Fr (h : Lnk k S T n nh t) (f : Fr k' S S') (hk : k ≠ k') : Lnk k S' T n nh t := Lnk_Eqk h (Fr_Eqk f hk)
theorem tr_Lnk' (h : Lnk 1 S R n nh t) (w : sameW R T) : Lnk 2 (trF S n nh) T n nh t := Lnk_W (Lnk_Eqk h (lcF_Eqk (by decide))) w
theorem N_NK (h : Lnk k S T n nh t) : NK (S.1 (12, k, 0)) := (Num_iff.mp h.2.1).2.2.1
theorem N_NP (h : Lnk k S T n nh t) (hp : p < n) : NP (S.1 (17, k, p)) nh := (Num_iff.mp h.2.1).2.2.2.1 p hp
theorem bt_Lnk (h : Lnk 1 S R n nh t) (w : sameW R T) (hj : j < 100) : Lnk 2 (upI (trF S n nh) (12, 2, 0) 1 (Int32.ofNat (j + 1))) (upI T (11, 0, 0) 3 (Int32.ofNat (j + 1))) n nh t := by
  have h2 := tr_Lnk' h w
  exact Lnk_k (g := 3) h2 (by decide) (by decide) (NK_1 (N_NK h2) (by rw [oN_toInt (by omega)]; omega))
theorem bt_step (h : Lnk 1 S R n nh t) (w : sameW R T) (hj : j < 100) (hu : u ≤ 1000) (ht : t + u < 2 ^ 20) : ((btS S n nh u f j).2 < f ↔ rfV T 3 (Int32.ofNat (j + 1)) n t u < f) ∧ (rfV T 3 (Int32.ofNat (j + 1)) n t u < f → (btS S n nh u f j).2 = rfV T 3 (Int32.ofNat (j + 1)) n t u) := try_lt (bt_Lnk h w hj) hu ht
theorem bt_pos (h : Lnk 1 S R n nh t) (w : sameW R T) (hj : j < 100) (hu : u ≤ 1000) (ht : t + u < 2 ^ 20) : 0 ≤ (rfV T 3 (Int32.ofNat (j + 1)) n t u).toInt ∧ (rfV T 3 (Int32.ofNat (j + 1)) n t u).toInt ≤ 23976 * u := raV_bd (bt_Lnk h w hj) hu ht
theorem imin_c (h1 : ¬ a < b) : imin a b = b := by
  apply Int32.toInt_inj.mp
  rw [iminI]
  rw [ltI] at h1
  omega
theorem imin_a (h1 : a < b) : imin a b = a := by
  apply Int32.toInt_inj.mp
  rw [iminI]
  rw [ltI] at h1
  omega
theorem bt_zero (h : Lnk 1 S R n nh t) (hu : u ≤ 1000) (ht : t + u < 2 ^ 20) : ∀ j T b, j ≤ 100 → sameW R T → (btR n t u T b 0 j).1 = b := by
  intro j
  induction j with
  | zero => intro T b _ _; rfl
  | succ j ih =>
    intro T b hj w
    have hp := bt_pos h w (j := j) (by omega) hu ht
    have hn : ¬ rfV T 3 (Int32.ofNat (j + 1)) n t u < 0 := by rw [ltI, show (0 : Int32).toInt = 0 from rfl]; omega
    unfold btR
    rw [if_neg hn, imin_c hn]
    exact ih _ b (by omega) (w.trans rf_W)
theorem bt_loop (hu : u ≤ 1000) (ht : t + u < 2 ^ 20) : ∀ j S T b f, j ≤ 100 → Lnk 1 S R n nh t → sameW R T → 0 ≤ f.toInt → (btF n nh u S b f j).1 = (btR n t u T b f j).1 := by
  intro j
  induction j with
  | zero => intro S T b f _ _ _ _; rfl
  | succ j ih =>
    intro S T b f hj h w hf
    by_cases hz : 0 < f
    · have hs := bt_step (f := f) h w (j := j) (by omega) hu ht
      have hp := bt_pos h w (j := j) (by omega) hu ht
      have h2 : Lnk 1 (btS S n nh u f j).1 R n nh t := Lnk_Fr h btS_Fr (by decide)
      unfold btF btR
      rw [if_pos hz]
      by_cases hc : rfV T 3 (Int32.ofNat (j + 1)) n t u < f
      · rw [if_pos (hs.1.mpr hc), if_pos hc, imin_a hc, hs.2 hc]
        exact ih _ _ _ _ (by omega) h2 (w.trans rf_W) hp.1
      · rw [if_neg (fun e => hc (hs.1.mp e)), if_neg hc, imin_c hc]
        exact ih _ _ _ _ (by omega) h2 (w.trans rf_W) hf
    · have e0 : f = 0 := by
        apply Int32.toInt_inj.mp
        rw [ltI, show (0 : Int32).toInt = 0 from rfl] at hz
        rw [show (0 : Int32).toInt = 0 from rfl]
        omega
      subst e0
      unfold btF
      rw [if_neg hz, bt_zero h hu ht (j + 1) T b hj w]
theorem bt_tries (h : Lnk 1 S R n nh t) (w : sameW R T) (hu : u ≤ 1000) (ht : t + u < 2 ^ 20) : ∀ j, j < 100 → Rtry T 3 (Int32.ofNat (j + 1)) n t u := fun j hj T' w' => ahead_of (bt_Lnk h (w.trans w') hj) hu ht
theorem btF_s : btF n nh u S b f (j + 1) = if 0 < f then (if (btS S n nh u f j).2 < f then btF n nh u (btS S n nh u f j).1 (Int32.ofNat (j + 1)) (btS S n nh u f j).2 j else btF n nh u (btS S n nh u f j).1 b f j) else (b, S) := rfl
theorem try_23 (h : Lnk 1 S R n nh t) (w : sameW R T) (hu : u ≤ 30) (ht : t + 300 < 2 ^ 20) : (btF n nh u S (-1) 1000000000 100).1 = (btP T n t u).1 := by
  have hs := bt_step (f := 1000000000) h w (j := 99) (by omega) (show u ≤ 1000 by omega) (by omega)
  have hp := bt_pos h w (j := 99) (by omega) (show u ≤ 1000 by omega) (by omega)
  rw [show Int32.ofNat (99 + 1) = 100 from rfl] at hs hp
  have hc : rfV T 3 100 n t u < 1000000000 := by
    rw [ltI, show (1000000000 : Int32).toInt = 1000000000 from rfl]
    omega
  have h2 : Lnk 1 (btS S n nh u 1000000000 99).1 R n nh t := Lnk_Fr h btS_Fr (by decide)
  rw [show (100 : Nat) = 99 + 1 from rfl, btF_s, if_pos (show (0 : Int32) < 1000000000 from by decide), if_pos (hs.1.mpr hc), hs.2 hc]
  unfold btP
  exact bt_loop (by omega) (by omega) 99 _ _ _ _ (by decide) h2 (w.trans rf_W) hp.1
/-- culprit -/
theorem cu_Lnk (h : Lnk 1 S R n nh t) (w : sameW R T) (hi : i < n) : Lnk 2 (upI (trF S n nh) (17, 2, i) 11 0) (upI T (11, 0, 0) (46 + 11 * i) 0) n nh t := by
  have h2 := tr_Lnk' h w
  have h3 := Lnk_P (w := 10) (v := 0) h2 hi (by decide) (by decide) (NP_11 (N_NP h2 hi) (Or.inl rfl))
  rw [show 36 + 11 * i + 10 = 46 + 11 * i by omega] at h3
  exact h3
theorem cu_step (h : Lnk 1 S R n nh t) (w : sameW R T) (hi : i < n) (hu : u ≤ 1000) (ht : t + u < 2 ^ 20) : ((cuS S n nh u f i).2 < f ↔ rfV T (46 + 11 * i) 0 n t u < f) ∧ (rfV T (46 + 11 * i) 0 n t u < f → (cuS S n nh u f i).2 = rfV T (46 + 11 * i) 0 n t u) := try_lt (cu_Lnk h w hi) hu ht
theorem cu_loop (hu : u ≤ 1000) (ht : t + u < 2 ^ 20) : ∀ j i S T b f, i + j = n → Lnk 1 S R n nh t → sameW R T → (cuF n nh u S b f i j).1 = (cuR n t u T b f i j).1 := by
  intro j
  induction j with
  | zero => intro i S T b f _ _ _; rfl
  | succ j ih =>
    intro i S T b f hi h w
    have hs := cu_step (f := f) h w (i := i) (by omega) hu ht
    have h2 : Lnk 1 (cuS S n nh u f i).1 R n nh t := Lnk_Fr h cuS_Fr (by decide)
    have hon := (N_NP h (p := i) (by omega)).1
    have eg : gP T i 10 = S.1 (17, 1, i) 11 := ((Lnk_W h w).1.2.2.1 i 10 (by omega) (by decide)).symm
    unfold cuF cuR
    rw [eg]
    rcases hon with e0 | e0
    · rw [if_pos e0, e0, if_neg (by decide)]
      exact ih (i + 1) _ _ _ _ (by omega) h w
    · rw [e0, if_neg (by decide), if_pos rfl]
      by_cases hc : rfV T (46 + 11 * i) 0 n t u < f
      · rw [if_pos (hs.1.mpr hc), if_pos hc, imin_a hc, hs.2 hc]
        exact ih (i + 1) _ _ _ _ (by omega) h2 (w.trans rf_W)
      · rw [if_neg (fun e => hc (hs.1.mp e)), if_neg hc, imin_c hc]
        exact ih (i + 1) _ _ _ _ (by omega) h2 (w.trans rf_W)
theorem cu_tries (h : Lnk 1 S R n nh t) (w : sameW R T) (hu : u ≤ 1000) (ht : t + u < 2 ^ 20) : ∀ i, i < n → Rtry T (46 + 11 * i) 0 n t u := fun i hi T' w' => ahead_of (cu_Lnk h (w.trans w') hi) hu ht
theorem try_26 (h : Lnk 1 S R n nh t) (w : sameW R T) (hu : u ≤ 50) (ht : t + 300 < 2 ^ 20) : (cuF n nh u (cuT S n nh u).1 (-1) (cuT S n nh u).2 0 n).1 = (cuP T n t u).1 := by
  have h2 := tr_Lnk' h w
  have e : (cuT S n nh u).2 = raV T n t u := try_all h2 (by omega) (by omega)
  have h3 : Lnk 1 (cuT S n nh u).1 R n nh t := Lnk_Fr h (trF_Fr.trans (slF_Fr u)) (by decide)
  rw [e]
  exact cu_loop (by omega) (by omega) n 0 _ _ _ _ (by omega) h3 (w.trans ra_W)
end BT
