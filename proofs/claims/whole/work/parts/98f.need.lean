section ND
variable {n nh t k k' p i j h w q g z m u f : Nat} {S S' T T' U V R : St} {a b v y pr rf e fo x nx : Int32} {c d : Nat}
/-- a sum of what is admitted -/
theorem sumF_num {f : Nat → Int32} : ∀ m, m ≤ 12 → (∀ p, p < m → 0 ≤ (f p).toInt ∧ (f p).toInt ≤ 999) → 0 ≤ (sumF f m).toInt ∧ (sumF f m).toInt ≤ 999 * m := by
  intro m
  induction m with
  | zero => intro _ _; exact ⟨Int.le_refl 0, Int.le_refl 0⟩
  | succ m ih =>
    intro hm h
    have i1 := ih (by omega) (fun p hp => h p (by omega))
    have i2 := h m (by omega)
    show 0 ≤ (sumF f m + f m).toInt ∧ (sumF f m + f m).toInt ≤ 999 * ((m + 1 : Nat) : Int)
    rw [addI (by omega) (by omega)]
    omega
/-- the slot: admitted and sent in all, as Ints -/
def aS (S : St) (k n : Nat) : Int := (sumF (adm (ofL S k n) k) n).toInt
def sS (S : St) (k n : Nat) : Int := ((sumN (gN (ps2 (ofL S k n) k n) k 0) n + sumN (gN (ps2 (ofL S k n) k n) k 1) n : Nat) : Int)
theorem psW_num (hN : Num S k n nh) : 0 ≤ aS S k n ∧ aS S k n ≤ 11988 ∧ (psW (ofL S k n) k n = true ↔ (S.1 (12, k, 0) 1).toInt * (S.1 (12, k, 0) 0).toInt < 100 * aS S k n) := by
  have hL := (ofL_num hN n (Nat.le_refl n)).1
  obtain ⟨hn, hnh, hcap, hthr, hpr, hrf, hfg, hon, hhs, hkd, hrt, hpg, hbl⟩ := hN
  have hs := sumF_num (f := adm (ofL S k n) k) n hn hL
  have hm := Int.mul_le_mul hthr.2 hcap.2 hcap.1 (by decide)
  have hm0 := Int.mul_nonneg (show 0 ≤ (S.1 (12, k, 0) 1).toInt by omega) hcap.1
  refine ⟨hs.1, by unfold aS; omega, ?_⟩
  unfold psW aS
  rw [decide_eq_true_iff, ltI, ofL_pr, ofL_pr, mulI (by omega) (by omega), mulI (by rw [show (100 : Int32).toInt = 100 from rfl]; omega) (by rw [show (100 : Int32).toInt = 100 from rfl]; omega)]
  rfl
theorem sS_num (hN : Num S k n nh) : 0 ≤ sS S k n ∧ sS S k n ≤ 23976 ∧ psV S k n = (if (S.1 (12, k, 0) 0).toInt < sS S k n then Int32.ofInt (sS S k n - (S.1 (12, k, 0) 0).toInt) else 0) := by
  have hP := ps2_num (yok_of hN)
  obtain ⟨c, hc, hc9⟩ := (Nok_of hN).2.1
  have hn := hN.1
  have b0 := gsum_le (y := 0) hP.1 hn
  have b1 := gsum_le (y := 1) hP.1 hn
  refine ⟨by unfold sS; omega, by unfold sS; omega, ?_⟩
  have ec : (S.1 (12, k, 0) 0).toInt = c := by rw [hc, oN_toInt (by omega)]
  rw [ec]
  unfold psV
  rcases deF_cases hP.1 hn (c := c) (by rw [ps2_lk (by decide), ofL_pr]; exact hc) hc9 with e | ⟨x, e1, e2, e4, e3⟩
  · rw [e.2.1, if_neg (by unfold sS; omega)]
  · rw [e4, if_pos (by unfold sS; omega)]
    unfold sS
    rw [show (((sumN (gN (ps2 (ofL S k n) k n) k 0) n + sumN (gN (ps2 (ofL S k n) k n) k 1) n : Nat) : Int) - (c : Int)) = (x : Int) by omega]
    rfl
/-- the same with another capacity -/
def Ec (T : St) (k d : Nat) : St := upI T (12, k, 0) 0 (Int32.ofNat d)
theorem Ec_0 : (Ec T k d).1 (12, k, 0) 0 = Int32.ofNat d := by unfold Ec; rw [upI_1, if_pos ⟨rfl, rfl⟩]
theorem Ec_num (h : Num T k n nh) (hd : d ≤ 9999) : Num (Ec T k d) k n nh := by
  rw [Num_iff] at h ⊢
  obtain ⟨a1, a2, a3, a4, a5⟩ := h
  unfold Ec
  exact ⟨a1, a2, NK_0 a3 (by rw [oN_toInt (by omega)]; omega), fun p hp => by rw [ru17]; exact a4 p hp, fun h hh => by rw [ru16]; exact a5 h hh⟩
theorem sumF_E {f : Nat → Nat} : sumF (adm (upI T (12, k, 0) 0 x) k) n = sumF (adm T k) n := sumF_congr n (fun p _ => adm_E)
theorem aS_E : aS (Ec T k d) k n = aS T k n := by
  unfold aS Ec
  rw [ofL_E, sumF_E (f := fun _ => 0)]
theorem psW_E (hN : Num T k n nh) (hc : T.1 (12, k, 0) 0 = Int32.ofNat c) (hc9 : c ≤ 9999) (hd : d ≤ 9999) (hcd : c ≤ d) (hw : psW (ofL T k n) k n = true → (T.1 (12, k, 0) 1).toInt * d < 100 * aS T k n) : psW (upI (ofL T k n) (12, k, 0) 0 (Int32.ofNat d)) k n = psW (ofL T k n) k n := by
  have h1 := psW_num hN
  have h2 := psW_num (Ec_num hN hd)
  rw [aS_E, Ec_0] at h2
  have e1 : (Ec T k d).1 (12, k, 0) 1 = T.1 (12, k, 0) 1 := ru1
  rw [e1] at h2
  unfold Ec at h2
  rw [ofL_E] at h2
  rw [hc] at h1
  rw [oN_toInt (by omega)] at h1 h2
  have hthr := hN.2.2.2.1
  by_cases e : psW (ofL T k n) k n = true
  · rw [e]
    exact h2.2.2.mpr (hw e)
  · have h3 : ¬ psW (upI (ofL T k n) (12, k, 0) 0 (Int32.ofNat d)) k n = true := fun e3 => by
      have h4 := h2.2.2.mp e3
      have h5 : (T.1 (12, k, 0) 1).toInt * (c : Int) ≤ (T.1 (12, k, 0) 1).toInt * (d : Int) := Int.mul_le_mul_of_nonneg_left (by omega) (by omega)
      exact e (h1.2.2.mpr (by omega))
    rw [Bool.not_eq_true] at e h3
    rw [e, h3]
theorem hyF_E : hyF (upI T (12, k, 0) 0 x) k p = hyF T k p := by unfold hyF; rw [ru18]
theorem gN_E {y : Int32} : gN (upI T (12, k, 0) 0 x) k y = gN T k y := by
  funext p
  unfold gN sN snt
  rw [hyF_E, adm_E, ru18]
theorem sS_E (hw : psW (upI (ofL T k n) (12, k, 0) 0 (Int32.ofNat d)) k n = psW (ofL T k n) k n) : sS (Ec T k d) k n = sS T k n := by
  unfold sS Ec
  rw [ofL_E, ps2_E hw, gN_E, gN_E]
/-- what the shaper reads behind a slot -/
theorem psF_L (hw : w < 4) : (psF S k n nh).1 (18, k, p) w = (ps2 (ofL S k n) k n).1 (18, k, p) w := by
  have e : (ptF (laF (ps5 S k n) k (ldF (ps5 S k n) k n).2 n) k nh).1 (18, k, p) w = (laF (ps5 S k n) k (ldF (ps5 S k n) k n).2 n).1 (18, k, p) w := by
    unfold ptF
    split
    · rw [ptL_o (by simp) (by simp), ptT_o (by simp)]
    · rw [ptT_o (by simp)]
  rw [psF_eq, e, laF_o' (by simp)]
  unfold ps5
  rw [dvL_L (by omega), ps3_o (by omega) (Or.inl (by simp))]
theorem psF_adm : adm (psF S k n nh) k p = adm (ofL S k n) k p := by
  unfold adm
  rw [psF_L (by decide), psF_L (by decide), psF_L (by decide), ps2_L (by decide), ps2_L (by decide), ps2_L (by decide)]
theorem psF_sent (hN : Num S k n nh) : (sumF (sbF (psF S k n nh) k 0) n + sumF (sbF (psF S k n nh) k 1) n).toInt = sS S k n := by
  have hP := ps2_num (yok_of hN)
  have hn := hN.1
  have b0 := gsum_le (y := 0) hP.1 hn
  have b1 := gsum_le (y := 1) hP.1 hn
  have es : ∀ y, sumF (sbF (psF S k n nh) k y) n = sumF (sbF (ps2 (ofL S k n) k n) k y) n := fun y => sumF_congr n (fun p _ => by
    unfold sbF hyF
    rw [psF_adm, psF_L (by decide), ps2_adm])
  rw [es, es, sb_sum hP.1, sb_sum hP.1, oN_add, oN_toInt (by omega)]
  rfl
theorem psF_w8 : ((psF S k n nh).1 (12, k, 0) 8 = 0) ↔ ¬ psW (ofL S k n) k n = true := by
  have e : (psF S k n nh).1 (12, k, 0) 8 = (ps2 (ofL S k n) k n).1 (12, k, 0) 8 := by
    rw [psF_eq, ptF_lk (by decide), laF_k]
    unfold ps5
    rw [dvL_k, ps3_o (by simp) (Or.inr (by decide))]
  rw [e]
  unfold ps2
  by_cases hw : psW (ofL S k n) k n = true
  · rw [if_pos hw, ylL_k, upI_1, if_neg (by simp), upI_1, if_pos ⟨rfl, rfl⟩]
    exact ⟨fun e => absurd e (by decide), fun e => absurd hw e⟩
  · rw [if_neg hw, upI_1, if_pos ⟨rfl, rfl⟩]
    exact ⟨fun _ => hw, fun _ => rfl⟩
theorem psF_cw (hN : Num S k n nh) : (cwF (psF S k n nh) k n).toInt = (100 * aS S k n + (S.1 (12, k, 0) 1).toInt - 1) / (S.1 (12, k, 0) 1).toInt := by
  have hA := psW_num hN
  have hthr := hN.2.2.2.1
  have e1 : (psF S k n nh).1 (12, k, 0) 1 = S.1 (12, k, 0) 1 := psF_k (by decide)
  have es : sumF (adm (psF S k n nh) k) n = sumF (adm (ofL S k n) k) n := sumF_congr n (fun p _ => psF_adm)
  have hpos : 0 < S.1 (12, k, 0) 1 := by rw [ltI, show (0 : Int32).toInt = 0 from rfl]; omega
  unfold cwF
  rw [e1, es, if_pos hpos]
  unfold aS at *
  have m1 : (100 * sumF (adm (ofL S k n) k) n).toInt = 100 * (sumF (adm (ofL S k n) k) n).toInt := mulI (by rw [show (100 : Int32).toInt = 100 from rfl]; omega) (by rw [show (100 : Int32).toInt = 100 from rfl]; omega)
  have m2 : (100 * sumF (adm (ofL S k n) k) n + S.1 (12, k, 0) 1).toInt = 100 * (sumF (adm (ofL S k n) k) n).toInt + (S.1 (12, k, 0) 1).toInt := by rw [addI (by omega) (by omega), m1]
  have m3 : (100 * sumF (adm (ofL S k n) k) n + S.1 (12, k, 0) 1 - 1).toInt = 100 * (sumF (adm (ofL S k n) k) n).toInt + (S.1 (12, k, 0) 1).toInt - 1 := by rw [subI (by rw [show (1 : Int32).toInt = 1 from rfl]; omega) (by rw [show (1 : Int32).toInt = 1 from rfl]; omega), m2]; rfl
  rw [divI (by omega) (by omega), m3]
end ND
