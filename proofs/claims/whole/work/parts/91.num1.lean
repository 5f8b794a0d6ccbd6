section NU1
variable {n nh t k p i j h w q g z : Nat} {S T U : St} {a b c v pr rf : Int32}
/-! numbers of a link stay in their bounds -/
theorem addI (h1 : -2147483648 ≤ a.toInt + b.toInt) (h2 : a.toInt + b.toInt < 2147483648) : (a + b).toInt = a.toInt + b.toInt := by
  rw [Int32.toInt_add]
  apply Int.bmod_eq_of_le <;> omega
theorem subI (h1 : -2147483648 ≤ a.toInt - b.toInt) (h2 : a.toInt - b.toInt < 2147483648) : (a - b).toInt = a.toInt - b.toInt := by
  rw [Int32.toInt_sub]
  apply Int.bmod_eq_of_le <;> omega
theorem mulI (h1 : -2147483648 ≤ a.toInt * b.toInt) (h2 : a.toInt * b.toInt < 2147483648) : (a * b).toInt = a.toInt * b.toInt := by
  rw [Int32.toInt_mul]
  apply Int.bmod_eq_of_le <;> omega
theorem divI (ha : 0 ≤ a.toInt) (hb : 0 < b.toInt) : (a / b).toInt = a.toInt / b.toInt := by
  have hne : ¬ b = -1 := fun e => by rw [e, show (-1 : Int32).toInt = -1 from rfl] at hb; omega
  rw [Int32.toInt_div_of_ne_right _ _ hne, Int.tdiv_eq_ediv_of_nonneg ha]
theorem ltI : (a < b) ↔ a.toInt < b.toInt := Int32.lt_iff_toInt_lt
theorem leI : (a ≤ b) ↔ a.toInt ≤ b.toInt := Int32.le_iff_toInt_le
theorem iminI : (imin a b).toInt = min a.toInt b.toInt := by
  unfold imin
  by_cases e : b < a
  · rw [if_pos e]; rw [ltI] at e; omega
  · rw [if_neg e]; rw [ltI] at e; omega
theorem imaxI : (imax a b).toInt = max a.toInt b.toInt := by
  unfold imax
  by_cases e : a < b
  · rw [if_pos e]; rw [ltI] at e; omega
  · rw [if_neg e]; rw [ltI] at e; omega
def sumI (f : Nat → Int) : Nat → Int
  | 0 => 0
  | n + 1 => sumI f n + f n
theorem sumI_congr {f f' : Nat → Int} : ∀ m, (∀ p, p < m → f p = f' p) → sumI f m = sumI f' m := by
  intro m
  induction m with
  | zero => intro _; rfl
  | succ m ih => intro h; unfold sumI; rw [ih (fun p hp => h p (by omega)), h m (by omega)]
theorem sumI_le {f f' : Nat → Int} : ∀ m, (∀ p, p < m → f p ≤ f' p) → sumI f m ≤ sumI f' m := by
  intro m
  induction m with
  | zero => intro _; exact Int.le_refl _
  | succ m ih => intro h; have h1 := ih (fun p hp => h p (by omega)); have h2 := h m (by omega); unfold sumI; omega
theorem sumI_mono {f : Nat → Int} {b : Nat} (hf : ∀ p, p < b → 0 ≤ f p) : ∀ a, a ≤ b → sumI f a ≤ sumI f b := by
  induction b with
  | zero => intro a ha; have : a = 0 := by omega
            subst this; exact Int.le_refl _
  | succ b ih =>
    intro a ha
    by_cases e : a = b + 1
    · rw [e]; exact Int.le_refl _
    · have h1 := ih (fun p hp => hf p (by omega)) a (by omega)
      have h2 := hf b (by omega)
      have e2 : sumI f (b + 1) = sumI f b + f b := rfl
      rw [e2]
      omega
/-- the bounds -/
def Num (S : St) (k n nh : Nat) : Prop := n ≤ 12 ∧ nh ≤ 6 ∧ (0 ≤ (S.1 (12, k, 0) 0).toInt ∧ (S.1 (12, k, 0) 0).toInt ≤ 9999) ∧ (1 ≤ (S.1 (12, k, 0) 1).toInt ∧ (S.1 (12, k, 0) 1).toInt ≤ 100) ∧ (0 ≤ (S.1 (12, k, 0) 2).toInt ∧ (S.1 (12, k, 0) 2).toInt ≤ 99) ∧ (0 ≤ (S.1 (12, k, 0) 3).toInt ∧ (S.1 (12, k, 0) 3).toInt ≤ (S.1 (12, k, 0) 2).toInt) ∧ (0 ≤ (S.1 (12, k, 0) 4).toInt ∧ (S.1 (12, k, 0) 4).toInt ≤ 9) ∧
  (∀ p, p < n → (S.1 (17, k, p) 11 = 0 ∨ S.1 (17, k, p) 11 = 1)) ∧
  (∀ p, p < n → ¬ S.1 (17, k, p) 1 < 0 ∧ hisF S k p < nh) ∧
  (∀ p, p < n → (S.1 (17, k, p) 2 = 0 ∨ S.1 (17, k, p) 2 = 1 ∨ S.1 (17, k, p) 2 = 2 ∨ S.1 (17, k, p) 2 = 3)) ∧
  (∀ p, p < n → 0 ≤ (S.1 (17, k, p) 4).toInt ∧ (S.1 (17, k, p) 4).toInt ≤ (S.1 (17, k, p) 3).toInt ∧ (S.1 (17, k, p) 3).toInt ≤ (S.1 (17, k, p) 5).toInt ∧ (S.1 (17, k, p) 5).toInt ≤ 999) ∧
  (∀ p, p < n → 0 ≤ (S.1 (17, k, p) 6).toInt ∧ (S.1 (17, k, p) 6).toInt ≤ 99 ∧ 0 ≤ (S.1 (17, k, p) 7).toInt ∧ (S.1 (17, k, p) 7).toInt ≤ 100 ∧ 0 ≤ (S.1 (17, k, p) 8).toInt ∧ (S.1 (17, k, p) 8).toInt ≤ 50 ∧ 0 ≤ (S.1 (17, k, p) 9).toInt ∧ (S.1 (17, k, p) 9).toInt ≤ 100) ∧
  (∀ h, h < nh → 0 ≤ (S.1 (16, k, h) 2).toInt ∧ (S.1 (16, k, h) 2).toInt ≤ 9999999)
/-- the offers -/
theorem offA_num {pri : Int32} (hr : 0 ≤ (S.1 (17, k, p) 3).toInt ∧ (S.1 (17, k, p) 3).toInt ≤ 999) (hb : 0 ≤ (S.1 (16, k, i) 2).toInt) (hp0 : 0 ≤ pri.toInt) : 0 ≤ (offA S k p i pri).toInt ∧ (offA S k p i pri).toInt ≤ 999 ∧ (offA S k p i pri).toInt * pri.toInt ≤ (S.1 (16, k, i) 2).toInt := by
  have hO : 0 ≤ (offO S k p).toInt ∧ (offO S k p).toInt ≤ 999 := by
    unfold offO
    split
    · rw [show (0 : Int32).toInt = 0 from rfl]; omega
    · exact hr
  have hW : 0 ≤ (offW S k p i).toInt ∧ (offW S k p i).toInt ≤ 999 := by
    unfold offW
    rw [iminI, imaxI, show (0 : Int32).toInt = 0 from rfl]
    omega
  unfold offA
  by_cases h0 : 0 < pri
  · rw [if_pos h0]
    have h1 : 0 < pri.toInt := by rw [ltI] at h0; exact h0
    have hd := divI hb h1
    have hd0 : 0 ≤ (S.1 (16, k, i) 2).toInt / pri.toInt := Int.ediv_nonneg hb (by omega)
    rw [iminI, hd]
    refine ⟨by omega, by omega, ?_⟩
    have h2 : min (offW S k p i).toInt ((S.1 (16, k, i) 2).toInt / pri.toInt) ≤ (S.1 (16, k, i) 2).toInt / pri.toInt := by omega
    have h3 := Int.mul_le_mul_of_nonneg_right h2 hp0
    have h4 := Int.ediv_mul_le (S.1 (16, k, i) 2).toInt (show pri.toInt ≠ 0 by omega)
    omega
  · rw [if_neg h0]
    have h1 : pri.toInt = 0 := by rw [ltI, show (0 : Int32).toInt = 0 from rfl] at h0; omega
    rw [h1, Int.mul_zero]
    omega
def offI (S V : St) (k h : Nat) (x : Int) (p : Nat) : Int := if hisF S k p = h then (adm V k p).toInt * x else 0
theorem ofL_num (hN : Num S k n nh) : ∀ j, j ≤ n → (∀ p, p < j → 0 ≤ (adm (ofL S k j) k p).toInt ∧ (adm (ofL S k j) k p).toInt ≤ 999) ∧ (∀ h, h < nh → 0 ≤ ((ofL S k j).1 (16, k, h) 2).toInt ∧ ((ofL S k j).1 (16, k, h) 2).toInt ≤ 9999999 ∧ ((ofL S k j).1 (16, k, h) 2).toInt + sumI (offI S (ofL S k j) k h (S.1 (12, k, 0) 2).toInt) j = (S.1 (16, k, h) 2).toInt) := by
  obtain ⟨hn, hnh, hcap, hthr, hpr, hrf, hfg, hon, hhs, hkd, hrt, hpg, hbl⟩ := hN
  intro j
  induction j with
  | zero => intro _; exact ⟨fun p hp => absurd hp (Nat.not_lt_zero p), fun h hh => ⟨(hbl h hh).1, (hbl h hh).2, by rw [show sumI (offI S (ofL S k 0) k h (S.1 (12, k, 0) 2).toInt) 0 = 0 from rfl, Int.add_zero]; rfl⟩⟩
  | succ j ih =>
    intro hj
    obtain ⟨iA, iB⟩ := ih (by omega)
    have hi := (hhs j (by omega)).2
    have hr := hrt j (by omega)
    have ha := offA_num (S := ofL S k j) (k := k) (p := j) (i := hisF S k j) (pri := S.1 (12, k, 0) 2) (by rw [ofL_p]; omega) (iB _ hi).1 hpr.1
    have eS : ofL S k (j + 1) = offF (ofL S k j) k j (hisF S k j) (S.1 (12, k, 0) 2) := rfl
    have hX := Int.mul_le_mul_of_nonneg_right ha.2.1 hpr.1
    have hX0 := Int.mul_nonneg ha.1 hpr.1
    have hX2 : (999 : Int) * (S.1 (12, k, 0) 2).toInt ≤ 98901 := by omega
    have hm : (offA (ofL S k j) k j (hisF S k j) (S.1 (12, k, 0) 2) * S.1 (12, k, 0) 2).toInt = (offA (ofL S k j) k j (hisF S k j) (S.1 (12, k, 0) 2)).toInt * (S.1 (12, k, 0) 2).toInt := mulI (by omega) (by omega)
    rw [eS]
    constructor
    · intro p hp
      by_cases e : p = j
      · rw [e, adm_off]; exact ⟨ha.1, ha.2.1⟩
      · rw [adm_off' e]; exact iA p (by omega)
    · intro h hh
      have hb := iB h hh
      have es : sumI (offI S (offF (ofL S k j) k j (hisF S k j) (S.1 (12, k, 0) 2)) k h (S.1 (12, k, 0) 2).toInt) (j + 1) = sumI (offI S (ofL S k j) k h (S.1 (12, k, 0) 2).toInt) j + (if hisF S k j = h then (offA (ofL S k j) k j (hisF S k j) (S.1 (12, k, 0) 2)).toInt * (S.1 (12, k, 0) 2).toInt else 0) := by
        rw [show sumI (offI S (offF (ofL S k j) k j (hisF S k j) (S.1 (12, k, 0) 2)) k h (S.1 (12, k, 0) 2).toInt) (j + 1) = sumI (offI S (offF (ofL S k j) k j (hisF S k j) (S.1 (12, k, 0) 2)) k h (S.1 (12, k, 0) 2).toInt) j + offI S (offF (ofL S k j) k j (hisF S k j) (S.1 (12, k, 0) 2)) k h (S.1 (12, k, 0) 2).toInt j from rfl]
        have e1 : sumI (offI S (offF (ofL S k j) k j (hisF S k j) (S.1 (12, k, 0) 2)) k h (S.1 (12, k, 0) 2).toInt) j = sumI (offI S (ofL S k j) k h (S.1 (12, k, 0) 2).toInt) j := sumI_congr j (fun p hp => by unfold offI; rw [adm_off' (by omega)])
        rw [e1]
        unfold offI
        rw [adm_off]
      have hq : (offF (ofL S k j) k j (hisF S k j) (S.1 (12, k, 0) 2)).1 (16, k, h) 2 = if h = hisF S k j then (ofL S k j).1 (16, k, hisF S k j) 2 - offA (ofL S k j) k j (hisF S k j) (S.1 (12, k, 0) 2) * S.1 (12, k, 0) 2 else (ofL S k j).1 (16, k, h) 2 := by
        have e := offF_H (S := ofL S k j) (k := k) (p := j) (i := hisF S k j) (h := h) (w := 1) (pr := S.1 (12, k, 0) 2)
        rw [if_neg (by omega)] at e
        rw [show (1 : Nat) + 1 = 2 from rfl] at e
        rw [e]
        by_cases e2 : h = hisF S k j
        · rw [if_pos ⟨e2, rfl⟩, if_pos e2]
        · rw [if_neg (fun e3 => e2 e3.1), if_neg e2]
      rw [es, hq]
      clear es hq
      by_cases e : h = hisF S k j
      · subst e
        rw [if_pos rfl, if_pos rfl, subI (by omega) (by omega), hm]
        omega
      · rw [if_neg e, if_neg (fun e2 => e e2.symm)]
        omega
end NU1
