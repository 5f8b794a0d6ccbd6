section NU2
variable {n nh t k p i j h w q g z : Nat} {S T U : St} {a b c v pr rf : Int32}
theorem toN_le {v : Int32} {m : Nat} (h0 : 0 ≤ v.toInt) (h1 : v.toInt ≤ m) : v = Int32.ofNat v.toNatClampNeg ∧ v.toNatClampNeg ≤ m := by
  have e : v.toNatClampNeg = v.toInt.toNat := rfl
  refine ⟨(cl_eq (fun h => ?_)).symm, by rw [e]; omega⟩
  rw [ltI, show (0 : Int32).toInt = 0 from rfl] at h
  omega
theorem ofL_adm (hp : p < j) : ∀ m, j ≤ m → adm (ofL S k m) k p = adm (ofL S k j) k p := by
  intro m
  induction m with
  | zero => intro h; exact absurd hp (by omega)
  | succ m ih =>
    intro hm
    by_cases e : j = m + 1
    · rw [e]
    · rw [show ofL S k (m + 1) = offF (ofL S k m) k m (hisF S k m) (S.1 (12, k, 0) 2) from rfl, adm_off' (by omega), ih (by omega)]
/-- the yields -/
def yldI (S V : St) (k h : Nat) (x : Int) (p : Nat) : Int := if hisF S k p = h then (V.1 (18, k, p) 3).toInt * x else 0
/-- what the yields start from -/
def Yok (S : St) (k n nh : Nat) : Prop := n ≤ 12 ∧ nh ≤ 6 ∧ (0 ≤ (S.1 (12, k, 0) 2).toInt ∧ (S.1 (12, k, 0) 2).toInt ≤ 99) ∧ (0 ≤ (S.1 (12, k, 0) 3).toInt ∧ (S.1 (12, k, 0) 3).toInt ≤ (S.1 (12, k, 0) 2).toInt) ∧ (∀ p, p < n → hisF S k p < nh) ∧ (∀ p, p < n → 0 ≤ (S.1 (17, k, p) 7).toInt ∧ (S.1 (17, k, p) 7).toInt ≤ 100) ∧ (∀ p, p < n → S.1 (18, k, p) 3 = 0) ∧ (∀ p, p < n → 0 ≤ (adm S k p).toInt ∧ (adm S k p).toInt ≤ 999) ∧ (∀ h, h < nh → 0 ≤ (S.1 (16, k, h) 2).toInt ∧ (S.1 (16, k, h) 2).toInt + sumI (offI S S k h (S.1 (12, k, 0) 2).toInt) n ≤ 9999999)
theorem ylL_adm : adm (ylL S k j) k q = adm S k q := by
  induction j with
  | zero => rfl
  | succ j ih => unfold ylL; rw [adm_yld, ih]
theorem ylL_num (hY : Yok S k n nh) : ∀ j, j ≤ n → (∀ p, p < n → 0 ≤ ((ylL S k j).1 (18, k, p) 3).toInt ∧ ((ylL S k j).1 (18, k, p) 3).toInt ≤ (adm S k p).toInt) ∧ (∀ h, h < nh → ((ylL S k j).1 (16, k, h) 2).toInt = (S.1 (16, k, h) 2).toInt + sumI (yldI S (ylL S k j) k h (S.1 (12, k, 0) 3).toInt) j ∧ 0 ≤ sumI (yldI S (ylL S k j) k h (S.1 (12, k, 0) 3).toInt) j ∧ sumI (yldI S (ylL S k j) k h (S.1 (12, k, 0) 3).toInt) j ≤ sumI (offI S S k h (S.1 (12, k, 0) 2).toInt) j) := by
  obtain ⟨hn, hnh, hpr, hrf, hhs, hpc, h3, hA, hb⟩ := hY
  have hof : ∀ h p, p < n → 0 ≤ offI S S k h (S.1 (12, k, 0) 2).toInt p := by
    intro h p hp
    unfold offI
    split
    · exact Int.mul_nonneg (hA p hp).1 hpr.1
    · exact Int.le_refl 0
  intro j
  induction j with
  | zero =>
    intro _
    refine ⟨fun p hp => ?_, fun h hh => ?_⟩
    · rw [show (ylL S k 0).1 (18, k, p) 3 = S.1 (18, k, p) 3 from rfl, h3 p hp, show (0 : Int32).toInt = 0 from rfl]
      exact ⟨Int.le_refl 0, (hA p hp).1⟩
    · rw [show sumI (yldI S (ylL S k 0) k h (S.1 (12, k, 0) 3).toInt) 0 = 0 from rfl, show sumI (offI S S k h (S.1 (12, k, 0) 2).toInt) 0 = 0 from rfl, Int.add_zero]
      exact ⟨rfl, Int.le_refl 0, Int.le_refl 0⟩
  | succ j ih =>
    intro hj
    obtain ⟨iY, iB⟩ := ih (by omega)
    have hi := hhs j (by omega)
    have haj := hA j (by omega)
    have hpj := hpc j (by omega)
    have eS : ylL S k (j + 1) = yldF (ylL S k j) k j (hisF S k j) (S.1 (12, k, 0) 3) := rfl
    have hm1 := Int.mul_le_mul_of_nonneg_left hpj.2 haj.1
    have hm0 := Int.mul_nonneg haj.1 hpj.1
    have hm2 : ((adm S k j) * S.1 (17, k, j) 7).toInt = (adm S k j).toInt * (S.1 (17, k, j) 7).toInt := mulI (by omega) (by omega)
    have hN : (yldN (ylL S k j) k j).toInt = (adm S k j).toInt * (S.1 (17, k, j) 7).toInt / 100 := by
      unfold yldN
      rw [ylL_adm, ylL_P, divI (by rw [hm2]; exact hm0) (by decide), hm2]
      rfl
    have hN0 : 0 ≤ (yldN (ylL S k j) k j).toInt := by rw [hN]; exact Int.ediv_nonneg hm0 (by decide)
    have hN1 : (yldN (ylL S k j) k j).toInt ≤ (adm S k j).toInt := by rw [hN]; omega
    have hX0 := Int.mul_nonneg hN0 hrf.1
    have hX1 := Int.mul_le_mul hN1 hrf.2 hrf.1 haj.1
    have hX2 := Int.mul_le_mul_of_nonneg_right haj.2 hpr.1
    have hX3 : (999 : Int) * (S.1 (12, k, 0) 2).toInt ≤ 98901 := by omega
    have hmr : (yldN (ylL S k j) k j * S.1 (12, k, 0) 3).toInt = (yldN (ylL S k j) k j).toInt * (S.1 (12, k, 0) 3).toInt := mulI (by omega) (by omega)
    rw [eS]
    constructor
    · intro p hp
      rw [yldF_L]
      by_cases e : p = j
      · rw [if_pos ⟨e, rfl⟩, e]; exact ⟨hN0, hN1⟩
      · rw [if_neg (fun e2 => e e2.1)]; exact iY p hp
    · intro h hh
      obtain ⟨b1, b2, b3⟩ := iB h hh
      have hb9 := hb h hh
      have es : sumI (yldI S (yldF (ylL S k j) k j (hisF S k j) (S.1 (12, k, 0) 3)) k h (S.1 (12, k, 0) 3).toInt) (j + 1) = sumI (yldI S (ylL S k j) k h (S.1 (12, k, 0) 3).toInt) j + (if hisF S k j = h then (yldN (ylL S k j) k j).toInt * (S.1 (12, k, 0) 3).toInt else 0) := by
        rw [show sumI (yldI S (yldF (ylL S k j) k j (hisF S k j) (S.1 (12, k, 0) 3)) k h (S.1 (12, k, 0) 3).toInt) (j + 1) = sumI (yldI S (yldF (ylL S k j) k j (hisF S k j) (S.1 (12, k, 0) 3)) k h (S.1 (12, k, 0) 3).toInt) j + yldI S (yldF (ylL S k j) k j (hisF S k j) (S.1 (12, k, 0) 3)) k h (S.1 (12, k, 0) 3).toInt j from rfl]
        have e1 : sumI (yldI S (yldF (ylL S k j) k j (hisF S k j) (S.1 (12, k, 0) 3)) k h (S.1 (12, k, 0) 3).toInt) j = sumI (yldI S (ylL S k j) k h (S.1 (12, k, 0) 3).toInt) j := sumI_congr j (fun p hp => by unfold yldI; rw [yldF_L, if_neg (fun e : p = j ∧ 3 = 3 => absurd e.1 (by omega))])
        rw [e1]
        unfold yldI
        rw [yldF_L, if_pos (⟨rfl, rfl⟩ : j = j ∧ 3 = 3)]
      have eo : sumI (offI S S k h (S.1 (12, k, 0) 2).toInt) (j + 1) = sumI (offI S S k h (S.1 (12, k, 0) 2).toInt) j + (if hisF S k j = h then (adm S k j).toInt * (S.1 (12, k, 0) 2).toInt else 0) := rfl
      have hmono := sumI_mono (hof h) (j + 1) hj
      have hq : (yldF (ylL S k j) k j (hisF S k j) (S.1 (12, k, 0) 3)).1 (16, k, h) 2 = if h = hisF S k j then (ylL S k j).1 (16, k, hisF S k j) 2 + yldN (ylL S k j) k j * S.1 (12, k, 0) 3 else (ylL S k j).1 (16, k, h) 2 := by
        have e := yldF_H (S := ylL S k j) (k := k) (p := j) (i := hisF S k j) (h := h) (w := 1) (r := S.1 (12, k, 0) 3)
        rw [show (1 : Nat) + 1 = 2 from rfl] at e
        rw [e]
        by_cases e2 : h = hisF S k j
        · rw [if_pos ⟨e2, rfl⟩, if_pos e2]
        · rw [if_neg (fun e3 => e2 e3.1), if_neg e2]
      rw [es, hq]
      clear es hq
      rw [eo] at hmono ⊢
      by_cases e : h = hisF S k j
      · subst e
        rw [if_pos rfl] at hmono
        rw [if_pos rfl, if_pos rfl, if_pos rfl, addI (by omega) (by omega), hmr]
        omega
      · rw [if_neg (fun e2 => e e2.symm)] at hmono
        rw [if_neg e, if_neg (fun e2 => e e2.symm), if_neg (fun e2 => e e2.symm)]
        omega
end NU2
