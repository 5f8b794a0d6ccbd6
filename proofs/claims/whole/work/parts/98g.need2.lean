section NE
variable {n nh t k k' p i h w q g z m u f : Nat} {S S' T T' U V R : St} {a b v y pr rf e fo x nx : Int32} {c d : Nat}
theorem spI_front : ∀ j, spI S k n nh (j + 1) = ((spI (psF S k n nh) k n nh j).1, psV S k n + (spI (psF S k n nh) k n nh j).2) := by
  intro j
  induction j with
  | zero =>
    show (psF S k n nh, 0 + psV S k n) = (psF S k n nh, psV S k n + 0)
    rw [Int32.zero_add, Int32.add_zero]
  | succ j ih =>
    rw [show spI S k n nh (j + 1 + 1) = (psF (spI S k n nh (j + 1)).1 k n nh, (spI S k n nh (j + 1)).2 + psV (spI S k n nh (j + 1)).1 k n) from rfl, ih]
    dsimp only
    rw [show spI (psF S k n nh) k n nh (j + 1) = (psF (spI (psF S k n nh) k n nh j).1 k n nh, (spI (psF S k n nh) k n nh j).2 + psV (spI (psF S k n nh) k n nh j).1 k n) from rfl]
    dsimp only
    rw [Int32.add_assoc]
theorem ofI_toInt {v : Int} (h0 : 0 ≤ v) (h1 : v < 2147483648) : (Int32.ofInt v).toInt = v := by
  rw [Int32.toInt_ofInt, show Int32.size = 4294967296 from rfl]
  apply Int.bmod_eq_of_le <;> omega
theorem Lnk_Ec (h : Lnk 2 T U n nh t) (hd : d ≤ 9999) : Lnk 2 (Ec T 2 d) (upI U (11, 0, 0) 2 (Int32.ofNat d)) n nh t := Lnk_k (g := 2) h (by decide) (by decide) (NK_0 (N_NK h) (by rw [oN_toInt (by omega)]; omega))
theorem Ec_Ec : Ec (Ec T k c) k d = Ec T k d := by unfold Ec; rw [upI_upI]
theorem cw_lt {A : Int} {thr : Int} (ht : 1 ≤ thr) : ((d : Int) < (100 * A + thr - 1) / thr) ↔ thr * d < 100 * A := by
  have h1 : ((d : Int) + 1 ≤ (100 * A + thr - 1) / thr) ↔ ((d : Int) + 1) * thr ≤ 100 * A + thr - 1 := Int.le_ediv_iff_mul_le (by omega)
  have h2 : ((d : Int) + 1) * thr = thr * d + thr := by rw [Int.add_mul, Int.one_mul, Int.mul_comm]
  rw [h2] at h1
  constructor
  · intro h; have := h1.mp (by omega); omega
  · intro h; have := h1.mpr (by omega); omega
theorem ncN_num (hN : Num T 2 n nh) (hc : T.1 (12, 2, 0) 0 = Int32.ofNat c) (hc9 : c ≤ 9999) (h1 : (c : Int) < nx.toInt) : (c : Int) < (ncN (psF T 2 n nh) n nx).toInt ∧ (ncN (psF T 2 n nh) n nx).toInt ≤ nx.toInt ∧ (psW (ofL T 2 n) 2 n = true → ∀ d : Nat, (d : Int) < (ncN (psF T 2 n nh) n nx).toInt → (T.1 (12, 2, 0) 1).toInt * d < 100 * aS T 2 n) := by
  have hW := psW_num hN
  have hthr := hN.2.2.2.1
  have hcw := psF_cw hN
  rw [hc, oN_toInt (by omega)] at hW
  unfold ncN
  by_cases hw : psW (ofL T 2 n) 2 n = true
  · rw [if_neg (fun e => psF_w8.mp e hw), iminI, hcw]
    have h2 := (cw_lt (d := c) (A := aS T 2 n) hthr.1).mpr (hW.2.2.mp hw)
    refine ⟨by omega, by omega, fun _ d hd => (cw_lt (d := d) (A := aS T 2 n) hthr.1).mp (by omega)⟩
  · rw [if_pos (psF_w8.mpr hw)]
    exact ⟨h1, Int.le_refl _, fun e => absurd e hw⟩
theorem ncF_s {j : Nat} {c : Int32} : ncF n nh c T nx (j + 1) = if 0 < psV T 2 n then (imin (ncN (psF T 2 n nh) n nx) (sumF (sbF (psF T 2 n nh) 2 0) n + sumF (sbF (psF T 2 n nh) 2 1) n), psF T 2 n nh) else ncF n nh c (psF T 2 n nh) (ncN (psF T 2 n nh) n nx) j := rfl
theorem ncF_skip (hc9 : c ≤ 9999) : ∀ j T U nx t, Lnk 2 T U n nh t → t + j < 2 ^ 20 → j ≤ 1000 → T.1 (12, 2, 0) 0 = Int32.ofNat c → (c : Int) < nx.toInt → ((ncF n nh (Int32.ofNat c) T nx j).1 = Int32.ofNat c ∧ (spI T 2 n nh j).2 = 0) ∨ ((c : Int) < (ncF n nh (Int32.ofNat c) T nx j).1.toInt ∧ (ncF n nh (Int32.ofNat c) T nx j).1.toInt ≤ nx.toInt ∧ ∀ d : Nat, c ≤ d → d ≤ 9999 → (d : Int) < (ncF n nh (Int32.ofNat c) T nx j).1.toInt → 0 < (spI (Ec T 2 d) 2 n nh j).2.toInt) := by
  intro j
  induction j with
  | zero => intro T U nx t _ _ _ _ _; exact Or.inl ⟨rfl, rfl⟩
  | succ j ih =>
    intro T U nx t h ht hj hc hnx
    have hN := h.2.1
    have hX := ncN_num (nx := nx) hN hc hc9 hnx
    have hS := sS_num hN
    have hcI : (T.1 (12, 2, 0) 0).toInt = c := by rw [hc, oN_toInt (by omega)]
    rw [hcI] at hS
    rw [ncF_s]
    generalize ncN (psF T 2 n nh) n nx = nx' at *
    by_cases hv : 0 < psV T 2 n
    · have hlt : (c : Int) < sS T 2 n := by
        by_cases e : (c : Int) < sS T 2 n
        · exact e
        · rw [hS.2.2, if_neg e] at hv
          exact absurd hv (by decide)
      have hsent := psF_sent hN
      rw [if_pos hv]
      refine Or.inr ?_
      dsimp only
      rw [iminI, hsent]
      refine ⟨by omega, by omega, fun d hcd hd9 hd => ?_⟩
      have hE := Ec_num hN hd9
      have hpw := psW_E (d := d) hN hc hc9 hd9 hcd (fun e => hX.2.2 e d (by omega))
      have hSE := sS_num hE
      rw [sS_E hpw, Ec_0, oN_toInt (by omega), if_pos (by omega)] at hSE
      have hm := spI_mono (Lnk_Ec h hd9) (i := 1) j (by omega) (by omega)
      rw [Nat.add_comm 1 j] at hm
      have h1 : (spI (Ec T 2 d) 2 n nh 1).2 = psV (Ec T 2 d) 2 n := by
        show 0 + psV (Ec T 2 d) 2 n = _
        rw [Int32.zero_add]
      rw [h1, hSE.2.2, ofI_toInt (by omega) (by omega)] at hm
      omega
    · have hv0 : psV T 2 n = 0 := by
        have h2 := psV_num hN
        rw [ltI, show (0 : Int32).toInt = 0 from rfl] at hv
        apply Int32.toInt_inj.mp
        rw [show (0 : Int32).toInt = 0 from rfl]
        omega
      have hge : sS T 2 n ≤ c := by
        by_cases e : (c : Int) < sS T 2 n
        · have h3 := hS.2.2
          rw [if_pos e, hv0] at h3
          have h4 := congrArg Int32.toInt h3
          rw [ofI_toInt (by omega) (by omega), show (0 : Int32).toInt = 0 from rfl] at h4
          omega
        · omega
      rw [if_neg hv]
      have hs := Lnk_slot h (by omega)
      have ih2 := ih (psF T 2 n nh) (rpF U n t) nx' (t + 1) hs.1 (by omega) (by omega) (by rw [psF_k (by decide)]; exact hc) hX.1
      rcases ih2 with i1 | i1
      · refine Or.inl ⟨i1.1, ?_⟩
        rw [spI_front, hv0, i1.2]
        rfl
      · refine Or.inr ⟨i1.1, Int.le_trans i1.2.1 hX.2.1, fun d hcd hd9 hd => ?_⟩
        have hE := Ec_num hN hd9
        have hpw := psW_E (d := d) hN hc hc9 hd9 hcd (fun e => hX.2.2 e d (by omega))
        have hSE := sS_num hE
        rw [sS_E hpw, Ec_0, oN_toInt (by omega), if_neg (by omega)] at hSE
        have hps : psF (Ec T 2 d) 2 n nh = Ec (psF T 2 n nh) 2 d := psF_E hpw hv0 hSE.2.2
        rw [spI_front, hSE.2.2, hps, Int32.zero_add]
        exact i1.2.2 d hcd hd9 hd
theorem nc_run (h : Lnk 1 S R n nh t) (w : sameW R T) (hd : d ≤ 9999) (hu : u ≤ 1000) (ht : t + u < 2 ^ 20) : rfV T 2 (Int32.ofNat d) n t u = (spI (Ec (trF S n nh) 2 d) 2 n nh u).2 := by
  have h2 := Lnk_W (Lnk_Ec (d := d) (tr_Lnk' h w) hd) gas_W
  exact (Lnk_many h2 u ht hu).2.1.symm
theorem ncR_skip : ∀ e c T r, c + e = r → r ≤ 10000 → sameW R T → (∀ d T', c ≤ d → d < r → sameW R T' → 0 < rfV T' 2 (Int32.ofNat d) n t u) → ∃ T', sameW R T' ∧ ncR n t u T c (10000 - c) = ncR n t u T' r (10000 - r) := by
  intro e
  induction e with
  | zero => intro c T r he hr w _; exact ⟨T, w, by rw [← he]; rfl⟩
  | succ e ih =>
    intro c T r he hr w hp
    obtain ⟨T', w', h'⟩ := ih (c + 1) (rfS T 2 (Int32.ofNat c) n t u) r (by omega) hr (w.trans rf_W) (fun d T' h1 h2 h3 => hp d T' (by omega) h2 h3)
    refine ⟨T', w', ?_⟩
    rw [← h', show 10000 - c = (10000 - (c + 1)) + 1 by omega]
    unfold ncR
    rw [if_pos (hp c T (by omega) (by omega) w), show 10000 - (c + 1) = 10000 - c - 1 by omega]
    cases hq : 10000 - c - 1 with
    | zero => unfold ncR; rfl
    | succ z => rfl
theorem naF_s {j : Nat} {x : Int32} : naF n nh u S x (j + 1) = if 9999 < x then (-1, S) else if (ncG n nh u S x).1 = x then (x, (ncG n nh u S x).2) else naF n nh u (ncG n nh u S x).2 (ncG n nh u S x).1 j := rfl
theorem nc_main (hu : u ≤ 1000) (ht : t + u < 2 ^ 20) : ∀ j c S T, c ≤ 10000 → 10000 ≤ c + j → Lnk 1 S R n nh t → sameW R T → (naF n nh u S (Int32.ofNat c) j).1 = ncW (ncR n t u T c (10000 - c)).1 := by
  intro j
  induction j with
  | zero =>
    intro c S T hc hj _ _
    have e : c = 10000 := by omega
    subst e
    rfl
  | succ j ih =>
    intro c S T hc hj h w
    rw [naF_s]
    by_cases e : c = 10000
    · subst e
      rw [if_pos (by decide)]
      rfl
    · have hc9 : c ≤ 9999 := by omega
      have hl : ¬ (9999 : Int32) < Int32.ofNat c := by rw [ltI, oN_toInt (by omega), show (9999 : Int32).toInt = 9999 from rfl]; omega
      rw [if_neg hl]
      have h2 := Lnk_Ec (d := c) (tr_Lnk' h w) hc9
      have hk := ncF_skip (nx := 10000) hc9 u (Ec (trF S n nh) 2 c) _ t h2 ht hu Ec_0 (by rw [show (10000 : Int32).toInt = 10000 from rfl]; omega)
      rw [show ncF n nh (Int32.ofNat c) (Ec (trF S n nh) 2 c) 10000 u = ncG n nh u S (Int32.ofNat c) from rfl, show (10000 : Int32).toInt = 10000 from rfl] at hk
      have hFr : Fr 2 S (ncG n nh u S (Int32.ofNat c)).2 := ncG_Fr
      have hstep : ncR n t u T c (10000 - c) = if 0 < rfV T 2 (Int32.ofNat c) n t u then ncR n t u (rfS T 2 (Int32.ofNat c) n t u) (c + 1) (10000 - c - 1) else (c, rfS T 2 (Int32.ofNat c) n t u) := by
        cases hq : 10000 - c with
        | zero => omega
        | succ z => rfl
      rcases hk with i1 | i1
      · rw [i1.1, if_pos rfl, hstep, nc_run h w hc9 hu ht, i1.2, if_neg (by decide)]
        unfold ncW
        rw [if_pos hc9]
      · have hne : ¬ (ncG n nh u S (Int32.ofNat c)).1 = Int32.ofNat c := fun e => by
          rw [e, oN_toInt (by omega)] at i1
          omega
        rw [if_neg hne]
        have hr := toN_le (v := (ncG n nh u S (Int32.ofNat c)).1) (m := 10000) (by omega) (by omega)
        have hrI : ((ncG n nh u S (Int32.ofNat c)).1.toNatClampNeg : Int) = (ncG n nh u S (Int32.ofNat c)).1.toInt := by
          rw [show (ncG n nh u S (Int32.ofNat c)).1.toNatClampNeg = (ncG n nh u S (Int32.ofNat c)).1.toInt.toNat from rfl]
          omega
        generalize hrr : (ncG n nh u S (Int32.ofNat c)).1.toNatClampNeg = r at *
        obtain ⟨T', w', h'⟩ := ncR_skip (n := n) (t := t) (u := u) (r - c) c T r (by omega) (by omega) w (fun d T' h1 h2 h3 => by
          rw [nc_run h h3 (by omega) hu ht, ltI, show (0 : Int32).toInt = 0 from rfl, ← Ec_Ec (c := c)]
          exact i1.2.2 d h1 (by omega) (by omega))
        rw [h', hr.1]
        exact ih r _ T' (by omega) (by omega) (Lnk_Fr h hFr (by decide)) w'
theorem nc_tries (h : Lnk 1 S R n nh t) (w : sameW R T) (hu : u ≤ 1000) (ht : t + u < 2 ^ 20) : ∀ c, c < 10000 → Rtry T 2 (Int32.ofNat c) n t u := fun c hc T' w' => ahead_of (Lnk_Ec (d := c) (tr_Lnk' h (w.trans w')) (by omega)) hu ht
theorem try_24 (h : Lnk 1 S R n nh t) (w : sameW R T) (hu : u ≤ 10) (ht : t + 300 < 2 ^ 20) : (naF n nh u S 1 9999).1 = ncW (ncR n t u T 1 9999).1 := nc_main (by omega) (by omega) 9999 1 S T (by decide) (by decide) h w
end NE
