section TR
variable {n nh t k k' p i j h w q g z m u : Nat} {S S' T T' U V : St} {a b c v y pr rf e f : Int32}
/-! TRIALS -/
theorem tr_Lnk (h : Lnk 1 S S n nh t) (w : sameW S T) : Lnk 2 (trF S n nh) T n nh t := Lnk_W (Lnk_Eqk h (lcF_Eqk (by decide))) w
theorem gas_W : sameW T (gasF T) := ⟨fun j _ => congrFun gas_0 j, fun j _ => congrFun gas_5 j⟩
theorem Fr_W (h : Fr k S S') : sameW S S' := ⟨fun j _ => by rw [(h.1 (11, 0, 0) (Or.inr (by simp))).1], fun j _ => by rw [(h.1 (11, 5, 0) (Or.inr (by simp))).2]⟩
theorem ahead_of (h : Lnk k S T n nh t) (hu : u ≤ 1000) (ht : t + u < 2 ^ 20) : Rahead T n t u := fun j hj => Rpre_many (Lnk_W h gas_W) (by omega) (by omega)
/-- slots of a trial on both sides -/
theorem try_lt (h : Lnk k S T n nh t) (hu : u ≤ 1000) (ht : t + u < 2 ^ 20) : ((slF S k n nh e u).2 < e ↔ raV T n t u < e) ∧ (raV T n t u < e → (slF S k n nh e u).2 = raV T n t u) := slF_lt (Lnk_W h gas_W) ht hu
theorem try_all (h : Lnk k S T n nh t) (hu : u ≤ 1000) (ht : t + u < 2 ^ 20) : (slF S k n nh 1000000000 u).2 = raV T n t u := by
  have h2 := Lnk_W h gas_W
  rw [slF_all h2 ht hu, (Lnk_many h2 u ht hu).2.1]
  rfl
theorem raV_bd (h : Lnk k S T n nh t) (hu : u ≤ 1000) (ht : t + u < 2 ^ 20) : 0 ≤ (raV T n t u).toInt ∧ (raV T n t u).toInt ≤ 23976 * u := by
  have h2 := Lnk_many (Lnk_W h gas_W) u ht hu
  have e : raV T n t u = (spI S k n nh u).2 := h2.2.1.symm
  rw [e]
  exact h2.2.2
/-- dropsIn -/
theorem try_19 (h : Lnk 1 S S n nh t) (w : sameW S T) (hu : u ≤ 200) (ht : t + 300 < 2 ^ 20) : (slF (trF S n nh) 2 n nh 1000000000 u).2 = raV T n t u ∧ Rahead T n t u := by
  have h2 := tr_Lnk h w
  exact ⟨try_all h2 (by omega) (by omega), ahead_of h2 (by omega) (by omega)⟩
/-- deliveredIn -/
theorem try_20 (h : Lnk 1 S S n nh t) (w : sameW S T) (hu : u ≤ 200) (ht : t + 300 < 2 ^ 20) (hi : i < n) : ((slF (trF S n nh) 2 n nh 1000000000 u).1.2.1 (19, 2, i) 5 - (slF (trF S n nh) 2 n nh 1000000000 u).1.2.1 (19, 1, i) 5).toInt32 = (gC (rmI (gasF T) n t u).1 i 5 - gC (gasF T) i 5).toInt32 := by
  have h2 := Lnk_W (tr_Lnk h w) gas_W
  have h3 := (Lnk_many h2 u (by omega) (by omega)).1
  have e1 : (slF (trF S n nh) 2 n nh 1000000000 u).1.2.1 (19, 1, i) 5 = S.2.1 (19, 1, i) 5 := by
    rw [((slF_Fr u).1 (19, 1, i) (Or.inl (by simp))).2, (trF_Fr.1 (19, 1, i) (Or.inl (by simp))).2]
  have e2 : gC (gasF T) i 5 = S.2.1 (19, 1, i) 5 := by
    have m5 := (Lnk_W (Lnk_W h w) gas_W).1.2.2.2.2.1 i 5 hi (by decide)
    exact m5.symm
  have e3 : gC (rmI (gasF T) n t u).1 i 5 = (spI (trF S n nh) 2 n nh u).1.2.1 (19, 2, i) 5 := (h3.1.2.2.2.2.1 i 5 hi (by decide)).symm
  rw [e1, e2, e3, slF_all h2 (by omega) (by omega)]
theorem psV_zero (h : Lnk k S T n nh t) (ht : t + 1 < 2 ^ 20) : (0 < psV S k n) ↔ ¬ rpV T n = 0 := by
  have h1 := (Lnk_slot h ht).2.1
  have h2 := psV_num h.2.1
  rw [← h1]
  constructor
  · intro h e
    rw [e] at h
    exact absurd h (by decide)
  · intro hne
    rw [ltI, show (0 : Int32).toInt = 0 from rfl]
    have : (psV S k n).toInt ≠ 0 := fun e => hne (Int32.toInt_inj.mp e)
    omega
/-- firstDrop -/
theorem try_21 (h : Lnk k S T n nh t) (hk : k = 2) : ∀ j i, t + i + j + 1 < 2 ^ 20 → i + j = 200 → (fdF n nh (spI S k n nh i).1 (i + 1) j).1 = (if fdR T n t i j = 200 then -1 else Int32.ofNat (fdR T n t i j + 1)) := by
  subst hk
  intro j
  induction j with
  | zero =>
    intro i _ hi
    rw [show fdR T n t i 0 = i from rfl, if_pos (by omega)]
    rfl
  | succ j ih =>
    intro i ht hi
    have hm := (Lnk_many h i (by omega) (by omega)).1
    have hz := psV_zero hm (by omega)
    have ih2 := ih (i + 1) (by omega) (by omega)
    rw [show fdR T n t i (j + 1) = if rpV (rmI T n t i).1 n = 0 then fdR T n t (i + 1) j else i from rfl]
    rw [show fdF n nh (spI S 2 n nh i).1 (i + 1) (j + 1) = if 0 < psV (spI S 2 n nh i).1 2 n then (Int32.ofNat (i + 1), psF (spI S 2 n nh i).1 2 n nh) else fdF n nh (psF (spI S 2 n nh i).1 2 n nh) (i + 1 + 1) j from rfl]
    by_cases e : rpV (rmI T n t i).1 n = 0
    · rw [if_pos e, if_neg (fun e2 => hz.mp e2 e)]
      exact ih2
    · rw [if_neg e, if_pos (hz.mpr e), if_neg (by omega)]
theorem try_21' (h : Lnk 1 S S n nh t) (w : sameW S T) (ht : t + 300 < 2 ^ 20) : (fdF n nh (trF S n nh) 1 200).1 = fdW (gasF T) n t ∧ Rahead T n t 200 := by
  have h2 := Lnk_W (tr_Lnk h w) gas_W
  have h3 := try_21 h2 rfl 200 0 (by omega) (by omega)
  exact ⟨h3, ahead_of (tr_Lnk h w) (by omega) (by omega)⟩
/-- calmIn -/
theorem try_22 (h : Lnk k S T n nh t) (hk : k = 2) : ∀ j i c, t + i + j + 1 < 2 ^ 20 → i + j = 202 → (c = 0 ∨ c = 1 ∨ c = 2) → (caF n nh (spI S k n nh i).1 c (i + 1) j).1 = caW (caR T n t c i j) := by
  subst hk
  intro j
  induction j with
  | zero =>
    intro i c _ hi hc
    rw [show caR T n t c i 0 = (c, i) from rfl]
    unfold caW
    rw [if_neg (show ¬ (c, i).1 = 3 from by rcases hc with e | e | e <;> subst e <;> simp)]
    rfl
  | succ j ih =>
    intro i c ht hi hc
    have hm := (Lnk_many h i (by omega) (by omega)).1
    have hz := psV_zero hm (by omega)
    have ih2 := fun c => ih (i + 1) c (by omega) (by omega)
    have h3 : ¬ 3 ≤ c := by rcases hc with e | e | e <;> subst e <;> decide
    rw [show caR T n t c i (j + 1) = if 3 ≤ c then (c, i) else caR T n t (if rpV (rmI T n t i).1 n = 0 then c + 1 else 0) (i + 1) j from rfl, if_neg h3]
    rw [show caF n nh (spI S 2 n nh i).1 c (i + 1) (j + 1) = if (if 0 < psV (spI S 2 n nh i).1 2 n then 0 else c + 1) = 3 then (Int32.ofNat (i + 1) - 3 + 1, psF (spI S 2 n nh i).1 2 n nh) else caF n nh (psF (spI S 2 n nh i).1 2 n nh) (if 0 < psV (spI S 2 n nh i).1 2 n then 0 else c + 1) (i + 1 + 1) j from rfl]
    by_cases e : rpV (rmI T n t i).1 n = 0
    · rw [if_pos e, if_neg (fun e2 => hz.mp e2 e)]
      rcases hc with e3 | e3 | e3
      · subst e3
        rw [if_neg (by decide)]
        exact ih2 1 (by decide)
      · subst e3
        rw [if_neg (by decide)]
        exact ih2 2 (by decide)
      · subst e3
        rw [if_pos (by decide)]
        have e4 : caR T n t (2 + 1) (i + 1) j = (3, i + 1) := by
          cases j with
          | zero => rfl
          | succ j => unfold caR; rw [if_pos (by decide)]; rfl
        rw [e4]
        unfold caW
        rw [if_pos rfl]
        dsimp only
        rw [Int32.sub_eq_add_neg, Int32.add_assoc, Int32.sub_eq_add_neg]
        congr 1
    · rw [if_neg e, if_pos (hz.mpr e), if_neg (by decide)]
      exact ih2 0 (by decide)
theorem try_22' (h : Lnk 1 S S n nh t) (w : sameW S T) (ht : t + 300 < 2 ^ 20) : (caF n nh (trF S n nh) 0 1 202).1 = caW (caE (gasF T) n t) ∧ Rahead T n t 202 := by
  have h2 := Lnk_W (tr_Lnk h w) gas_W
  have h3 := try_22 h2 rfl 202 0 0 (by omega) (by omega) (Or.inl rfl)
  exact ⟨h3, ahead_of (tr_Lnk h w) (by omega) (by omega)⟩
end TR
