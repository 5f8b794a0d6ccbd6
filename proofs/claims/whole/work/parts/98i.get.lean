section GT
variable {n nh t k k' p i h z m u f pn pc fb fr : Nat} {S S' T T' U V R : St} {a b v y x w q : Int32}
theorem time_of (h : Lnk k S T n nh t) : T.1 (11, 0, 0) 7 = Int32.ofNat t := (Rok_of h).2.2.2.1
theorem nh_of (h : Lnk k S T n nh t) : T.1 (11, 0, 0) 0 = Int32.ofNat nh := by
  rw [← h.1.1 0 (by decide)]; exact h.2.2.2.1.2.2.2.2.1
theorem n_of (h : Lnk k S T n nh t) : T.1 (11, 0, 0) 1 = Int32.ofNat n := (Rok_of h).2.2.1
theorem cnt_eq (h : Lnk k S T n nh t) (hp : p < n) {w : Nat} (hw : w < 8) : S.2.1 (19, k, p) w = gC T p w := by
  by_cases h6 : w < 6
  · exact h.1.2.2.2.2.1 p w hp h6
  · have h2 := h.1.2.2.2.2.2.1 p hp
    rcases (show w = 6 ∨ w = 7 by omega) with e | e
    · subst e; exact (Int64.add_zero _).symm.trans h2.1
    · subst e; exact (Int64.add_zero _).symm.trans h2.2
/-- hours -/
theorem eh_of (h : Lnk k S T n nh t) : ehF S k = Int32.ofNat (t / 12) := by
  unfold ehF
  rw [h.2.2.2.1.2.2.2.2.2.1, show (12 : Int32) = Int32.ofNat 12 from rfl, oN_div (by have := h.2.2.2.1.2.2.1; omega) (by decide)]
theorem ehR_of (h : Lnk k S T n nh t) : T.1 (11, 0, 0) 7 / 12 = Int32.ofNat (t / 12) := by
  rw [time_of h, show (12 : Int32) = Int32.ofNat 12 from rfl, oN_div (by have := h.2.2.2.1.2.2.1; omega) (by decide)]
theorem fk_of (h : Lnk k S T n nh t) : fkF S k = Int32.ofNat (t / 12 - 24) := by
  have ht := h.2.2.2.1.2.2.1
  unfold fkF
  rw [eh_of h]
  apply Int32.toInt_inj.mp
  rw [imaxI, show (24 : Int32) = Int32.ofNat 24 from rfl, toInt_sub' (by omega) (by decide), oN_toInt (by omega), show (0 : Int32).toInt = 0 from rfl]
  omega
theorem hk_of (h : Lnk k S T n nh t) : hkR T = Int32.ofNat (t / 12 - (t / 12 - 24)) := by
  have ht := h.2.2.2.1.2.2.1
  unfold hkR
  rw [ehR_of h]
  apply Int32.toInt_inj.mp
  rw [iminI, show (24 : Int32) = Int32.ofNat 24 from rfl, oN_toInt (by omega), oN_toInt (by omega), oN_toInt (by omega)]
  omega
theorem fkR_of (h : Lnk k S T n nh t) : T.1 (11, 0, 0) 7 / 12 - hkR T = Int32.ofNat (t / 12 - 24) := by
  have ht := h.2.2.2.1.2.2.1
  rw [hk_of h, ehR_of h, oN_sub (by omega)]
  congr 1
  omega
theorem kept_iff (h : Lnk 1 S T n nh t) : (fkF S 1 ≤ q ∧ q < ehF S 1) ↔ (T.1 (11, 0, 0) 7 / 12 - hkR T ≤ q ∧ q ≤ T.1 (11, 0, 0) 7 / 12 - 1) := by
  have ht := h.2.2.2.1.2.2.1
  have e : (q < Int32.ofNat (t / 12)) ↔ (q ≤ Int32.ofNat (t / 12) - 1) := by
    rw [ltI, leI, subI (by rw [oN_toInt (by omega), show (1 : Int32).toInt = 1 from rfl]; omega) (by rw [oN_toInt (by omega), show (1 : Int32).toInt = 1 from rfl]; omega), show (1 : Int32).toInt = 1 from rfl]
    omega
  rw [fkR_of h, fk_of h, eh_of h, ehR_of h, e]
/-- size -/
theorem get_4 (h : Lnk 1 S T n nh t) (h0 : Und0 S T pn pc) (h1 : Bfr S T fb) (hw : w = 0 ∨ w = 1 ∨ w = 2 ∨ w = 3 ∨ w = 4 ∨ w = 5 ∨ w = 6 ∨ w = 7 ∨ w = 8 ∨ w = 9 ∨ w = 10 ∨ w = 11 ∨ w = 12) : szF S w = szR T w := by
  have m := h.1.1
  have ht := h.2.2.2.1.2.2.1
  rcases hw with e | e | e | e | e | e | e | e | e | e | e | e | e <;> subst e
  · exact m 0 (by decide)
  · exact m 1 (by decide)
  · exact m 2 (by decide)
  · exact m 3 (by decide)
  · exact m 4 (by decide)
  · exact m 5 (by decide)
  · exact m 6 (by decide)
  · exact m 7 (by decide)
  · show ehF S 1 - fkF S 1 = hkR T
    rw [hk_of h, eh_of h, fk_of h, oN_sub (by omega)]
  · exact h0.2.2.1.trans h0.2.2.2.2.symm
  · exact h1.2.1.trans h1.2.2.1.symm
  · exact m 8 (by decide)
  · exact m 9 (by decide)
theorem cntF_congr {f f' : Nat → Bool} : ∀ n, (∀ p, p < n → f p = f' p) → cntF f n = cntF f' n := by
  intro n
  induction n with
  | zero => intro _; rfl
  | succ n ih => intro h; unfold cntF; rw [ih (fun p hp => h p (by omega)), h n (by omega)]
theorem po_ro (h : Lnk k S T n nh t) (o : Bool) (a : Int32) : cntF (poF S k a (if o then 1 else 0)) n = cntF (roP T a (if o then 1 else 0)) n := by
  refine cntF_congr n (fun p hp => ?_)
  have e1 : gP T p 0 = S.1 (17, k, p) 1 := (h.1.2.2.1 p 0 hp (by decide)).symm
  have e2 : gP T p 10 = S.1 (17, k, p) 11 := (h.1.2.2.1 p 10 hp (by decide)).symm
  unfold poF roP
  rw [e1, e2]
  cases o
  · simp
  · rcases (N_NP h hp).1 with e3 | e3 <;> simp [e3]
/-- household -/
theorem get_5 (h : Lnk 1 S T n nh t) (hi : i < nh) (hw : w = 0 ∨ w = 1 ∨ w = 2 ∨ w = 3 ∨ w = 4 ∨ w = 5) : hhF S n i w = hhR T n i w := by
  have m := h.1.2.1
  rcases hw with e | e | e | e | e | e <;> subst e
  · exact m i 0 hi (by decide)
  · exact m i 1 hi (by decide)
  · exact m i 2 hi (by decide)
  · exact m i 3 hi (by decide)
  · exact po_ro h false (Int32.ofNat i)
  · exact po_ro h true (Int32.ofNat i)
/-- program -/
theorem get_6 (h : Lnk 1 S T n nh t) (hi : i < n) (hw : w = 0 ∨ w = 1 ∨ w = 2 ∨ w = 3 ∨ w = 4 ∨ w = 5 ∨ w = 6 ∨ w = 7 ∨ w = 8 ∨ w = 9 ∨ w = 10) : pgF S i w = gP T i w.toNatClampNeg := by
  have m := h.1.2.2.1
  rcases hw with e | e | e | e | e | e | e | e | e | e | e <;> subst e
  · exact m i 0 hi (by decide)
  · exact m i 1 hi (by decide)
  · exact m i 2 hi (by decide)
  · exact m i 3 hi (by decide)
  · exact m i 4 hi (by decide)
  · exact m i 5 hi (by decide)
  · exact m i 6 hi (by decide)
  · exact m i 7 hi (by decide)
  · exact m i 8 hi (by decide)
  · exact m i 9 hi (by decide)
  · have e := m i 10 hi (by decide)
    show (if S.1 (17, 1, i) 11 = 0 then (0 : Int32) else 1) = T.1 (11, 0, 0) (36 + 11 * i + 10)
    rw [← e]
    rcases (N_NP h hi).1 with e3 | e3 <;> simp [e3]
theorem sumJ_congr {f f' : Nat → Int64} : ∀ n, (∀ p, p < n → f p = f' p) → sumJ f n = sumJ f' n := by
  intro n
  induction n with
  | zero => intro _; rfl
  | succ n ih => intro h; unfold sumJ; rw [ih (fun p hp => h p (by omega)), h n (by omega)]
/-- total -/
theorem get_9 (h : Lnk 1 S T n nh t) {c : Nat} (hc : c < 8) : sumJ (fun p => S.2.1 (19, 1, p) c) n = sumJ (fun p => gC T p c) n := sumJ_congr n (fun p hp => cnt_eq h hp hc)
/-- latest -/
theorem get_10 (h : Lnk 1 S T n nh t) (hi : i < n) {c : Nat} (hc : c < 6) : (if S.1 (12, 1, 0) 5 = 0 then -1 else S.1 (18, 1, i) c) = (if T.1 (11, 0, 0) 7 = 0 then (-1 : Int32) else gL T i c) := by
  have e := h.1.2.2.2.1 i c hi hc
  have e7 := h.1.1 7 (by decide)
  rw [show scI 7 = 5 from rfl] at e7
  rw [e, e7]
  rfl
/-- isWarned -/
theorem get_11 (h : Lnk 1 S T n nh t) : S.1 (12, 1, 0) 8 = (if T.1 (11, 0, 0) 10 = 1 then 1 else 0) := by
  have e := h.1.1 10 (by decide)
  rw [show scI 10 = 8 from rfl] at e
  rw [← e]
  rcases h.2.2.2.2 with e3 | e3 <;> simp [e3]
/-- hour -/
theorem get_12 (h : Lnk 1 S T n nh t) (hi : i < nh) {c : Nat} (hc : c < 2 ^ 20) : S.1 (15, 1, 0) (phF (Int32.ofNat c) (Int32.ofNat i)).toNatClampNeg = T.1 (11, 0, 0) (240 + 6 * (c % 24) + i) := by
  have hnh := h.2.1.2.1
  have e := h.1.2.2.2.2.2.2.1 (c % 24) i (Nat.mod_lt _ (by decide)) hi
  rw [phN hc (by omega), oN_clamp (by have := Nat.mod_lt c (show 0 < 24 by decide); omega), e]
/-- mostYielding -/
theorem get_17 (h : Lnk 1 S T n nh t) : ∀ j, j ≤ n → myF (fun p => S.2.1 (19, 1, p) 3) j = (lrV (rmO T j), rmG T (rmO T j)) := by
  intro j
  induction j with
  | zero => intro _; rfl
  | succ j ih =>
    intro hj
    unfold myF rmO
    rw [ih (by omega)]
    dsimp only
    rw [cnt_eq h (by omega) (by decide)]
    by_cases e : rmG T (rmO T j) < gC T j 3
    · rw [if_pos e, if_pos e]; rfl
    · rw [if_neg e, if_neg e]
/-- dropRow -/
theorem get_18 (h : Lnk 1 S T n nh t) : ∀ j i, i + j = n → drF (fun p => S.2.1 (19, 1, p) 4) n q i j = drF (fun p => gC T p 4) n q i j := by
  intro j
  induction j with
  | zero => intro i _; rfl
  | succ j ih =>
    intro i hi
    unfold drF
    have e : cntF (rkF (fun p => S.2.1 (19, 1, p) 4) i) n = cntF (rkF (fun p => gC T p 4) i) n := by
      refine cntF_congr n (fun p hp => ?_)
      unfold rkF
      have e1 := cnt_eq h hp (w := 4) (by decide)
      have e2 := cnt_eq h (show i < n by omega) (w := 4) (by decide)
      simp only [e1, e2]
    rw [e, ih (i + 1) (by omega)]
end GT
