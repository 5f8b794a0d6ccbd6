section MN
variable {n nh t k p i j h w q g z : Nat} {S T U V : St} {a b c v y pr rf e : Int32}
/-- a link of the shaper and the reference's row, with all bounds -/
def Lnr (k : Nat) (S : St) (r : Nat → Int32) (l : Nat → Int64) (n nh t : Nat) : Prop := Mid k S r l n nh (fun _ => 0) (fun _ => 0) ∧ Num S k n nh ∧ Cok S k n nh t ∧ Lok S k n nh t ∧ (S.1 (12, k, 0) 8 = 0 ∨ S.1 (12, k, 0) 8 = 1)
def Lnk (k : Nat) (S T : St) (n nh t : Nat) : Prop := Lnr k S (T.1 (11, 0, 0)) (T.2.1 (11, 5, 0)) n nh t
theorem ps2_8 : (ps2 S k n).1 (12, k, 0) 8 = 0 ∨ (ps2 S k n).1 (12, k, 0) 8 = 1 := by
  unfold ps2
  split
  · rw [ylL_k, upI_1, if_neg (by simp), upI_1, if_pos ⟨rfl, rfl⟩]; exact Or.inr rfl
  · rw [upI_1, if_pos ⟨rfl, rfl⟩]; exact Or.inl rfl
theorem psF_8 : (psF S k n nh).1 (12, k, 0) 8 = 0 ∨ (psF S k n nh).1 (12, k, 0) 8 = 1 := by
  rw [psF_eq, ptF_lk (by decide), laF_k]
  unfold ps5
  rw [dvL_k, ps3_o (by simp) (Or.inr (by decide))]
  exact ps2_8
theorem Lnk_slot (h : Lnk k S T n nh t) (ht : t + 1 < 2 ^ 20) : Lnk k (psF S k n nh) (rpF T n t) n nh (t + 1) ∧ psV S k n = rpV T n ∧ Rpre T n := by
  obtain ⟨h1, h2, h3, h4, h5⟩ := h
  have hs := slot_rel h1 (Nok_of h2) (show t < 2 ^ 20 by omega) h4.2.2.2.2.2.1
  exact ⟨⟨hs.1, psF_num h2, psF_Cok h2 h3 (by omega) h4.2.2.2.2.2.1, psF_ok h4 ht, psF_8⟩, hs.2.1, hs.2.2⟩
/-- the shaper's slots without an end -/
def spI (S : St) (k n nh : Nat) : Nat → St × Int32
  | 0 => (S, 0)
  | j + 1 => (psF (spI S k n nh j).1 k n nh, (spI S k n nh j).2 + psV (spI S k n nh j).1 k n)
theorem Lnk_many (h : Lnk k S T n nh t) : ∀ j, t + j < 2 ^ 20 → j ≤ 1000 → Lnk k (spI S k n nh j).1 (rmI T n t j).1 n nh (t + j) ∧ (spI S k n nh j).2 = (rmI T n t j).2 ∧ 0 ≤ (spI S k n nh j).2.toInt ∧ (spI S k n nh j).2.toInt ≤ 23976 * j := by
  intro j
  induction j with
  | zero => intro _ _; exact ⟨h, rfl, Int.le_refl 0, Int.le_refl 0⟩
  | succ j ih =>
    intro hj hj2
    obtain ⟨i1, i2, i3, i4⟩ := ih (by omega) (by omega)
    have hs := Lnk_slot i1 (by omega)
    have hv := psV_num i1.2.1
    refine ⟨hs.1, ?_, ?_⟩
    · show (spI S k n nh j).2 + psV (spI S k n nh j).1 k n = (rmI T n t j).2 + rpV (rmI T n t j).1 n
      rw [i2, hs.2.1]
    · show 0 ≤ ((spI S k n nh j).2 + psV (spI S k n nh j).1 k n).toInt ∧ ((spI S k n nh j).2 + psV (spI S k n nh j).1 k n).toInt ≤ 23976 * ((j + 1 : Nat) : Int)
      rw [addI (by omega) (by omega)]
      omega
theorem Rpre_many (h : Lnk k S T n nh t) (hj : t + j + 1 < 2 ^ 20) (hj2 : j ≤ 1000) : Rpre (rmI T n t j).1 n := (Lnk_slot (Lnk_many h j (by omega) hj2).1 (by omega)).2.2
theorem spI_mono (h : Lnk k S T n nh t) {i : Nat} : ∀ j, t + (i + j) < 2 ^ 20 → i + j ≤ 1000 → (spI S k n nh i).2.toInt ≤ (spI S k n nh (i + j)).2.toInt := by
  intro j
  induction j with
  | zero => intro _ _; exact Int.le_refl _
  | succ j ih =>
    intro hj hj2
    have i1 := ih (by omega) (by omega)
    have hm := Lnk_many h (i + j) (by omega) (by omega)
    have hv := psV_num hm.1.2.1
    show _ ≤ ((spI S k n nh (i + j)).2 + psV (spI S k n nh (i + j)).1 k n).toInt
    rw [addI (by omega) (by omega)]
    omega
/-- the shaper's slots with an end: all of them, or enough is dropped -/
theorem slF_cases (h : Lnk k S T n nh t) : ∀ j, t + j < 2 ^ 20 → j ≤ 1000 → slF S k n nh e j = spI S k n nh j ∨ (e ≤ (slF S k n nh e j).2 ∧ (slF S k n nh e j).2 ≤ (spI S k n nh j).2) := by
  intro j
  induction j with
  | zero => intro _ _; exact Or.inl rfl
  | succ j ih =>
    intro hj hj2
    have hm := spI_mono h (i := j) 1 (by omega) (by omega)
    rw [show slF S k n nh e (j + 1) = if (slF S k n nh e j).2 < e then (psF (slF S k n nh e j).1 k n nh, (slF S k n nh e j).2 + psV (slF S k n nh e j).1 k n) else slF S k n nh e j from rfl]
    by_cases hc : (slF S k n nh e j).2 < e
    · rw [if_pos hc]
      rcases ih (by omega) (by omega) with i1 | i1
      · rw [i1]; exact Or.inl rfl
      · rw [leI] at i1
        rw [ltI] at hc
        omega
    · rw [if_neg hc]
      rw [ltI] at hc
      rcases ih (by omega) (by omega) with i1 | i1
      · rw [i1] at hc ⊢
        exact Or.inr ⟨by rw [leI]; omega, by rw [leI]; exact hm⟩
      · rw [leI, leI] at i1
        exact Or.inr ⟨by rw [leI]; omega, by rw [leI]; omega⟩
theorem slF_all (h : Lnk k S T n nh t) (hj : t + j < 2 ^ 20) (hj2 : j ≤ 1000) : slF S k n nh 1000000000 j = spI S k n nh j := by
  rcases slF_cases (e := 1000000000) h j hj hj2 with i1 | i1
  · exact i1
  · have hm := Lnk_many h j hj hj2
    rw [leI, leI, show (1000000000 : Int32).toInt = 1000000000 from rfl] at i1
    omega
/-- below a mark the slots with that end are all of them -/
theorem slF_lt (h : Lnk k S T n nh t) (hj : t + j < 2 ^ 20) (hj2 : j ≤ 1000) : ((slF S k n nh e j).2 < e ↔ (rmI T n t j).2 < e) ∧ ((rmI T n t j).2 < e → (slF S k n nh e j).2 = (rmI T n t j).2) := by
  have hm := Lnk_many h j hj hj2
  rcases slF_cases (e := e) h j hj hj2 with i1 | i1
  · rw [i1, hm.2.1]; exact ⟨Iff.rfl, fun _ => rfl⟩
  · rw [hm.2.1] at i1
    rw [leI, leI] at i1
    rw [ltI, ltI]
    exact ⟨⟨fun a => by omega, fun a => by omega⟩, fun a => by omega⟩
end MN
