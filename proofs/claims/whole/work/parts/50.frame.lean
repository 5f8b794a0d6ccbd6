section P25
variable {k l n nh : Nat} {S S' T : St}
/-! FRAMES: what works on link k leaves all else as it is. -/
def Fr (k : Nat) (S S' : St) : Prop := (∀ o : Ob, (o.2.1 ≠ k ∨ o.1 < 12) → S'.1 o = S.1 o ∧ S'.2.1 o = S.2.1 o) ∧ S'.2.2 = S.2.2
theorem Fr.refl : Fr k S S := ⟨fun _ _ => ⟨rfl, rfl⟩, rfl⟩
theorem Fr.trans (h1 : Fr k S S') (h2 : Fr k S' T) : Fr k S T := ⟨fun o h => ⟨(h2.1 o h).1.trans (h1.1 o h).1, (h2.1 o h).2.trans (h1.1 o h).2⟩, h2.2.trans h1.2⟩
theorem fr_ne {o : Ob} {t i : Nat} (ht : 12 ≤ t) (h : o.2.1 ≠ k ∨ o.1 < 12) : o ≠ (t, k, i) := by
  intro e
  rw [e] at h
  rcases h with h | h
  · exact h rfl
  · exact absurd (show t < 12 from h) (by omega)
theorem Fr_upI {t i f : Nat} {v : Int32} (h : Fr k S T) (ht : 12 ≤ t) : Fr k S (upI T (t, k, i) f v) := h.trans ⟨fun o h => ⟨upI_fun' _ _ _ (fr_ne ht h), rfl⟩, rfl⟩
theorem Fr_upJ {t i f : Nat} {v : Int64} (h : Fr k S T) (ht : 12 ≤ t) : Fr k S (upJ T (t, k, i) f v) := h.trans ⟨fun o h => ⟨rfl, upJ_fun' _ _ _ (fr_ne ht h)⟩, rfl⟩
theorem Fr_rwI {t i : Nat} {g : Nat → Int32} (h : Fr k S T) (ht : 12 ≤ t) : Fr k S (rwI T (t, k, i) g) := h.trans ⟨fun o h => ⟨rwI_fun' _ _ (fr_ne ht h), rfl⟩, rfl⟩
theorem Fr_rwJ {t i : Nat} {g : Nat → Int64} (h : Fr k S T) (ht : 12 ≤ t) : Fr k S (rwJ T (t, k, i) g) := h.trans ⟨fun o h => ⟨rfl, rwJ_fun' _ _ (fr_ne ht h)⟩, rfl⟩
theorem ofL_Fr : ∀ j, Fr k S (ofL S k j) := by
  intro j
  induction j with
  | zero => exact Fr.refl
  | succ j ih =>
    unfold ofL offF
    exact Fr_upI (Fr_upI (Fr_upI (Fr_upI (Fr_upI (Fr_upI (Fr_upI ih (by decide)) (by decide)) (by decide)) (by decide)) (by decide)) (by decide)) (by decide)
theorem ylL_Fr : ∀ j, Fr k S (ylL S k j) := by
  intro j
  induction j with
  | zero => exact Fr.refl
  | succ j ih =>
    unfold ylL yldF
    exact Fr_upI (Fr_upI ih (by decide)) (by decide)
theorem dvL_Fr : ∀ j, Fr k S (dvL S k j) := by
  intro j
  induction j with
  | zero => exact Fr.refl
  | succ j ih =>
    unfold dvL dlvF
    exact Fr_upJ (Fr_upJ (Fr_upJ (Fr_upJ (Fr_upJ (Fr_upJ (Fr_upJ (Fr_upJ (Fr_upI (Fr_upI ih (by decide)) (by decide)) (by decide)) (by decide)) (by decide)) (by decide)) (by decide)) (by decide)) (by decide)) (by decide)
theorem daA_Fr {y u s : Int32} : ∀ j, Fr k S (daA S k y u s j).1 := by
  intro j
  induction j with
  | zero => exact Fr.refl
  | succ j ih =>
    unfold daA
    split
    · exact Fr_upI ih (by decide)
    · exact ih
theorem daB_Fr {y u : Int32} : ∀ j, Fr k S (daB S k y u j).1 := by
  intro j
  induction j with
  | zero => exact Fr.refl
  | succ j ih =>
    unfold daB
    split
    · exact Fr_upI ih (by decide)
    · exact ih
theorem daF_Fr {y u s : Int32} : Fr k S (daF S k n y u s) := by
  unfold daF
  split
  · exact (daA_Fr n).trans (daB_Fr n)
  · exact Fr.refl
theorem deF_Fr : Fr k S (deF S k n) := by
  unfold deF
  split
  · exact daF_Fr.trans daF_Fr
  · exact Fr.refl
theorem lrnF_Fr {p : Nat} {w f l : Int32} : Fr k S (lrnF S k p w f l) := by
  unfold lrnF
  split
  · exact Fr_upI (Fr_upI (Fr_upI Fr.refl (by decide)) (by decide)) (by decide)
  · split
    · exact Fr_upI (Fr_upI Fr.refl (by decide)) (by decide)
    · split
      · exact Fr_upI (Fr_upI (Fr_upI Fr.refl (by decide)) (by decide)) (by decide)
      · exact Fr_upI (Fr_upI Fr.refl (by decide)) (by decide)
theorem laF_Fr {l : Int32} : ∀ j, Fr k S (laF S k l j) := by
  intro j
  induction j with
  | zero => exact Fr.refl
  | succ j ih =>
    unfold laF
    split
    · exact ih
    · exact ih.trans lrnF_Fr
theorem ptL_Fr : ∀ j, Fr k S (ptL S k j) := by
  intro j
  induction j with
  | zero => exact Fr.refl
  | succ j ih =>
    unfold ptL phR
    exact Fr_upI (Fr_upI (Fr_upI ih (by decide)) (by decide)) (by decide)
theorem ptF_Fr : Fr k S (ptF S k nh) := by
  have hT : Fr k S (ptT S k) := Fr_upI Fr.refl (by decide)
  unfold ptF
  split
  · exact hT.trans (ptL_Fr nh)
  · exact hT
theorem ps2_Fr : Fr k S (ps2 S k n) := by
  unfold ps2
  split
  · exact Fr.trans (Fr_upI (Fr_upI Fr.refl (by decide)) (by decide)) (ylL_Fr n)
  · exact Fr_upI Fr.refl (by decide)
theorem ps3_Fr : Fr k S (ps3 S k n) := by
  unfold ps3
  split
  · exact Fr_upI deF_Fr (by decide)
  · exact deF_Fr
theorem psF_Fr : Fr k S (psF S k n nh) := (ofL_Fr n).trans (ps2_Fr.trans (ps3_Fr.trans ((dvL_Fr n).trans ((laF_Fr n).trans ptF_Fr))))
theorem slF_Fr {e : Int32} : ∀ j, Fr k S (slF S k n nh e j).1 := by
  intro j
  induction j with
  | zero => exact Fr.refl
  | succ j ih =>
    unfold slF
    split
    · exact ih.trans psF_Fr
    · exact ih
theorem lcF_Fr {k' : Nat} : Fr k S (lcF S k k' n nh) := by
  refine ⟨fun o h => lcF_fr h, ?_⟩
  have h1 : ∀ j, (hcL (lc0 S k k') k k' j).2.2 = S.2.2 := by
    intro j
    induction j with
    | zero => rfl
    | succ j ih => exact ih
  have h2 : ∀ (T : St) j, (pcL T k k' j).2.2 = T.2.2 := by
    intro T j
    induction j with
    | zero => rfl
    | succ j ih => exact ih
  unfold lcF hrC
  rw [rwI_2, h2, h1]
theorem Lok_Fr {n' nh' t : Nat} (h : Fr k S S') (hl : l ≠ k) (hL : Lok S l n' nh' t) : Lok S' l n' nh' t :=
  have hf := fun a b g => congrFun (h.1 (a, l, b) (Or.inl hl)).1 g
  Lok_fr hL (hf _ _ _) (hf _ _ _) (hf _ _ _) (fun p => hf _ _ _) (fun p => hf _ _ _)
theorem Lob_Fr {n' : Nat} (h : Fr k S S') (hl : l ≠ k) (hB : Lob S l n') : Lob S' l n' :=
  have hf := fun a b g => congrFun (h.1 (a, l, b) (Or.inl hl)).1 g
  ⟨by rw [hf]; exact hB.1, fun p hp => by rw [hf]; exact hB.2 p hp⟩
end P25
