section RP
variable {n nh t k k' p i h z m u f pn pc fb fr b x j : Nat} {S S' T T' U V R : St} {q c : Int32} {v w v' w' : Int64} {l l' : List Nat}
/-! REPORTS -/
theorem Lnk_x (h : Lnk 1 S T n nh t) (c : ∀ o : Ob, 12 ≤ o.1 → o.2.1 = 1 → S'.1 o = S.1 o ∧ S'.2.1 o = S.2.1 o) : Lnk 1 S' T n nh t := Lnk_Eqk h (Eqk_of (fun o ho h1 _ => (c o h1 ho).1) (fun o ho h1 _ => (c o h1 ho).2))
theorem Und_x (h : Und S T pn pc) (c : ∀ o : Ob, 12 ≤ o.1 → 3 ≤ o.2.1 → o.2.1 ≤ 10 → S'.1 o = S.1 o ∧ S'.2.1 o = S.2.1 o) : Und S' T pn pc := fun i hi => by
  obtain ⟨n, nh, t, a1, a2⟩ := h i hi
  have hm := Nat.mod_lt (pn + 8 - pc + i) (show 0 < 8 by decide)
  exact ⟨n, nh, t, a1, Lnr_Eqk a2 (Eqk_of (fun o ho h1 _ => (c o h1 (by omega) (by omega)).1) (fun o ho h1 _ => (c o h1 (by omega) (by omega)).2)) (fun _ _ => rfl) (fun _ _ => rfl)⟩
theorem Snp_x (h : Snp S T) (e : S'.1 (7, 0, 0) = S.1 (7, 0, 0)) (c : ∀ o : Ob, 12 ≤ o.1 → 11 ≤ o.2.1 → S'.1 o = S.1 o ∧ S'.2.1 o = S.2.1 o) : Snp S' T := fun i hi => by
  rw [e]
  obtain ⟨a1, a2, a3⟩ := h i hi
  refine ⟨a1, a2, fun e => ?_⟩
  obtain ⟨n, nh, t, b1, b2⟩ := a3 e
  exact ⟨n, nh, t, b1, Lnr_Eqk b2 (Eqk_of (fun o ho h1 _ => (c o h1 (by omega)).1) (fun o ho h1 _ => (c o h1 (by omega)).2)) (fun _ _ => rfl) (fun _ _ => rfl)⟩
theorem Rdz_x (h : Rdz S) (c : ∀ o : Ob, 12 ≤ o.1 → o.2.1 = 0 → S'.1 o = S.1 o ∧ S'.2.1 o = S.2.1 o) : Rdz S' := by
  obtain ⟨a1, a2, a3, a4⟩ := h
  refine ⟨fun h hh => ?_, fun p hp => ?_, fun z hz => ?_, fun g h1 h2 => ?_⟩
  · rw [(c (16, 0, h) (by simp) rfl).1]; exact a1 h hh
  · rw [(c (17, 0, p) (by simp) rfl).1, (c (18, 0, p) (by simp) rfl).1, (c (19, 0, p) (by simp) rfl).2]; exact a2 p hp
  · rw [(c (15, 0, 0) (by simp) rfl).1]; exact a3 z hz
  · rw [(c (12, 0, 0) (by simp) rfl).1]; exact a4 g h1 h2
theorem Und_m (h : Und S T pn pc) (e1 : T'.1 (11, 2, 0) = T.1 (11, 2, 0)) (e2 : T'.2.1 (11, 7, 0) = T.2.1 (11, 7, 0)) : Und S T' pn pc := by unfold Und; rw [e1, e2]; exact h
theorem Snp_m (h : Snp S T) (e1 : T'.1 (11, 3, 0) = T.1 (11, 3, 0)) (e2 : T'.2.1 (11, 8, 0) = T.2.1 (11, 8, 0)) (e3 : T'.1 (11, 10, 0) = T.1 (11, 10, 0)) : Snp S T' := by unfold Snp; rw [e1, e2, e3]; exact h
theorem Bfr_x (h : Bfr S T f) (e1 : S'.1 (1, 0, 0) 7 = S.1 (1, 0, 0) 7) (e2 : S'.1 (2, 0, 0) = S.1 (2, 0, 0)) (e3 : T'.1 (8, 0, 0) 14 = T.1 (8, 0, 0) 14) (e4 : T'.1 (11, 11, 0) = T.1 (11, 11, 0)) : Bfr S' T' f := by unfold Bfr; rw [e1, e2, e3, e4]; exact h
theorem Rpt_x (h : Rpt S T f) (e1 : S'.1 (3, 0, 0) = S.1 (3, 0, 0)) (e2 : S'.1 (4, 0, 0) = S.1 (4, 0, 0)) (e3 : T'.1 (8, 0, 0) 28 = T.1 (8, 0, 0) 28) (e4 : T'.1 (11, 15, 0) = T.1 (11, 15, 0)) : Rpt S' T' f := by unfold Rpt; rw [e1, e2, e3, e4]; exact h
theorem Und0_x (h : Und0 S T pn pc) (e1 : S'.1 (0, 0, 0) = S.1 (0, 0, 0)) (e3 : T'.1 (8, 0, 0) 11 = T.1 (8, 0, 0) 11) : Und0 S' T' pn pc := by unfold Und0; rw [e1, e3]; exact h
/-- the texts written beside each other -/
theorem pw_row : ∀ (l : List Int32) (S T : St) (b : Nat), (∀ i, i < b → S.1 (4, 0, 0) i = T.1 (11, 15, 0) i) → ∀ i, i < b + l.length → (prL S b l).1 (4, 0, 0) i = (wrL T b l).1 (11, 15, 0) i := by
  intro l
  induction l with
  | nil => intro S T b h i hi; exact h i hi
  | cons v l ih =>
    intro S T b h i hi
    rw [List.length_cons] at hi
    refine ih (prF S b v) (wrF T b v) (b + 1) (fun i hi => ?_) i (by omega)
    have e1 : (prF S b v).1 (4, 0, 0) i = if i = b then v else S.1 (4, 0, 0) i := by unfold prF; simp [upI_1]
    have e2 : (wrF T b v).1 (11, 15, 0) i = if i = b then v else T.1 (11, 15, 0) i := by unfold wrF; simp [upI_1]
    rw [e1, e2]
    by_cases e : i = b
    · rw [if_pos e, if_pos e]
    · rw [if_neg e, if_neg e]
      exact h i (by omega)
theorem prL_1 : ∀ (l : List Int32) (S : St) (b : Nat), S.1 (3, 0, 0) 1 = Int32.ofNat b → (prL S b l).1 (3, 0, 0) 1 = Int32.ofNat (b + l.length) := by
  intro l
  induction l with
  | nil => intro S b h; exact h
  | cons v l ih =>
    intro S b h
    rw [List.length_cons, show b + (l.length + 1) = b + 1 + l.length by omega]
    exact ih (prF S b v) (b + 1) (by unfold prF; rw [upI_1, if_pos ⟨rfl, rfl⟩])
theorem prL_oo : ∀ (l : List Int32) (S : St) (b : Nat) (o : Ob), o.1 ≠ 3 → o.1 ≠ 4 → (prL S b l).1 o = S.1 o := by
  intro l
  induction l with
  | nil => intro S b o _ _; rfl
  | cons v l ih =>
    intro S b o h1 h2
    refine (ih (prF S b v) (b + 1) o h1 h2).trans ?_
    unfold prF
    rw [upI_fun' _ _ _ (fun e => h1 (by rw [e])), upI_fun' _ _ _ (fun e => h2 (by rw [e]))]
theorem prL_22 : ∀ (l : List Int32) (S : St) (b : Nat), (prL S b l).2 = S.2 := by
  intro l
  induction l with
  | nil => intro S b; rfl
  | cons v l ih => intro S b; exact (ih (prF S b v) (b + 1)).trans rfl
/-- a name's letters are the same text -/
theorem nm_C (h : NmP v w) : ∀ g, g < 8 → isC (96 + ltF v (Int32.ofNat g)) := by
  obtain ⟨l, h8, hL, hv, hw⟩ := h
  intro g hg
  have key : ∀ c : Fin 27, isC (Int32.ofNat (96 + c.val)) := by unfold isC; decide
  have hc : l.getD g 0 < 27 := by
    by_cases e : g < l.length
    · have h3 : l.getD g 0 ∈ l := by
        rw [List.getD_eq_getElem?_getD, List.getElem?_eq_getElem e]
        exact List.getElem_mem e
      have := (hL _ h3).2
      omega
    · rw [getD_0 (by omega)]
      decide
  rw [hv, ltF_at h8 hL hg, show (96 : Int32) = Int32.ofNat 96 from rfl, oN_add]
  exact key ⟨_, hc⟩
theorem nm_pn (h8 : l.length ≤ 8) (hL : Ltr l) : ∀ j i, i + j = 8 → i ≤ l.length → pnL (Int64.ofNat (nmC l 0)) i j = lnL (Int64.ofNat (nmR l 0)) i (l.length - i) := by
  intro j
  induction j with
  | zero => intro i h1 h2; rw [show l.length - i = 0 by omega]; rfl
  | succ j ih =>
    intro i h1 h2
    unfold pnL
    rw [ltF_at h8 hL (by omega)]
    by_cases e : i < l.length
    · have h3 : l.getD i 0 ∈ l := by
        rw [List.getD_eq_getElem?_getD, List.getElem?_eq_getElem e]
        exact List.getElem_mem e
      have h4 := hL _ h3
      rw [if_pos (by rw [ltI, oN_toInt (by omega), show (0 : Int32).toInt = 0 from rfl]; omega), ih (i + 1) (by omega) (by omega), show l.length - i = (l.length - (i + 1)) + 1 by omega]
      rw [show lnL (Int64.ofNat (nmR l 0)) i (l.length - (i + 1) + 1) = (96 + loN (Int64.ofNat (nmR l 0)) (Int32.ofNat i)) :: lnL (Int64.ofNat (nmR l 0)) (i + 1) (l.length - (i + 1)) from rfl, loN_at h8 hL (by omega)]
    · rw [getD_0 (by omega), if_neg (by decide), show l.length - i = 0 by omega]
      rfl
theorem nm_line (h : NmP v w) {r y d : Nat} : lineC v r y d q = lineR w r y d q := by
  obtain ⟨l, h8, hL, hv, hw⟩ := h
  unfold lineC lineR
  rw [hv, hw, nm_pn h8 hL 8 0 (by omega) (by omega), nm_len h8 hL, Nat.sub_zero]
def rrF (S : St) (i : Nat) : Nat := (S.1 (17, 1, i) 3).toNatClampNeg
def ryF' (S : St) (i : Nat) : Nat := (S.1 (17, 1, i) 7).toNatClampNeg
def rdF' (S : St) (i : Nat) : Nat := (S.2.1 (19, 1, i) 5).toInt.toNat
theorem toJ_le {v : Int64} {m : Nat} (h0 : 0 ≤ v.toInt) (h1 : v.toInt ≤ m) (hm : m < 2 ^ 62) : v = Int64.ofNat v.toInt.toNat ∧ v.toInt.toNat ≤ m := by
  refine ⟨?_, by omega⟩
  apply Int64.toInt_inj.mp
  rw [J_ofNat (by omega)]
  omega
theorem op_35 (h : InvP S T n nh t pn pc fb fr) : Cnum (upI S (3, 0, 0) 1 0) n (rrF S) (ryF' S) (rdF' S) ∧ Rnum (repS T) n (rrF S) (ryF' S) (rdF' S) ∧ repC (lineT (upI S (3, 0, 0) 1 0) (rrF S) (ryF' S) (rdF' S)) n = repL (repS T) (lineS (repS T) (rrF S) (ryF' S) (rdF' S)) n ∧ (repC (lineT (upI S (3, 0, 0) 1 0) (rrF S) (ryF' S) (rdF' S)) n).length ≤ 500 := by
  have hL := h.1.1
  have ht := h.1.2
  have hn := hL.2.1.1
  have hbd : ∀ i, i < n → S.1 (17, 1, i) 3 = Int32.ofNat (rrF S i) ∧ S.1 (17, 1, i) 7 = Int32.ofNat (ryF' S i) ∧ S.2.1 (19, 1, i) 5 = Int64.ofNat (rdF' S i) ∧ rrF S i < 1000 ∧ ryF' S i < 1000 ∧ rdF' S i < 10 ^ 9 := by
    intro i hi
    have hP := N_NP hL hi
    have h5 := hL.2.2.1.1 i hi 5 (by decide)
    have a1 := toN_le (v := S.1 (17, 1, i) 3) (m := 999) (by have := hP.2.2.2.1; omega) (by have := hP.2.2.2.1; omega)
    have a2 := toN_le (v := S.1 (17, 1, i) 7) (m := 100) hP.2.2.2.2.2.2.1 hP.2.2.2.2.2.2.2.1
    have a3 := toJ_le (v := S.2.1 (19, 1, i) 5) (m := 99900000) h5.1 (by omega) (by decide)
    exact ⟨a1.1, a2.1, a3.1, by have := a1.2; unfold rrF; omega, by have := a2.2; unfold ryF'; omega, by have := a3.2; unfold rdF'; omega⟩
  have hnm : ∀ i, i < n → NmP (S.2.1 (17, 1, i) 0) (T.2.1 (11, 5, 0) (102 + i)) := hL.1.2.2.2.2.2.2.2.2
  have e17 : ∀ i g, (upI S (3, 0, 0) 1 0).1 (17, 1, i) g = S.1 (17, 1, i) g := fun i g => by rw [upI_1, if_neg (by simp)]
  have eT : ∀ z, (repS T).1 (11, 0, 0) z = T.1 (11, 0, 0) z := fun z => by unfold repS; rw [upI_1, if_neg (by simp), upI_1, if_neg (by simp)]
  have eP : ∀ i w, gP (repS T) i w = gP T i w := fun i w => eT _
  have eg : ∀ i w, i < n → w < 11 → gP T i w = S.1 (17, 1, i) (w + 1) := fun i w hi hw => (hL.1.2.2.1 i w hi hw).symm
  have eC : ∀ i, i < n → gC (repS T) i 5 = S.2.1 (19, 1, i) 5 := fun i hi => (cnt_eq hL hi (by decide)).symm
  have hC : Cnum (upI S (3, 0, 0) 1 0) n (rrF S) (ryF' S) (rdF' S) := fun i hi => by
    obtain ⟨b1, b2, b3, b4, b5, b6⟩ := hbd i hi
    exact ⟨nm_C (hnm i hi), (e17 i 3).trans b1, (e17 i 7).trans b2, b3, b4, b5, b6⟩
  refine ⟨hC, fun i hi => ?_, ?_, ?_⟩
  · obtain ⟨b1, b2, b3, b4, b5, b6⟩ := hbd i hi
    refine ⟨nm_s5 (hnm i hi), by rw [eP, eg i 2 hi (by decide)]; exact b1, by rw [eP, eg i 6 hi (by decide)]; exact b2, by rw [eC i hi]; exact b3, by omega, by omega, by omega⟩
  · have key : ∀ j, j ≤ n → repC (lineT (upI S (3, 0, 0) 1 0) (rrF S) (ryF' S) (rdF' S)) j = repL (repS T) (lineS (repS T) (rrF S) (ryF' S) (rdF' S)) j := by
      intro j
      induction j with
      | zero => intro _; rfl
      | succ j ih =>
        intro hj
        unfold repC repL
        rw [ih (by omega)]
        congr 1
        unfold lineT lineS
        rw [e17, eP, eg j 10 (by omega) (by decide)]
        exact nm_line (hnm j (by omega))
    exact key n (Nat.le_refl n)
  · have h1 := repC_len (n := n) (f := lineT (upI S (3, 0, 0) 1 0) (rrF S) (ryF' S) (rdF' S)) (fun i hi => by
      obtain ⟨b1, b2, b3, b4, b5, b6⟩ := hbd i hi
      exact lineC_len b4 b5 b6) n (Nat.le_refl n)
    omega
end RP
