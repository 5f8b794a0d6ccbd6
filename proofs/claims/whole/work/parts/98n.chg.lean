section CH
variable {n nh t k k' p i h z m u f pn pc fb fr b x j c n' nh' t' : Nat} {S S' T T' U V R : St} {q v v2 : Int32}
theorem Rt_sb (h : Rt T T') : T'.1 (11, 2, 0) = T.1 (11, 2, 0) ∧ T'.1 (11, 3, 0) = T.1 (11, 3, 0) ∧ T'.1 (11, 10, 0) = T.1 (11, 10, 0) ∧ T'.1 (11, 11, 0) = T.1 (11, 11, 0) ∧ T'.1 (11, 15, 0) = T.1 (11, 15, 0) ∧ T'.2.1 (11, 7, 0) = T.2.1 (11, 7, 0) ∧ T'.2.1 (11, 8, 0) = T.2.1 (11, 8, 0) ∧ T'.1 (8, 0, 0) 11 = T.1 (8, 0, 0) 11 ∧ T'.1 (8, 0, 0) 14 = T.1 (8, 0, 0) 14 ∧ T'.1 (8, 0, 0) 28 = T.1 (8, 0, 0) 28 :=
  ⟨h.1 _ (by simp) (by simp) (by simp) (by simp) (by simp), h.1 _ (by simp) (by simp) (by simp) (by simp) (by simp), h.1 _ (by simp) (by simp) (by simp) (by simp) (by simp), h.1 _ (by simp) (by simp) (by simp) (by simp) (by simp), h.1 _ (by simp) (by simp) (by simp) (by simp) (by simp), h.2.2.1 _ (by simp), h.2.2.1 _ (by simp), h.2.1 _ (by decide), h.2.1 _ (by decide), h.2.1 _ (by decide)⟩
/-- what is not the link now, when only that link changes -/
theorem InvR_1 (h : InvR S T pn pc fb fr) (hF : Fr 1 S S') (hR : Rt T T') : InvR S' T' pn pc fb fr := by
  obtain ⟨h0, h1, h2, h3, h4, h5⟩ := h
  obtain ⟨m1, m2, m3, m4, m5, m6, m7, m8, m9, m10⟩ := Rt_sb hR
  have e : ∀ a b : Nat, a < 12 → S'.1 (a, b, 0) = S.1 (a, b, 0) := fun a b ha => (hF.1 (a, b, 0) (Or.inr ha)).1
  exact ⟨Und0_x h0 (e 0 0 (by decide)) m8, Und_m (Und_x h1 (fun o _ a _ => hF.1 o (Or.inl (by omega)))) m1 m6, Snp_m (Snp_x h2 (e 7 0 (by decide)) (fun o _ a => hF.1 o (Or.inl (by omega)))) m2 m7 m3, Bfr_x h3 (congrFun (e 1 0 (by decide)) _) (e 2 0 (by decide)) m9 m4, Rpt_x h4 (e 3 0 (by decide)) (e 4 0 (by decide)) m10 m5, Rdz_x h5 (fun o _ a => hF.1 o (Or.inl (by omega)))⟩
theorem Fr_u1 {q : Nat} (hq : 12 ≤ q) : Fr 1 S (upI S (q, 1, p) f v) := Fr_upI Fr.refl hq
theorem Rt_u : Rt T (upI T (11, 0, 0) b v) := Rt_I Rt.refl (Or.inl rfl)
/-- the setters behind keeping -/
theorem set_P {w : Nat} (h : InvP S T n nh t pn pc fb fr) (hi : i < n) (hw : w < 11) (hw2 : 2 ≤ w) (hP : NP ((upI S (17, 1, i) (w + 1) v).1 (17, 1, i)) nh) : InvP (upI S (17, 1, i) (w + 1) v) (upI T (11, 0, 0) (36 + 11 * i + w) v) n nh t pn pc fb fr := ⟨⟨Lnk_P h.1.1 hi hw hw2 hP, h.1.2⟩, InvR_1 h.2 (Fr_u1 (by decide)) Rt_u⟩
theorem set_H {w : Nat} (h : InvP S T n nh t pn pc fb fr) (hi : i < nh) (hw : w < 2) (hB : w = 1 → 0 ≤ v.toInt ∧ v.toInt ≤ 9999999) : InvP (upI S (16, 1, i) (w + 1) v) (upI T (11, 0, 0) (12 + 4 * i + w) v) n nh t pn pc fb fr := ⟨⟨Lnk_H h.1.1 hi hw hB, h.1.2⟩, InvR_1 h.2 (Fr_u1 (by decide)) Rt_u⟩
theorem set_k2 {g g2 : Nat} (h : InvP S T n nh t pn pc fb fr) (hg : g < 11) (hg2 : scI g < 5) (hg' : g2 < 11) (hg2' : scI g2 < 5) (hK : NK ((upI (upI S (12, 1, 0) (scI g) v) (12, 1, 0) (scI g2) v2).1 (12, 1, 0))) : InvP (upI (upI S (12, 1, 0) (scI g) v) (12, 1, 0) (scI g2) v2) (upI (upI T (11, 0, 0) g v) (11, 0, 0) g2 v2) n nh t pn pc fb fr := ⟨⟨Lnk_k2 h.1.1 hg hg2 hg' hg2' hK, h.1.2⟩, InvR_1 (InvR_1 h.2 (Fr_u1 (by decide)) Rt_u) (Fr_u1 (by decide)) Rt_u⟩
/-- run behind keeping -/
theorem run_P (h : InvP S T n nh t pn pc fb fr) (hu : u ≤ 200) (ht : t + u ≤ 100000) : InvP (slF S 1 n nh 1000000000 u).1 (rmI T n t u).1 n nh (t + u) pn pc fb fr ∧ (slF S 1 n nh 1000000000 u).2 = (rmI T n t u).2 ∧ ∀ j, j < u → Rpre (rmI T n t j).1 n := by
  have hm := Lnk_many h.1.1 u (by omega) (by omega)
  have hF := slF_Fr (S := S) (k := 1) (n := n) (nh := nh) (e := 1000000000) u
  rw [slF_all h.1.1 (by omega) (by omega)] at hF ⊢
  exact ⟨⟨⟨hm.1, ht⟩, InvR_1 h.2 hF (rmI_Rt u)⟩, hm.2.1, fun j hj => Rpre_many h.1.1 (by omega) (by omega)⟩
/-- undo -/
theorem op_undo (h : InvP S T n nh t pn (pc + 1) fb fr) : ∃ n' nh' t', Lok S (3 + (pn + 7) % 8) n' nh' t' ∧ Lob S (3 + (pn + 7) % 8) n' ∧ InvP (lcF (unP S pn (pc + 1)) 1 (3 + (pn + 7) % 8) n' nh') (unR T pc) n' nh' t' ((pn + 7) % 8) pc fb fr := by
  obtain ⟨⟨hL, ht⟩, h0, h1, h2, h3, h4, h5⟩ := h
  obtain ⟨b1, b2, b3, b4, b5⟩ := h0
  obtain ⟨n', nh', t', a1, a2⟩ := h1 pc (by omega)
  rw [show (pn + 8 - (pc + 1) + pc) % 8 = (pn + 7) % 8 by omega] at a2
  refine ⟨n', nh', t', Lok_of a2, Lob_of a2, ?_⟩
  have hFr : Fr 1 (unP S pn (pc + 1)) (lcF (unP S pn (pc + 1)) 1 (3 + (pn + 7) % 8) n' nh') := lcF_Fr
  have hEq : Eqk 1 (3 + (pn + 7) % 8) (unP S pn (pc + 1)) (lcF (unP S pn (pc + 1)) 1 (3 + (pn + 7) % 8) n' nh') n' nh' := lcF_Eqk (by omega)
  have cU : ∀ o : Ob, o ≠ (0, 0, 0) → (unP S pn (pc + 1)).1 o = S.1 o ∧ (unP S pn (pc + 1)).2.1 o = S.2.1 o := fun o ho => ⟨unP_k ho, rfl⟩
  have cU12 : ∀ o : Ob, 12 ≤ o.1 → (unP S pn (pc + 1)).1 o = S.1 o ∧ (unP S pn (pc + 1)).2.1 o = S.2.1 o := fun o ho => cU o (fun e => by rw [e] at ho; simp at ho)
  have a3 : Lnr (3 + (pn + 7) % 8) (unP S pn (pc + 1)) (fun j => T.1 (11, 2, 0) (384 * pc + j)) (fun j => T.2.1 (11, 7, 0) (114 * pc + j)) n' nh' t' := Lnr_Eqk a2 (Eqk_of (fun o _ a _ => (cU12 o a).1) (fun o _ a _ => (cU12 o a).2)) (fun _ _ => rfl) (fun _ _ => rfl)
  have hT0 : ∀ j, j < 384 → (unR T pc).1 (11, 0, 0) j = T.1 (11, 2, 0) (384 * pc + j) := fun j hj => by
    unfold unR cpJ cpI
    rw [rwJ_1, rwI_fun, cpy_in (by omega) (by omega), upI_fun' _ _ _ (by simp)]
    rfl
  have hT5 : ∀ j, j < 114 → (unR T pc).2.1 (11, 5, 0) j = T.2.1 (11, 7, 0) (114 * pc + j) := fun j hj => by
    unfold unR cpJ cpI
    rw [rwJ_fun, cpy_in (by omega) (by omega)]
    rfl
  have cT : ∀ o : Ob, o ≠ (11, 0, 0) → o ≠ (8, 0, 0) → (unR T pc).1 o = T.1 o := fun o x1 x2 => by
    unfold unR cpJ cpI
    rw [rwJ_1, rwI_fun' _ _ x1, upI_fun' _ _ _ x2]
  have cTJ : ∀ o : Ob, o ≠ (11, 5, 0) → (unR T pc).2.1 o = T.2.1 o := fun o x1 => by
    unfold unR cpJ cpI
    rw [rwJ_fun' _ _ x1]
    rfl
  have cT8 : ∀ f, (unR T pc).1 (8, 0, 0) f = if f = 11 then Int32.ofNat pc else T.1 (8, 0, 0) f := fun f => by
    unfold unR cpJ cpI
    rw [rwJ_1, rwI_fun' _ _ (by simp), upI_1]
    by_cases e : f = 11
    · rw [if_pos ⟨rfl, e⟩, if_pos e]
    · rw [if_neg (fun e2 => e e2.2), if_neg e]
  have e0 : ∀ o : Ob, o.2.1 ≠ 1 ∨ o.1 < 12 → o ≠ (0, 0, 0) → (lcF (unP S pn (pc + 1)) 1 (3 + (pn + 7) % 8) n' nh').1 o = S.1 o ∧ (lcF (unP S pn (pc + 1)) 1 (3 + (pn + 7) % 8) n' nh').2.1 o = S.2.1 o := fun o x1 x2 => ⟨(hFr.1 o x1).1.trans (cU o x2).1, (hFr.1 o x1).2.trans (cU o x2).2⟩
  have e12 : ∀ o : Ob, 12 ≤ o.1 → o.2.1 ≠ 1 → (lcF (unP S pn (pc + 1)) 1 (3 + (pn + 7) % 8) n' nh').1 o = S.1 o ∧ (lcF (unP S pn (pc + 1)) 1 (3 + (pn + 7) % 8) n' nh').2.1 o = S.2.1 o := fun o x1 x2 => e0 o (Or.inl x2) (fun e => by rw [e] at x1; simp at x1)
  have f0 : (lcF (unP S pn (pc + 1)) 1 (3 + (pn + 7) % 8) n' nh').1 (0, 0, 0) = (unP S pn (pc + 1)).1 (0, 0, 0) := (hFr.1 (0, 0, 0) (Or.inr (by simp))).1
  have ed : ∀ a b : Nat, 1 ≤ a → a < 12 → (lcF (unP S pn (pc + 1)) 1 (3 + (pn + 7) % 8) n' nh').1 (a, b, 0) = S.1 (a, b, 0) := fun a b h1 h2 => (e0 (a, b, 0) (Or.inr h2) (fun e => by injection e with e _; omega)).1
  refine ⟨⟨Lnr_Eqk a3 hEq hT0 hT5, a1⟩, ⟨?_, Nat.mod_lt _ (by decide), ?_, by omega, ?_⟩, ?_, ?_, ?_, ?_, ?_⟩
  · rw [f0]; unfold unP; rw [upI_1, if_neg (by simp), upI_1, if_pos ⟨rfl, rfl⟩]
  · rw [f0]; unfold unP; rw [upI_1, if_pos ⟨rfl, rfl⟩]; rfl
  · rw [cT8, if_pos rfl]
  · intro i hi
    obtain ⟨n2, nh2, t2, x1, x2⟩ := h1 i (by omega)
    refine ⟨n2, nh2, t2, x1, ?_⟩
    rw [show ((pn + 7) % 8 + 8 - pc + i) % 8 = (pn + 8 - (pc + 1) + i) % 8 by omega]
    refine Lnr_Eqk x2 (Eqk_of (fun o ho a _ => (e12 o a (by omega)).1) (fun o ho a _ => (e12 o a (by omega)).2)) (fun j _ => ?_) (fun j _ => ?_)
    · rw [cT _ (by simp) (by simp)]
    · rw [cTJ _ (by simp)]
  · exact Snp_m (Snp_x h2 (ed 7 0 (by decide) (by decide)) (fun o a b => e12 o a (by omega))) (cT _ (by simp) (by simp)) (cTJ _ (by simp)) (cT _ (by simp) (by simp))
  · exact Bfr_x h3 (congrFun (ed 1 0 (by decide) (by decide)) _) (ed 2 0 (by decide) (by decide)) (by rw [cT8, if_neg (by decide)]) (cT _ (by simp) (by simp))
  · exact Rpt_x h4 (ed 3 0 (by decide) (by decide)) (ed 4 0 (by decide) (by decide)) (by rw [cT8, if_neg (by decide)]) (cT _ (by simp) (by simp))
  · exact Rdz_x h5 (fun o a b => e12 o a (by omega))
/-- saveSnapshot -/
theorem op_save (h : InvP S T n nh t pn pc fb fr) (hi : i < 2) : InvP (upI (lcF S (11 + i) 1 n nh) (7, 0, 0) i 1) (svR T i) n nh t pn pc fb fr := by
  obtain ⟨⟨hL, ht⟩, h0, h1, h2, h3, h4, h5⟩ := h
  have hFr : Fr (11 + i) S (lcF S (11 + i) 1 n nh) := lcF_Fr
  have hEq : Eqk (11 + i) 1 S (lcF S (11 + i) 1 n nh) n nh := lcF_Eqk (by omega)
  have e0 : ∀ o : Ob, o.2.1 ≠ 11 + i ∨ o.1 < 12 → o ≠ (7, 0, 0) → (upI (lcF S (11 + i) 1 n nh) (7, 0, 0) i 1).1 o = S.1 o ∧ (upI (lcF S (11 + i) 1 n nh) (7, 0, 0) i 1).2.1 o = S.2.1 o := fun o x1 x2 => ⟨(upI_fun' _ _ _ x2).trans (hFr.1 o x1).1, (hFr.1 o x1).2⟩
  have e12 : ∀ o : Ob, 12 ≤ o.1 → o.2.1 ≠ 11 + i → (upI (lcF S (11 + i) 1 n nh) (7, 0, 0) i 1).1 o = S.1 o ∧ (upI (lcF S (11 + i) 1 n nh) (7, 0, 0) i 1).2.1 o = S.2.1 o := fun o x1 x2 => e0 o (Or.inl x2) (fun e => by rw [e] at x1; simp at x1)
  have ed : ∀ a b : Nat, a < 12 → a ≠ 7 → (upI (lcF S (11 + i) 1 n nh) (7, 0, 0) i 1).1 (a, b, 0) = S.1 (a, b, 0) := fun a b h1 h2 => (e0 (a, b, 0) (Or.inr h1) (fun e => by injection e with e _; omega)).1
  have e7 : ∀ j, (upI (lcF S (11 + i) 1 n nh) (7, 0, 0) i 1).1 (7, 0, 0) j = if j = i then 1 else S.1 (7, 0, 0) j := fun j => by
    rw [upI_1]
    by_cases e : j = i
    · rw [if_pos ⟨rfl, e⟩, if_pos e]
    · rw [if_neg (fun e2 => e e2.2), if_neg e, (hFr.1 (7, 0, 0) (Or.inr (by simp))).1]
  have hnew : Lnr (11 + i) (upI (lcF S (11 + i) 1 n nh) (7, 0, 0) i 1) (T.1 (11, 0, 0)) (T.2.1 (11, 5, 0)) n nh t := by
    have a := Lnr_Eqk hL hEq (fun _ _ => rfl) (fun _ _ => rfl)
    exact Lnr_Eqk a (Eqk_of (fun o ho a _ => upI_fun' _ _ _ (fun e => by rw [e] at a; simp at a)) (fun o ho a _ => rfl)) (fun _ _ => rfl) (fun _ _ => rfl)
  have cT : ∀ o : Ob, o ≠ (11, 3, 0) → o ≠ (11, 10, 0) → (svR T i).1 o = T.1 o := fun o x1 x2 => by
    unfold svR cpJ cpI
    rw [upI_fun' _ _ _ x2, rwJ_1, rwI_fun' _ _ x1]
  have cTJ : ∀ o : Ob, o ≠ (11, 8, 0) → (svR T i).2.1 o = T.2.1 o := fun o x1 => by
    unfold svR cpJ cpI
    rw [upI_2, rwJ_fun' _ _ x1]
    rfl
  have c3 : ∀ j, (svR T i).1 (11, 3, 0) j = va_cpy (T.1 (11, 0, 0)) (T.1 (11, 3, 0)) 0 (384 * i) 384 j := fun j => by
    unfold svR cpJ cpI
    rw [upI_fun' _ _ _ (by simp), rwJ_1, rwI_fun]
  have c8 : ∀ j, (svR T i).2.1 (11, 8, 0) j = va_cpy (T.2.1 (11, 5, 0)) (T.2.1 (11, 8, 0)) 0 (114 * i) 114 j := fun j => by
    unfold svR cpJ cpI
    rw [upI_2, rwJ_fun]
    rfl
  have c10 : ∀ j, (svR T i).1 (11, 10, 0) j = if j = i then 1 else T.1 (11, 10, 0) j := fun j => by
    unfold svR cpJ cpI
    rw [upI_1]
    by_cases e : j = i
    · rw [if_pos ⟨rfl, e⟩, if_pos e]
    · rw [if_neg (fun e2 => e e2.2), if_neg e, rwJ_1, rwI_fun' _ _ (by simp)]
  have w : sameW T (svR T i) := ⟨fun j _ => by rw [cT _ (by simp) (by simp)], fun j _ => by rw [cTJ _ (by simp)]⟩
  refine ⟨⟨Lnk_W (Lnk_x hL (fun o a b => e12 o a (by omega))) w, ht⟩, Und0_x h0 (ed 0 0 (by decide) (by decide)) (congrFun (cT _ (by simp) (by simp)) _), Und_m (Und_x h1 (fun o a _ b => e12 o a (by omega))) (cT _ (by simp) (by simp)) (cTJ _ (by simp)), ?_, ?_, ?_, ?_⟩
  · intro j hj
    rw [e7, c10]
    by_cases e : j = i
    · subst e
      rw [if_pos rfl, if_pos rfl]
      refine ⟨Or.inr rfl, rfl, fun _ => ⟨n, nh, t, ht, ?_⟩⟩
      refine Lnr_Eqk hnew ⟨fun _ _ => rfl, fun _ _ _ _ => rfl, fun _ _ _ _ => rfl, fun _ _ _ _ => rfl, fun _ _ _ _ => rfl, fun _ _ => rfl, fun _ _ => rfl, fun _ _ => rfl⟩ (fun x hx => ?_) (fun x hx => ?_)
      · rw [c3, cpy_in (by omega) (by omega), Nat.add_sub_cancel_left, Nat.zero_add]
      · rw [c8, cpy_in (by omega) (by omega), Nat.add_sub_cancel_left, Nat.zero_add]
    · rw [if_neg e, if_neg e]
      obtain ⟨a1, a2, a3⟩ := h2 j hj
      refine ⟨a1, a2, fun e1 => ?_⟩
      obtain ⟨n2, nh2, t2, x1, x2⟩ := a3 e1
      refine ⟨n2, nh2, t2, x1, Lnr_Eqk x2 (Eqk_of (fun o ho a _ => (e12 o a (by omega)).1) (fun o ho a _ => (e12 o a (by omega)).2)) (fun x hx => ?_) (fun x hx => ?_)⟩
      · rw [c3, cpy_out (by omega)]
      · rw [c8, cpy_out (by omega)]
  · exact Bfr_x h3 (congrFun (ed 1 0 (by decide) (by decide)) _) (ed 2 0 (by decide) (by decide)) (congrFun (cT _ (by simp) (by simp)) _) (cT _ (by simp) (by simp))
  · exact Rpt_x h4 (ed 3 0 (by decide) (by decide)) (ed 4 0 (by decide) (by decide)) (congrFun (cT _ (by simp) (by simp)) _) (cT _ (by simp) (by simp))
  · exact Rdz_x h5 (fun o a b => e12 o a (by omega))
/-- restoreSnapshot -/
theorem op_rest (h : InvP S T n nh t pn pc fb fr) (hi : i < 2) (hv : S.1 (7, 0, 0) i = 1) : ∃ n' nh' t', Lok S (11 + i) n' nh' t' ∧ Lob S (11 + i) n' ∧ T.1 (11, 3, 0) (384 * i + 7) = Int32.ofNat t' ∧ InvP (upI (lcF S 1 (11 + i) n' nh') (0, 0, 0) 6 0) (rsR T i) n' nh' t' pn 0 fb fr := by
  obtain ⟨⟨hL, ht⟩, h0, h1, h2, h3, h4, h5⟩ := h
  obtain ⟨b1, b2, b3, b4, b5⟩ := h0
  obtain ⟨n', nh', t', a1, a2⟩ := (h2 i hi).2.2 hv
  refine ⟨n', nh', t', Lok_of a2, Lob_of a2, ?_, ?_⟩
  · have := a2.1.1 7 (by decide)
    rw [show scI 7 = 5 from rfl, (Lok_of a2).2.2.2.2.2.1] at this
    exact this.symm
  have hFr : Fr 1 S (lcF S 1 (11 + i) n' nh') := lcF_Fr
  have hEq : Eqk 1 (11 + i) S (lcF S 1 (11 + i) n' nh') n' nh' := lcF_Eqk (by omega)
  have hT0 : ∀ j, j < 384 → (rsR T i).1 (11, 0, 0) j = T.1 (11, 3, 0) (384 * i + j) := fun j hj => by
    unfold rsR cpJ cpI
    rw [upI_fun' _ _ _ (by simp), rwJ_1, rwI_fun, cpy_in (by omega) (by omega)]
    rfl
  have hT5 : ∀ j, j < 114 → (rsR T i).2.1 (11, 5, 0) j = T.2.1 (11, 8, 0) (114 * i + j) := fun j hj => by
    unfold rsR cpJ cpI
    rw [upI_2, rwJ_fun, cpy_in (by omega) (by omega)]
    rfl
  have cT : ∀ o : Ob, o ≠ (11, 0, 0) → o ≠ (8, 0, 0) → (rsR T i).1 o = T.1 o := fun o x1 x2 => by
    unfold rsR cpJ cpI
    rw [upI_fun' _ _ _ x2, rwJ_1, rwI_fun' _ _ x1]
  have cTJ : ∀ o : Ob, o ≠ (11, 5, 0) → (rsR T i).2.1 o = T.2.1 o := fun o x1 => by
    unfold rsR cpJ cpI
    rw [upI_2, rwJ_fun' _ _ x1]
    rfl
  have cT8 : ∀ f, (rsR T i).1 (8, 0, 0) f = if f = 11 then 0 else T.1 (8, 0, 0) f := fun f => by
    unfold rsR cpJ cpI
    rw [upI_1]
    by_cases e : f = 11
    · rw [if_pos ⟨rfl, e⟩, if_pos e]
    · rw [if_neg (fun e2 => e e2.2), if_neg e, rwJ_1, rwI_fun' _ _ (by simp)]
  have e0 : ∀ o : Ob, o.2.1 ≠ 1 ∨ o.1 < 12 → o ≠ (0, 0, 0) → (upI (lcF S 1 (11 + i) n' nh') (0, 0, 0) 6 0).1 o = S.1 o ∧ (upI (lcF S 1 (11 + i) n' nh') (0, 0, 0) 6 0).2.1 o = S.2.1 o := fun o x1 x2 => ⟨(upI_fun' _ _ _ x2).trans (hFr.1 o x1).1, (hFr.1 o x1).2⟩
  have e12 : ∀ o : Ob, 12 ≤ o.1 → o.2.1 ≠ 1 → (upI (lcF S 1 (11 + i) n' nh') (0, 0, 0) 6 0).1 o = S.1 o ∧ (upI (lcF S 1 (11 + i) n' nh') (0, 0, 0) 6 0).2.1 o = S.2.1 o := fun o x1 x2 => e0 o (Or.inl x2) (fun e => by rw [e] at x1; simp at x1)
  have ed : ∀ a b : Nat, 1 ≤ a → a < 12 → (upI (lcF S 1 (11 + i) n' nh') (0, 0, 0) 6 0).1 (a, b, 0) = S.1 (a, b, 0) := fun a b h1 h2 => (e0 (a, b, 0) (Or.inr h2) (fun e => by injection e with e _; omega)).1
  have hnew : Lnr 1 (upI (lcF S 1 (11 + i) n' nh') (0, 0, 0) 6 0) ((rsR T i).1 (11, 0, 0)) ((rsR T i).2.1 (11, 5, 0)) n' nh' t' := by
    have a := Lnr_Eqk a2 hEq hT0 hT5
    exact Lnr_Eqk a (Eqk_of (fun o ho a _ => upI_fun' _ _ _ (fun e => by rw [e] at a; simp at a)) (fun o ho a _ => rfl)) (fun _ _ => rfl) (fun _ _ => rfl)
  refine ⟨⟨hnew, a1⟩, ⟨?_, b2, ?_, by omega, ?_⟩, fun j hj => absurd hj (Nat.not_lt_zero j), ?_, ?_, ?_, ?_⟩
  · rw [upI_1, if_neg (by simp), (hFr.1 (0, 0, 0) (Or.inr (by simp))).1]; exact b1
  · rw [upI_1, if_pos ⟨rfl, rfl⟩]; rfl
  · rw [cT8, if_pos rfl]; rfl
  · exact Snp_m (Snp_x h2 (ed 7 0 (by decide) (by decide)) (fun o a b => e12 o a (by omega))) (cT _ (by simp) (by simp)) (cTJ _ (by simp)) (cT _ (by simp) (by simp))
  · exact Bfr_x h3 (congrFun (ed 1 0 (by decide) (by decide)) _) (ed 2 0 (by decide) (by decide)) (by rw [cT8, if_neg (by decide)]) (cT _ (by simp) (by simp))
  · exact Rpt_x h4 (ed 3 0 (by decide) (by decide)) (ed 4 0 (by decide) (by decide)) (by rw [cT8, if_neg (by decide)]) (cT _ (by simp) (by simp))
  · exact Rdz_x h5 (fun o a b => e12 o a (by omega))
end CH
