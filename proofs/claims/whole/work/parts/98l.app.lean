section AP
variable {n nh t k k' p i h z m u f pn pc fb fr b x j : Nat} {S S' T T' U V R : St} {q c v : Int32}
theorem nar_b {v : Int32} : vp_nar .byte v = v.toInt8.toInt32 := rfl
theorem byT (v : Int32) : (v.toInt8.toInt32).toInt = if 2 * (v.toBitVec.toNat % 256) < 256 then ((v.toBitVec.toNat % 256 : Nat) : Int) else ((v.toBitVec.toNat % 256 : Nat) : Int) - 256 := by
  rw [Int8.toInt_toInt32, ← Int8.toInt_toBitVec]
  show (v.toBitVec.signExtend 8).toInt = _
  rw [BitVec.signExtend_eq_setWidth_of_le _ (by decide), BitVec.toInt_eq_toNat_cond, BitVec.toNat_setWidth]
  rfl
theorem byM (v : Int32) : (v &&& 255).toInt = ((v.toBitVec.toNat % 256 : Nat) : Int) := by
  rw [← Int32.toInt_toBitVec, Int32.toBitVec_and, BitVec.toInt_eq_toNat_cond, BitVec.toNat_and, show (255 : Int32).toBitVec.toNat = 2 ^ 8 - 1 from rfl, Nat.and_two_pow_sub_one_eq_mod, show (2 : Nat) ^ 8 = 256 from rfl, if_pos (by omega)]
theorem byA (v : Int32) : ByP (vp_nar .byte v.toInt8.toInt32) (v &&& 255) := by
  have h1 := byT v
  have h2 := byT (v.toInt8.toInt32)
  have h3 := byM v
  have h4 : (v.toInt8.toInt32).toInt8.toInt32 = v.toInt8.toInt32 := by rw [Int8.toInt8_toInt32]
  rw [nar_b, h4]
  unfold ByP
  by_cases e : 2 * (v.toBitVec.toNat % 256) < 256
  · rw [if_pos e] at h1
    exact Or.inl ⟨Int32.toInt_inj.mp (by rw [h1, h3]), by omega, by omega⟩
  · rw [if_neg e] at h1
    exact Or.inr ⟨by omega, by omega, by omega⟩
/-- filling the buffers beside each other -/
def Bft (S T : St) (f : Nat) : Prop := S.1 (1, 0, 0) 7 = Int32.ofNat f ∧ T.1 (8, 0, 0) 14 = Int32.ofNat f ∧ ∀ i, i < f → ByP (S.1 (2, 0, 0) i) (T.1 (11, 11, 0) i)
theorem Bft_s {k : Int32} (h : Bft S T b) : Bft (fbF S b v k) (pbF T b v k) (b + 1) := by
  refine ⟨fbF_7, by unfold pbF; rw [upI_1, if_pos ⟨rfl, rfl⟩], fun i hi => ?_⟩
  have e1 : (fbF S b v k).1 (2, 0, 0) i = if i = b then vp_nar .byte (v >>> (k &&& 31)).toInt8.toInt32 else S.1 (2, 0, 0) i := by unfold fbF; simp [upI_1]
  have e2 : (pbF T b v k).1 (11, 11, 0) i = if i = b then v >>> (k &&& 31) &&& 255 else T.1 (11, 11, 0) i := by unfold pbF; simp [upI_1]
  rw [e1, e2]
  by_cases e : i = b
  · rw [if_pos e, if_pos e]
    exact byA _
  · rw [if_neg e, if_neg e]
    exact h.2.2 i (by omega)
theorem Bft_4 (h : Bft S T b) : Bft (f4F S b v) (p4F T b v) (b + 4) := Bft_s (Bft_s (Bft_s (Bft_s h)))
theorem Bft_5 {v1 v2 v3 v4 v5 : Int32} (h : Bft S T b) : Bft (f5F S b v1 v2 v3 v4 v5) (p5F T b v1 v2 v3 v4 v5) (b + 20) := Bft_4 (Bft_4 (Bft_4 (Bft_4 (Bft_4 h))))
/-- all else stays -/
def Afr (S S' : St) : Prop := (∀ o, o ≠ (1, 0, 0) → o ≠ (2, 0, 0) → S'.1 o = S.1 o) ∧ S'.2 = S.2
theorem Afr_s {k : Int32} : Afr S (fbF S b v k) := ⟨fun o h1 h2 => by unfold fbF; rw [upI_fun' _ _ _ h1, upI_fun' _ _ _ h2], rfl⟩
theorem Afr.trans (h1 : Afr S U) (h2 : Afr U V) : Afr S V := ⟨fun o a b => (h2.1 o a b).trans (h1.1 o a b), h2.2.trans h1.2⟩
theorem Afr_4 : Afr S (f4F S b v) := Afr_s.trans (Afr_s.trans (Afr_s.trans Afr_s))
theorem Afr_5 {v1 v2 v3 v4 v5 : Int32} : Afr S (f5F S b v1 v2 v3 v4 v5) := Afr_4.trans (Afr_4.trans (Afr_4.trans (Afr_4.trans Afr_4)))
def Amr (S S' : St) : Prop := (∀ o, o ≠ (11, 11, 0) → o ≠ (8, 0, 0) → S'.1 o = S.1 o) ∧ (∀ f, f ≠ 14 → S'.1 (8, 0, 0) f = S.1 (8, 0, 0) f) ∧ S'.2 = S.2
theorem Amr_s {k : Int32} : Amr S (pbF S b v k) := by
  unfold pbF
  refine ⟨fun o h1 h2 => by rw [upI_fun' _ _ _ h2, upI_fun' _ _ _ h1], fun f hf => ?_, rfl⟩
  rw [upI_1, if_neg (fun e => hf e.2), upI_1, if_neg (by simp)]
theorem Amr.trans (h1 : Amr S U) (h2 : Amr U V) : Amr S V := ⟨fun o a b => (h2.1 o a b).trans (h1.1 o a b), fun f hf => (h2.2.1 f hf).trans (h1.2.1 f hf), h2.2.2.trans h1.2.2⟩
theorem Amr_4 : Amr S (p4F S b v) := Amr_s.trans (Amr_s.trans (Amr_s.trans Amr_s))
theorem Amr_5 {v1 v2 v3 v4 v5 : Int32} : Amr S (p5F S b v1 v2 v3 v4 v5) := Amr_4.trans (Amr_4.trans (Amr_4.trans (Amr_4.trans Amr_4)))
theorem op_2 {v1 v2 v3 v4 v5 : Int32} (h : InvP S T n nh t pn pc fb fr) (hb : fb + 20 ≤ 700) : InvP (f5F S fb v1 v2 v3 v4 v5) (p5F (upI T (8, 0, 0) 12 0) fb v1 v2 v3 v4 v5) n nh t pn pc (fb + 20) fr := by
  have h := Inv_m h (Msm_8 (f := 12) (v := 0) (by decide))
  generalize upI T (8, 0, 0) 12 0 = T at *
  obtain ⟨⟨hL, ht⟩, h0, h1, h2, h3, h4, h5⟩ := h
  have hB := Bft_5 (v1 := v1) (v2 := v2) (v3 := v3) (v4 := v4) (v5 := v5) (S := S) (T := T) (b := fb) h3.2
  have hA := Afr_5 (S := S) (b := fb) (v1 := v1) (v2 := v2) (v3 := v3) (v4 := v4) (v5 := v5)
  have hM := Amr_5 (S := T) (b := fb) (v1 := v1) (v2 := v2) (v3 := v3) (v4 := v4) (v5 := v5)
  generalize f5F S fb v1 v2 v3 v4 v5 = S' at *
  generalize p5F T fb v1 v2 v3 v4 v5 = T' at *
  have c : ∀ o : Ob, 12 ≤ o.1 → S'.1 o = S.1 o ∧ S'.2.1 o = S.2.1 o := fun o ho => ⟨hA.1 o (fun e => by rw [e] at ho; simp at ho) (fun e => by rw [e] at ho; simp at ho), by rw [hA.2]⟩
  have w : sameW T T' := ⟨fun j _ => by rw [hM.1 _ (by simp) (by simp)], fun j _ => by rw [hM.2.2]⟩
  refine ⟨⟨Lnk_W (Lnk_x hL (fun o a _ => c o a)) w, ht⟩, Und0_x h0 (hA.1 _ (by simp) (by simp)) (hM.2.1 _ (by decide)), Und_m (Und_x h1 (fun o a _ _ => c o a)) (hM.1 _ (by simp) (by simp)) (by rw [hM.2.2]), Snp_m (Snp_x h2 (hA.1 _ (by simp) (by simp)) (fun o a _ => c o a)) (hM.1 _ (by simp) (by simp)) (by rw [hM.2.2]) (hM.1 _ (by simp) (by simp)), ⟨hb, hB⟩, Rpt_x h4 (hA.1 _ (by simp) (by simp)) (hA.1 _ (by simp) (by simp)) (hM.2.1 _ (by decide)) (hM.1 _ (by simp) (by simp)), Rdz_x h5 (fun o a _ => c o a)⟩
/-- the report, all of it -/
theorem op_35' (h : InvP S T n nh t pn pc fb fr) {l : List Int32} (hl : l.length ≤ 500) : InvP (prL (upI S (3, 0, 0) 1 0) 0 l) (wrL (repS T) 0 l) n nh t pn pc fb l.length := by
  obtain ⟨⟨hL, ht⟩, h0, h1, h2, h3, h4, h5⟩ := h
  have hr := pw_row l (upI S (3, 0, 0) 1 0) (repS T) 0 (fun i hi => absurd hi (Nat.not_lt_zero i))
  have h31 := prL_1 l (upI S (3, 0, 0) 1 0) 0 (by rw [upI_1, if_pos ⟨rfl, rfl⟩]; rfl)
  have h28 := wrL_28 l (repS T) 0 (by unfold repS; rw [upI_1, if_pos ⟨rfl, rfl⟩]; rfl)
  rw [Nat.zero_add] at h31 h28 hr
  have cS : ∀ o : Ob, o.1 ≠ 3 → o.1 ≠ 4 → (prL (upI S (3, 0, 0) 1 0) 0 l).1 o = S.1 o := fun o a b => by rw [prL_oo l _ _ o a b, upI_fun' _ _ _ (fun e => a (by rw [e]))]
  have cS2 : (prL (upI S (3, 0, 0) 1 0) 0 l).2 = S.2 := by rw [prL_22]; rfl
  have cT : ∀ o : Ob, o ≠ (11, 15, 0) → o ≠ (8, 0, 0) → (wrL (repS T) 0 l).1 o = T.1 o := fun o a b => by
    rw [wrL_o l _ _ o a b]
    unfold repS
    rw [upI_fun' _ _ _ b, upI_fun' _ _ _ b]
  have cT8 : ∀ f, f ≠ 28 → f ≠ 12 → (wrL (repS T) 0 l).1 (8, 0, 0) f = T.1 (8, 0, 0) f := fun f a b => by
    rw [wrL_8 l _ _ f a]
    unfold repS
    rw [upI_1, if_neg (fun e => a e.2), upI_1, if_neg (fun e => b e.2)]
  have cT2 : (wrL (repS T) 0 l).2 = T.2 := by rw [wrL_2]; rfl
  generalize prL (upI S (3, 0, 0) 1 0) 0 l = S' at *
  generalize wrL (repS T) 0 l = T' at *
  have c : ∀ o : Ob, 12 ≤ o.1 → S'.1 o = S.1 o ∧ S'.2.1 o = S.2.1 o := fun o ho => ⟨cS o (by omega) (by omega), by rw [cS2]⟩
  have w : sameW T T' := ⟨fun j _ => by rw [cT _ (by simp) (by simp)], fun j _ => by rw [cT2]⟩
  exact ⟨⟨Lnk_W (Lnk_x hL (fun o a _ => c o a)) w, ht⟩, Und0_x h0 (cS _ (by simp) (by simp)) (cT8 _ (by decide) (by decide)), Und_m (Und_x h1 (fun o a _ _ => c o a)) (cT _ (by simp) (by simp)) (by rw [cT2]), Snp_m (Snp_x h2 (cS _ (by simp) (by simp)) (fun o a _ => c o a)) (cT _ (by simp) (by simp)) (by rw [cT2]) (cT _ (by simp) (by simp)), Bfr_x h3 (congrFun (cS _ (by simp) (by simp)) _) (cS _ (by simp) (by simp)) (cT8 _ (by decide) (by decide)) (cT _ (by simp) (by simp)), ⟨hl, h31, h28, hr⟩, Rdz_x h5 (fun o a _ => c o a)⟩
end AP
