section OP2
variable {sx : xSx} {s0 n nh t k p i h z u f s c d x j e b g r y q a pn pc fb fr : Nat} {S S' T T' U V R : St} {v w o : Int32} {m : Nat × Nat × Nat}
/-! THE CALLS OF THE LAW, 2: trials, changes -/
theorem imin_E {t : Nat} (ht : t ≤ 100000) : (imin 200 (100000 - Int32.ofNat t) : Int32) = Int32.ofNat (if t ≤ 99800 then 200 else 100000 - t) := by
  rw [show (100000 : Int32) = Int32.ofNat 100000 from rfl, oN_sub ht, show (200 : Int32) = Int32.ofNat 200 from rfl]
  unfold imin
  have e := oN_lt (i := 200) (n := 100000 - t) (by omega) (by omega)
  by_cases h : 100000 - t < 200
  · rw [if_pos (e.mpr h), if_neg (by omega)]
  · rw [if_neg (fun x => h (e.mp x))]
    by_cases h2 : t ≤ 99800
    · rw [if_pos h2]
    · omega
theorem Cst_of (h : InvP S T n nh t pn pc fb fr) : Cst S n nh t pn pc := ⟨Lok_of h.1.1, Lob_of h.1.1, h.2.1.1, h.2.1.2.1, h.2.1.2.2.1, h.2.1.2.2.2.1⟩
/-- behind a trial -/
theorem OI_tr {cf df : xM → Option xR} {cd : Nat → Int32} {v : Int32} {R : St} (h : InvP S S n nh t pn pc fb fr) (hU : Fr 2 S U) (hc : ∀ m : Nat × Nat × Nat, cf (hp s0 S, m) = some (.inl (some (.int v)), (hp s0 U, m))) (hd : ∀ m, df (hp s0 (upJ U (9, 0, 0) 0 v.toInt64), m) = some (.inl (some (.int v)), (hp s0 V, m))) (hV : Mq (upI (upJ U (9, 0, 0) 0 v.toInt64) (8, 0, 0) 12 0) V) : OI s0 cf df cd S := by
  have e9 : (upI (upJ U (9, 0, 0) 0 v.toInt64) (8, 0, 0) 12 0).2.1 (9, 0, 0) 0 = v.toInt64 := by
    show (upJ U (9, 0, 0) 0 v.toInt64).2.1 (9, 0, 0) 0 = _
    rw [upJ_2, if_pos ⟨rfl, rfl⟩]
  have hI : Inv (upJ U (9, 0, 0) 0 v.toInt64) := Inv_tr h hU out_C out_M Mq.refl
  have hI2 := Inv_12 (v := 0) hI
  refine fun m => Or.inl ⟨v, U, V, hc m, hd m, hV.2.2.trans up_12, ?_, ?_⟩
  · rw [(hV.2.1 (9, 0, 0) (by simp) (by simp)).2]; exact e9
  · obtain ⟨n1, nh1, t1, pn1, pc1, fb1, fr1, h1⟩ := hI2
    exact ⟨n1, nh1, t1, pn1, pc1, fb1, fr1, Inv_same h1 (Mfr_C hV.2.1) hV.1⟩
theorem tr_see {w : Int64} (h : InvP S S n nh t pn pc fb fr) (hU : Fr 2 S U) : sameW S (upI (upJ U (9, 0, 0) 0 w) (8, 0, 0) 12 0) := (Fr_W hU).trans ((out_M (S := U) (x := w)).trans (Mq_12 (v := 0)).2).1
theorem tr_Rok {w : Int64} (h : InvP S S n nh t pn pc fb fr) (hU : Fr 2 S U) : Rok (upJ U (9, 0, 0) 0 w) n t := by
  have h1 : Lnk 1 S (upJ U (9, 0, 0) 0 w) n nh t := Lnk_W h.1.1 ((Fr_W hU).trans (out_M (S := U) (x := w)).1)
  exact Rok_of h1
/-- 19 -/
theorem o_19 (hI : Inv S) : OI s0 (X xtab sx 19 0 [some (.ref (adr s0 (0, 0, 0))), some (.int v)] []) (X xtab sx 129 0 [some (.ref (adr s0 (8, 0, 0))), some (.int v)] []) cd0 S := by
  have hI2 := hI
  obtain ⟨n, nh, t, pn, pc, fb, fr, h⟩ := hI
  have hL := Lok_of h.1.1
  have hB := Lob_of h.1.1
  have ht := h.1.2
  rcases rng v (lo := 0) (hi := 200) (by decide) (by decide) with hv | ⟨k, k1, k2, rfl⟩
  · exact OI_ref hI2 0 (fun m => x19t hv) (fun m => x129t hv) rfl (by decide)
  · have hU : Fr 2 S (slF (trF S n nh) 2 n nh 1000000000 k).1 := trF_Fr.trans (slF_Fr k)
    refine OI_tr (R := S) h hU (fun m => x19n k2 hL hB (by omega)) (fun m => ?_) (Mq_ra (n := n) (t := t) (q := k))
    obtain ⟨t1, t2⟩ := try_19 (u := k) h.1.1 (tr_see (w := ((slF (trF S n nh) 2 n nh 1000000000 k).2).toInt64) h hU) k2 (by omega)
    have hx := x129n (sx := sx) (s0 := s0) (m := m) k2 (tr_Rok (w := ((slF (trF S n nh) 2 n nh 1000000000 k).2).toInt64) h hU) (by omega) t2
    rw [← t1] at hx
    exact hx
/-- 20 -/
theorem o_20 (hI : Inv S) : OI s0 (X xtab sx 20 0 [some (.ref (adr s0 (0, 0, 0))), some (.int v), some (.int w)] []) (X xtab sx 130 0 [some (.ref (adr s0 (8, 0, 0))), some (.int v), some (.int w), none, none, none, none] []) cd2 S := by
  have hI2 := hI
  obtain ⟨n, nh, t, pn, pc, fb, fr, h⟩ := hI
  have hL := Lok_of h.1.1
  have hB := Lob_of h.1.1
  have hn := hL.1
  have ht := h.1.2
  have hR := Rok_of h.1.1
  rcases idx v (n := n) (by omega) with hv | ⟨i, hi, rfl⟩
  · exact OI_ref hI2 2 (fun m => x20u (by rw [hL.2.2.2.1]; exact hv)) (fun m => x130u hR hv) rfl (by decide)
  · rcases rng w (lo := 0) (hi := 200) (by decide) (by decide) with hw | ⟨k, k1, k2, rfl⟩
    · exact OI_ref hI2 0 (fun m => x20t hi hL hw) (fun m => x130t hi hR hw) rfl (by decide)
    · have hU : Fr 2 S (slF (trF S n nh) 2 n nh 1000000000 k).1 := trF_Fr.trans (slF_Fr k)
      refine OI_tr (R := S) h hU (fun m => x20n hi k2 hL hB (by omega)) (fun m => ?_) (Mq_ra (n := n) (t := t) (q := k))
      generalize hval : ((slF (trF S n nh) 2 n nh 1000000000 k).1.2.1 (19, 2, i) 5 - (slF (trF S n nh) 2 n nh 1000000000 k).1.2.1 (19, 1, i) 5).toInt32 = val
      have w1 := tr_see (w := val.toInt64) h hU
      have t2 := (try_19 (u := k) h.1.1 w1 k2 (by omega)).2
      have t1 := try_20 (u := k) h.1.1 w1 k2 (by omega) hi
      have hx := x130n (sx := sx) (s0 := s0) (m := m) hi k2 (tr_Rok (w := val.toInt64) h hU) (by omega) t2
      rw [← t1, hval] at hx
      exact hx
/-- 23 -/
theorem o_23 (hI : Inv S) : OI s0 (X xtab sx 23 0 [some (.ref (adr s0 (0, 0, 0))), some (.int v), none, none, none, none] []) (X xtab sx 134 0 [some (.ref (adr s0 (8, 0, 0))), some (.int v), none, none, none, none] []) cd0 S := by
  have hI2 := hI
  obtain ⟨n, nh, t, pn, pc, fb, fr, h⟩ := hI
  have hL := Lok_of h.1.1
  have hB := Lob_of h.1.1
  have ht := h.1.2
  rcases rng v (lo := 1) (hi := 30) (by decide) (by decide) with hv | ⟨k, k1, k2, rfl⟩
  · exact OI_ref hI2 0 (fun m => x23t hv) (fun m => x134t hv) rfl (by decide)
  · have hU : Fr 2 S (btF n nh k S (-1) 1000000000 100).2 := btF_Fr 100 S _ _ Fr.refl
    refine OI_tr (R := S) h hU (fun m => x23n ⟨k1, k2⟩ hL hB (by omega)) (fun m => ?_) (Mq_btP (n := n) (t := t) (u := k))
    generalize hval : (btF n nh k S (-1) 1000000000 100).1 = val
    have w1 := tr_see (w := val.toInt64) h hU
    have t1 := try_23 (u := k) h.1.1 w1 k2 (by omega)
    have t2 := bt_tries (u := k) h.1.1 w1 (by omega) (by omega)
    have hx := x134n (sx := sx) (s0 := s0) (m := m) ⟨k1, k2⟩ (tr_Rok (w := val.toInt64) h hU) (by omega) t2
    rw [← t1, hval] at hx
    exact hx
/-- 24 -/
theorem o_24 (hI : Inv S) : OI s0 (X xtab sx 24 0 [some (.ref (adr s0 (0, 0, 0))), some (.int v), none, none, none] []) (X xtab sx 135 0 [some (.ref (adr s0 (8, 0, 0))), some (.int v), none] []) cd0 S := by
  have hI2 := hI
  obtain ⟨n, nh, t, pn, pc, fb, fr, h⟩ := hI
  have hL := Lok_of h.1.1
  have hB := Lob_of h.1.1
  have ht := h.1.2
  rcases rng v (lo := 1) (hi := 10) (by decide) (by decide) with hv | ⟨k, k1, k2, rfl⟩
  · exact OI_ref hI2 0 (fun m => x24t hv) (fun m => x135t hv) rfl (by decide)
  · have hU : Fr 2 S (naF n nh k S 1 9999).2 := naF_Fr 9999 S _ Fr.refl
    refine OI_tr (R := S) h hU (fun m => x24n ⟨k1, k2⟩ hL hB (by omega)) (fun m => ?_) (Mq_nc (n := n) (t := t) (u := k) 9999 _ 1 Mq.refl)
    generalize hval : (naF n nh k S 1 9999).1 = val
    have w1 := tr_see (w := val.toInt64) h hU
    have t1 := try_24 (u := k) h.1.1 w1 k2 (by omega)
    have t2 := nc_tries (u := k) h.1.1 w1 (by omega) (by omega)
    have hx := x135n (sx := sx) (s0 := s0) (m := m) ⟨k1, k2⟩ (tr_Rok (w := val.toInt64) h hU) (by omega) t2
    rw [← t1, hval] at hx
    exact hx
/-- 26 -/
theorem o_26 (hI : Inv S) : OI s0 (X xtab sx 26 0 [some (.ref (adr s0 (0, 0, 0))), some (.int v), none, none, none, none] []) (X xtab sx 136 0 [some (.ref (adr s0 (8, 0, 0))), some (.int v), none, none, none, none] []) cd0 S := by
  have hI2 := hI
  obtain ⟨n, nh, t, pn, pc, fb, fr, h⟩ := hI
  have hL := Lok_of h.1.1
  have hB := Lob_of h.1.1
  have ht := h.1.2
  rcases rng v (lo := 1) (hi := 50) (by decide) (by decide) with hv | ⟨k, k1, k2, rfl⟩
  · exact OI_ref hI2 0 (fun m => x26t hv) (fun m => x136t hv) rfl (by decide)
  · have hT : Fr 2 S (cuT S n nh k).1 := trF_Fr.trans (slF_Fr k)
    have hU : Fr 2 S (cuF n nh k (cuT S n nh k).1 (-1) (cuT S n nh k).2 0 n).2 := cuF_Fr n 0 _ _ _ hT
    refine OI_tr (R := S) h hU (fun m => x26n ⟨k1, k2⟩ hL hB (by omega)) (fun m => ?_) (Mq_cuP (n := n) (t := t) (u := k))
    generalize hval : (cuF n nh k (cuT S n nh k).1 (-1) (cuT S n nh k).2 0 n).1 = val
    have w1 := tr_see (w := val.toInt64) h hU
    have t1 := try_26 (u := k) h.1.1 w1 k2 (by omega)
    have t2 := cu_tries (u := k) h.1.1 w1 (by omega) (by omega)
    have t3 := ahead_of (u := k) (Lnk_W h.1.1 w1) (by omega) (by omega)
    have hx := x136n (sx := sx) (s0 := s0) (m := m) ⟨k1, k2⟩ (tr_Rok (w := val.toInt64) h hU) (by omega) t3 t2
    rw [← t1, hval] at hx
    exact hx
end OP2
