section LK11
variable {n nh t k p i j h w q g z : Nat} {S T U : St} {d6 d7 : Nat → Int64} {v pr rf y u s l : Int32}
theorem ofL_34 (hw : w = 3 ∨ w = 4) : ∀ j, p < j → (ofL S k j).1 (18, k, p) w = 0 := by
  intro j
  induction j with
  | zero => intro h; exact absurd h (Nat.not_lt_zero p)
  | succ j ih =>
    intro hj
    unfold ofL
    rw [offF_L]
    by_cases e : p = j
    · rw [if_pos ⟨e, by omega⟩]
      unfold offV
      rcases hw with e2 | e2 <;> subst e2 <;> rfl
    · rw [if_neg (fun e2 => e e2.1)]
      exact ih (by omega)
theorem ps2_L (hw : w ≠ 3) : (ps2 S k n).1 (18, k, p) w = S.1 (18, k, p) w := by
  have key : ∀ (V : St) m, (ylL V k m).1 (18, k, p) w = V.1 (18, k, p) w := by
    intro V m
    induction m with
    | zero => rfl
    | succ m ih => unfold ylL; rw [yldF_L, if_neg (fun e => hw e.2), ih]
  unfold ps2
  split
  · rw [key, upI_1, if_neg (by simp), upI_1, if_neg (by simp)]
  · rw [upI_1, if_neg (by simp)]
theorem ps2_P : (ps2 S k n).1 (17, k, p) w = S.1 (17, k, p) w := by
  unfold ps2
  split
  · rw [ylL_P, upI_1, if_neg (by simp), upI_1, if_neg (by simp)]
  · rw [upI_1, if_neg (by simp)]
theorem ps2_lk (hg : g ≠ 6 ∧ g ≠ 8) : (ps2 S k n).1 (12, k, 0) g = S.1 (12, k, 0) g := by
  unfold ps2
  split
  · rw [ylL_k, upI_1, if_neg (fun e => hg.1 e.2), upI_1, if_neg (fun e => hg.2 e.2)]
  · rw [upI_1, if_neg (fun e => hg.2 e.2)]
theorem ps2_adm : adm (ps2 S k n) k p = adm S k p := by
  unfold adm
  rw [ps2_L (by decide), ps2_L (by decide), ps2_L (by decide)]
theorem ps3_o {o : Ob} (h : g ≠ 4 ∨ o.1 ≠ 18) (h2 : o ≠ (12, k, 0) ∨ g ≠ 7) : (ps3 S k n).1 o g = S.1 o g := by
  unfold ps3
  split
  · rw [upI_1, if_neg (by rintro ⟨e1, e2⟩; rcases h2 with e | e; exact e e1; exact e e2), deF_o h]
  · exact deF_o h
theorem ps3_4 : (ps3 S k n).1 (18, k, p) 4 = (deF S k n).1 (18, k, p) 4 := by
  unfold ps3
  split
  · rw [upI_1, if_neg (by simp)]
  · rfl
theorem ps3_7 : (ps3 S k n).1 (12, k, 0) 7 = S.1 (12, k, 0) 7 + (if 0 < deV S k n then 1 else 0) := by
  unfold ps3
  by_cases e : 0 < deV S k n
  · rw [if_pos e, if_pos e, upI_1, if_pos ⟨rfl, rfl⟩, deF_o (by simp)]
  · rw [if_neg e, if_neg e, deF_o (by simp), Int32.add_zero]
theorem rdA_z (hz : z < 168) : ∀ j, (rdA T y u s j).1.1 (11, 0, 0) z = T.1 (11, 0, 0) z := by
  intro j
  induction j with
  | zero => rfl
  | succ j ih => unfold rdA; dsimp only; rw [rz_sL hz, ih]
theorem rdB_z (hz : z < 168) : ∀ j, (rdB T y l j).1.1 (11, 0, 0) z = T.1 (11, 0, 0) z := by
  intro j
  induction j with
  | zero => rfl
  | succ j ih =>
    unfold rdB
    split
    · dsimp only; rw [rz_sL hz, ih]
    · exact ih
theorem rdF_z (hz : z < 168) : (rdF T n u y).1.1 (11, 0, 0) z = T.1 (11, 0, 0) z := by
  unfold rdF
  split
  · rw [rdB_z hz, rdA_z hz]
  · exact rdB_z hz n
theorem rxF_z (hz : z < 168) : (rxF T n).1 (11, 0, 0) z = T.1 (11, 0, 0) z := by
  unfold rxF
  split
  · unfold rx2 rx1; rw [rdF_z hz, rdF_z hz]
  · rfl
theorem rpD_z (hz : z < 12) : ∀ j, j ≤ 12 → (∀ p, p < j → rh T p < 6) → (rpD T j).1 (11, 0, 0) z = T.1 (11, 0, 0) z := by
  intro j
  induction j with
  | zero => intro _ _; rfl
  | succ j ih => intro hj hh; unfold rpD; rw [rvF_z hz (by omega) (hh j (by omega)), ih (by omega) (fun p hp => hh p (by omega))]
theorem Mix_8 {f : Nat} (h : Mix k S T n nh d6 d7) : Mix k S (upI T (8, 0, 0) f v) n nh d6 d7 := by
  obtain ⟨m2, m3, m4, m5, m6, m7, m8, m9⟩ := h
  refine ⟨fun a b c d => ?_, fun a b c d => ?_, fun a b c d => ?_, m5, m6, fun a b c d => ?_, m8, m9⟩
  · rw [upI_1, if_neg (by simp)]; exact m2 a b c d
  · rw [upI_1, if_neg (by simp)]; exact m3 a b c d
  · rw [upI_1, if_neg (by simp)]; exact m4 a b c d
  · rw [upI_1, if_neg (by simp)]; exact m7 a b c d
theorem Aux_8 {f : Nat} (h : Aux k S T n) : Aux k S (upI T (8, 0, 0) f v) n := by
  intro p hp
  rw [upI_1, if_neg (by simp), upI_1, if_neg (by simp), upI_1, if_neg (by simp)]
  exact h p hp
/-- what the numbers of a link must be -/
def Nok (S : St) (k n nh : Nat) : Prop := Bok S k n nh ∧ (∃ c, S.1 (12, k, 0) 0 = Int32.ofNat c ∧ c ≤ 9999) ∧ (∀ p, p < n → (S.1 (17, k, p) 2 = 0 ∨ S.1 (17, k, p) 2 = 1 ∨ S.1 (17, k, p) 2 = 2 ∨ S.1 (17, k, p) 2 = 3)) ∧ (∀ p, p < n → 0 ≤ S.1 (17, k, p) 7) ∧ Sbd (ps2 (ofL S k n) k n) k n
/-- THE SLOT on both sides -/
theorem slot_rel (hM : Mit k S T n nh (fun _ => 0) (fun _ => 0)) (hN : Nok S k n nh) (ht : t < 2 ^ 20) (h5 : S.1 (12, k, 0) 5 = Int32.ofNat t) : Mit k (psF S k n nh) (rpF T n t) n nh (fun _ => 0) (fun _ => 0) ∧ psV S k n = rpV T n ∧ Rpre T n := by
  obtain ⟨hB, ⟨c, hc, hc9⟩, hkd, hpc, hSb⟩ := hN
  obtain ⟨hn, hnh, hpr, hon, hhs⟩ := hB
  have o1 := off_loop hM ⟨hn, hnh, hpr, hon, hhs⟩ n (Nat.le_refl n)
  have z3 : ∀ p, p < n → (ofL S k n).1 (18, k, p) 3 = 0 := fun p hp => ofL_34 (Or.inl rfl) n hp
  have z4 : ∀ p, p < n → (ofL S k n).1 (18, k, p) 4 = 0 := fun p hp => ofL_34 (Or.inr rfl) n hp
  have a1 : Aux k (ofL S k n) (rpO T n) n := fun p hp => by
    obtain ⟨b1, b2, b3⟩ := o1.2 p hp
    refine ⟨b1, ?_, ?_⟩
    · unfold snt; rw [z3 p hp, Int32.sub_zero]; exact b2
    · rw [ofL_p]; exact b3
  have hh1 : ∀ p, hisF (ofL S k n) k p = hisF S k p := fun p => by unfold hisF; rw [ofL_p]
  have o2 := ps2_mix o1.1 a1 hn hnh (fun p hp => by rw [hh1]; exact (hhs p hp).2) z3
  have e1k : ∀ g, (ofL S k n).1 (12, k, 0) g = S.1 (12, k, 0) g := fun g => ofL_pr n
  have e1p : ∀ q g, (ofL S k n).1 (17, k, q) g = S.1 (17, k, q) g := fun q g => ofL_p n
  unfold psF psV rpF rpV Rpre ps4
  have d6e : ∀ p, p < n → (if p < n then (adm (ofL S k n) k p * S.1 (12, k, 0) 2).toInt64 else 0) = (adm (ofL S k n) k p * S.1 (12, k, 0) 2).toInt64 := fun p hp => if_pos hp
  generalize hS1 : ofL S k n = S1 at *
  generalize rpO T n = T1 at *
  have s2k : ∀ g, g ≠ 6 → g ≠ 8 → (ps2 S1 k n).1 (12, k, 0) g = S.1 (12, k, 0) g := fun g h6 h8 => by rw [ps2_lk ⟨h6, h8⟩, e1k]
  have s2p : ∀ q g, (ps2 S1 k n).1 (17, k, q) g = S.1 (17, k, q) g := fun q g => by rw [ps2_P, e1p]
  have s24 : ∀ p, p < n → (ps2 S1 k n).1 (18, k, p) 4 = 0 := fun p hp => by rw [ps2_L (by decide)]; exact z4 p hp
  have s2a : ∀ p, adm (ps2 S1 k n) k p = adm S1 k p := fun p => ps2_adm
  rw [e1k] at o2
  generalize hS2 : ps2 S1 k n = S2 at *
  generalize rq2 T1 n = T2 at *
  obtain ⟨o2M, o2A⟩ := o2
  have sc2 := o2M.1
  have t2c : T2.1 (11, 0, 0) 2 = Int32.ofNat c := by
    have := sc2 2 (by decide)
    rw [show scI 2 = 0 from rfl, s2k 0 (by decide) (by decide), hc] at this
    exact this.symm
  have o3 := dex_mix (Mix_of o2M) o2A hSb hn hnh (by rw [s2k 0 (by decide) (by decide)]; exact hc) t2c hc9 s24
  obtain ⟨o3M, o3R, o3A, o3S⟩ := o3
  have hrx : ∀ z, z < 168 → (rxF T2 n).1 (11, 0, 0) z = T2.1 (11, 0, 0) z := fun z hz => rxF_z hz
  have hT3 : (rxF T2 n).1 (8, 0, 0) = (rxF T2 n).1 (8, 0, 0) := rfl
  have m3 : Mix k (ps3 S2 k n) (rxF T2 n) n nh (fun p => if p < n then (adm S1 k p * S.1 (12, k, 0) 2).toInt64 else 0) (d7Y S2 k (S.1 (12, k, 0) 3)) := by
    unfold ps3
    split
    · exact Mix_lk o3M
    · exact o3M
  have a3 : Aux k (ps3 S2 k n) (rxF T2 n) n := by
    unfold ps3
    split
    · exact Aux_lk o3A
    · exact o3A
  have s3p : ∀ q g, (ps3 S2 k n).1 (17, k, q) g = S.1 (17, k, q) g := fun q g => by rw [ps3_o (by simp) (Or.inl (by simp)), s2p]
  have s3k : ∀ g, g ≠ 7 → (ps3 S2 k n).1 (12, k, 0) g = S2.1 (12, k, 0) g := fun g h7 => ps3_o (by simp) (Or.inr h7)
  have s37 := ps3_7 (S := S2) (k := k) (n := n)
  have s3a : ∀ p, adm (ps3 S2 k n) k p = adm S1 k p := fun p => by
    rw [← s2a p]
    unfold adm
    rw [ps3_o (by simp) (Or.inl (by simp)), ps3_o (by simp) (Or.inl (by simp)), ps3_o (by simp) (Or.inl (by simp))]
  have s33 : ∀ p, (ps3 S2 k n).1 (18, k, p) 3 = S2.1 (18, k, p) 3 := fun p => ps3_o (by simp) (Or.inl (by simp))
  have s34 : ∀ p, (ps3 S2 k n).1 (18, k, p) 4 = (deF S2 k n).1 (18, k, p) 4 := fun p => ps3_4
  generalize ps3 S2 k n = S3 at *
  have hrh : ∀ p, p < n → rh (upI (rxF T2 n) (8, 0, 0) 26 0) p < 6 := fun p hp => by
    have : rh (upI (rxF T2 n) (8, 0, 0) 26 0) p = hisF S3 k p := by
      unfold rh hisF gP
      rw [upI_1, if_neg (by simp), ← m3.2.1 p 0 hp (by decide)]
    rw [this]
    have h9 := (hhs p hp).2
    unfold hisF at h9 ⊢
    rw [s3p]
    omega
  have o4 := dlv_loop (Mix_8 (f := 26) (v := 0) m3) (Aux_8 a3) hn hnh (fun p hp => by unfold hisF; rw [s3p]; exact (hhs p hp).2) (fun p hp => by rw [d6e p hp, s3a, s3k 2 (by decide), s2k 2 (by decide) (by decide)]) (fun p hp => by unfold d7Y; rw [s33, s3k 3 (by decide), s2k 3 (by decide) (by decide)]) n (Nat.le_refl n)
  obtain ⟨o4M, o4A, o426⟩ := o4
  rw [upI_1, if_pos ⟨rfl, rfl⟩, Int32.zero_add, sumF_congr (f' := fun p => (deF S2 k n).1 (18, k, p) 4) n (fun p _ => s34 p), o3S] at o426
  have hz4 : ∀ z, z < 12 → (rq3 T2 n).1 (11, 0, 0) z = T2.1 (11, 0, 0) z := fun z hz => by
    unfold rq3
    rw [rpD_z hz n hn hrh, upI_1, if_neg (by simp), hrx z (by omega)]
  rw [show rpD (upI (rxF T2 n) (8, 0, 0) 26 0) n = rq3 T2 n from rfl] at o4M o4A o426
  refine ⟨?_, o426.symm, o3R⟩
  have d4k : ∀ g, (dvL S3 k n).1 (12, k, 0) g = S3.1 (12, k, 0) g := fun g => dvL_k n
  have d4p : ∀ q g, (dvL S3 k n).1 (17, k, q) g = S.1 (17, k, q) g := fun q g => by rw [dvL_P, s3p]
  have m4 : Mix k (dvL S3 k n) (rq4 (rq3 T2 n)) n nh (fun _ => 0) (fun _ => 0) := by
    unfold rq4
    exact Mix_rz (Mix_congr o4M (fun p hp => if_pos hp) (fun p hp => if_pos hp)) (by decide)
  have a4 : Aux k (dvL S3 k n) (rq4 (rq3 T2 n)) n := by unfold rq4; exact Aux_rz o4A
  have z4b : ∀ z, z < 12 → z ≠ 9 → (rq4 (rq3 T2 n)).1 (11, 0, 0) z = T2.1 (11, 0, 0) z := fun z hz h9 => by
    unfold rq4
    rw [upI_1, if_neg (fun e => h9 e.2), hz4 z hz]
  have z49 : (rq4 (rq3 T2 n)).1 (11, 0, 0) 9 = T2.1 (11, 0, 0) 9 + (if 0 < deV S2 k n then 1 else 0) := by
    unfold rq4
    rw [upI_1, if_pos ⟨rfl, rfl⟩, hz4 9 (by decide), o426]
  generalize dvL S3 k n = S4 at *
  generalize rq4 (rq3 T2 n) = T4 at *
  have c10 := sc2 10 (by decide)
  have c6 := sc2 6 (by decide)
  rw [show scI 10 = 8 from rfl] at c10
  rw [show scI 6 = 4 from rfl] at c6
  have o5 := lrn_loop m4 a4 hn hnh (fun p hp => by rw [d4p]; exact hon p hp) (fun p hp => by rw [d4p]; exact hkd p hp) (fun p hp => by rw [d4p]; exact hpc p hp) (by rw [z4b 10 (by decide) (by decide), d4k, s3k 8 (by decide)]; exact c10.symm) (by rw [z4b 6 (by decide) (by decide), d4k, s3k 4 (by decide)]; exact c6.symm) n (Nat.le_refl n)
  have l5k : ∀ g, (laF S4 k (ldF S4 k n).2 n).1 (12, k, 0) g = S3.1 (12, k, 0) g := fun g => by rw [laF_k, d4k]
  have z5 : ∀ z, z < 12 → (rq5 T4 n).1 (11, 0, 0) z = T4.1 (11, 0, 0) z := fun z hz => by unfold rq5; exact rpL_z (by omega) n
  rw [show rpL T4 (lrO T4 n) n = rq5 T4 n from rfl] at o5
  generalize laF S4 k (ldF S4 k n).2 n = S5 at *
  generalize rq5 T4 n = T5 at *
  have h55 : S5.1 (12, k, 0) 5 = Int32.ofNat t := by rw [l5k, s3k 5 (by decide), s2k 5 (by decide) (by decide)]; exact h5
  refine Mit_of ?_ (time_mix o5 hn hnh ht h55)
  intro g hg
  rw [rq6_z (by omega)]
  rcases (show g = 7 ∨ g = 9 ∨ (g ≠ 7 ∧ g ≠ 9) by omega) with e | e | e
  · subst e
    rw [show scI 7 = 5 from rfl, ptF_5, h55, if_pos rfl, ← inc_ofNat]
  · subst e
    rw [show scI 9 = 7 from rfl, ptF_lk (by decide), if_neg (by decide), l5k, s37, z5 9 (by decide), z49]
    have := sc2 9 (by decide)
    rw [show scI 9 = 7 from rfl] at this
    rw [this]
  · have n5 : scI g ≠ 5 := by unfold scI; split <;> omega
    have n7 : scI g ≠ 7 := by unfold scI; split <;> omega
    rw [ptF_lk n5, if_neg e.1, l5k, s3k _ n7, z5 g (by omega), z4b g (by omega) e.2]
    exact sc2 g hg
end LK11
