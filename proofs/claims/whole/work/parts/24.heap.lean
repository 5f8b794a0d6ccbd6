/-! THE HEAP, TYPED: every cell that the law makes has a name (Ob); St holds what the cells hold. -/
inductive Ob where
  | rs : Ob
  | tr : Ob
  | tx : Ob
  | rp : Ob
  | rb : Ob
  | ps : Ob
  | sn : Ob
  | sv : Ob
  | md : Ob
  | out : Ob
  | outD : Ob
  | ar : Nat → Ob
  | lk : Nat → Ob
  | ha : Nat → Ob
  | pa : Nat → Ob
  | hr : Nat → Ob
  | hh : Nat → Nat → Ob
  | pg : Nat → Nat → Ob
  | sl : Nat → Nat → Ob
  | ct : Nat → Nat → Ob
  deriving DecidableEq
def lb (k : Nat) : Nat := if k = 0 then 3 else if k = 1 then 51 else if k = 2 then 97 else 8 + 46 * k
def adr (s0 : Nat) : Ob → Nat
  | .rs => s0
  | .tr => s0 + 1
  | .tx => s0 + 2
  | .rp => s0 + 49
  | .rb => s0 + 50
  | .ps => s0 + 143
  | .sn => s0 + 144
  | .sv => s0 + 145
  | .md => s0 + 606
  | .ar i => s0 + (607 + i)
  | .out => s0 + 623
  | .outD => s0 + 624
  | .lk k => s0 + lb k
  | .ha k => s0 + (lb k + 1)
  | .pa k => s0 + (lb k + 2)
  | .hr k => s0 + (lb k + 3)
  | .hh k i => s0 + (lb k + (4 + i))
  | .pg k p => s0 + (lb k + (10 + 3 * p))
  | .sl k p => s0 + (lb k + (11 + 3 * p))
  | .ct k p => s0 + (lb k + (12 + 3 * p))
def Ob.ok : Ob → Bool
  | .ar i => decide (i < 16)
  | .lk k => decide (k < 13)
  | .ha k => decide (k < 13)
  | .pa k => decide (k < 13)
  | .hr k => decide (k < 13)
  | .hh k i => decide (k < 13) && decide (i < 6)
  | .pg k p => decide (k < 13) && decide (p < 12)
  | .sl k p => decide (k < 13) && decide (p < 12)
  | .ct k p => decide (k < 13) && decide (p < 12)
  | _ => true
def obs : List Ob := [.rs, .tr, .tx, .lk 0, .ha 0, .pa 0, .hr 0, .hh 0 0, .hh 0 1, .hh 0 2, .hh 0 3, .hh 0 4, .hh 0 5, .pg 0 0, .sl 0 0, .ct 0 0, .pg 0 1, .sl 0 1, .ct 0 1, .pg 0 2, .sl 0 2, .ct 0 2, .pg 0 3, .sl 0 3, .ct 0 3, .pg 0 4, .sl 0 4, .ct 0 4, .pg 0 5, .sl 0 5, .ct 0 5, .pg 0 6, .sl 0 6, .ct 0 6, .pg 0 7, .sl 0 7, .ct 0 7, .pg 0 8, .sl 0 8, .ct 0 8, .pg 0 9, .sl 0 9, .ct 0 9, .pg 0 10, .sl 0 10, .ct 0 10, .pg 0 11, .sl 0 11, .ct 0 11, .rp, .rb, .lk 1, .ha 1, .pa 1, .hr 1, .hh 1 0, .hh 1 1, .hh 1 2, .hh 1 3, .hh 1 4, .hh 1 5, .pg 1 0, .sl 1 0, .ct 1 0, .pg 1 1, .sl 1 1, .ct 1 1, .pg 1 2, .sl 1 2, .ct 1 2, .pg 1 3, .sl 1 3, .ct 1 3, .pg 1 4, .sl 1 4, .ct 1 4, .pg 1 5, .sl 1 5, .ct 1 5, .pg 1 6, .sl 1 6, .ct 1 6, .pg 1 7, .sl 1 7, .ct 1 7, .pg 1 8, .sl 1 8, .ct 1 8, .pg 1 9, .sl 1 9, .ct 1 9, .pg 1 10, .sl 1 10, .ct 1 10, .pg 1 11, .sl 1 11, .ct 1 11, .lk 2, .ha 2, .pa 2, .hr 2, .hh 2 0, .hh 2 1, .hh 2 2, .hh 2 3, .hh 2 4, .hh 2 5, .pg 2 0, .sl 2 0, .ct 2 0, .pg 2 1, .sl 2 1, .ct 2 1, .pg 2 2, .sl 2 2, .ct 2 2, .pg 2 3, .sl 2 3, .ct 2 3, .pg 2 4, .sl 2 4, .ct 2 4, .pg 2 5, .sl 2 5, .ct 2 5, .pg 2 6, .sl 2 6, .ct 2 6, .pg 2 7, .sl 2 7, .ct 2 7, .pg 2 8, .sl 2 8, .ct 2 8, .pg 2 9, .sl 2 9, .ct 2 9, .pg 2 10, .sl 2 10, .ct 2 10, .pg 2 11, .sl 2 11, .ct 2 11, .ps, .sn, .sv, .lk 3, .ha 3, .pa 3, .hr 3, .hh 3 0, .hh 3 1, .hh 3 2, .hh 3 3, .hh 3 4, .hh 3 5, .pg 3 0, .sl 3 0, .ct 3 0, .pg 3 1, .sl 3 1, .ct 3 1, .pg 3 2, .sl 3 2, .ct 3 2, .pg 3 3, .sl 3 3, .ct 3 3, .pg 3 4, .sl 3 4, .ct 3 4, .pg 3 5, .sl 3 5, .ct 3 5, .pg 3 6, .sl 3 6, .ct 3 6, .pg 3 7, .sl 3 7, .ct 3 7, .pg 3 8, .sl 3 8, .ct 3 8, .pg 3 9, .sl 3 9, .ct 3 9, .pg 3 10, .sl 3 10, .ct 3 10, .pg 3 11, .sl 3 11, .ct 3 11, .lk 4, .ha 4, .pa 4, .hr 4, .hh 4 0, .hh 4 1, .hh 4 2, .hh 4 3, .hh 4 4, .hh 4 5, .pg 4 0, .sl 4 0, .ct 4 0, .pg 4 1, .sl 4 1, .ct 4 1, .pg 4 2, .sl 4 2, .ct 4 2, .pg 4 3, .sl 4 3, .ct 4 3, .pg 4 4, .sl 4 4, .ct 4 4, .pg 4 5, .sl 4 5, .ct 4 5, .pg 4 6, .sl 4 6, .ct 4 6, .pg 4 7, .sl 4 7, .ct 4 7, .pg 4 8, .sl 4 8, .ct 4 8, .pg 4 9, .sl 4 9, .ct 4 9, .pg 4 10, .sl 4 10, .ct 4 10, .pg 4 11, .sl 4 11, .ct 4 11, .lk 5, .ha 5, .pa 5, .hr 5, .hh 5 0, .hh 5 1, .hh 5 2, .hh 5 3, .hh 5 4, .hh 5 5, .pg 5 0, .sl 5 0, .ct 5 0, .pg 5 1, .sl 5 1, .ct 5 1, .pg 5 2, .sl 5 2, .ct 5 2, .pg 5 3, .sl 5 3, .ct 5 3, .pg 5 4, .sl 5 4, .ct 5 4, .pg 5 5, .sl 5 5, .ct 5 5, .pg 5 6, .sl 5 6, .ct 5 6, .pg 5 7, .sl 5 7, .ct 5 7, .pg 5 8, .sl 5 8, .ct 5 8, .pg 5 9, .sl 5 9, .ct 5 9, .pg 5 10, .sl 5 10, .ct 5 10, .pg 5 11, .sl 5 11, .ct 5 11, .lk 6, .ha 6, .pa 6, .hr 6, .hh 6 0, .hh 6 1, .hh 6 2, .hh 6 3, .hh 6 4, .hh 6 5, .pg 6 0, .sl 6 0, .ct 6 0, .pg 6 1, .sl 6 1, .ct 6 1, .pg 6 2, .sl 6 2, .ct 6 2, .pg 6 3, .sl 6 3, .ct 6 3, .pg 6 4, .sl 6 4, .ct 6 4, .pg 6 5, .sl 6 5, .ct 6 5, .pg 6 6, .sl 6 6, .ct 6 6, .pg 6 7, .sl 6 7, .ct 6 7, .pg 6 8, .sl 6 8, .ct 6 8, .pg 6 9, .sl 6 9, .ct 6 9, .pg 6 10, .sl 6 10, .ct 6 10, .pg 6 11, .sl 6 11, .ct 6 11, .lk 7, .ha 7, .pa 7, .hr 7, .hh 7 0, .hh 7 1, .hh 7 2, .hh 7 3, .hh 7 4, .hh 7 5, .pg 7 0, .sl 7 0, .ct 7 0, .pg 7 1, .sl 7 1, .ct 7 1, .pg 7 2, .sl 7 2, .ct 7 2, .pg 7 3, .sl 7 3, .ct 7 3, .pg 7 4, .sl 7 4, .ct 7 4, .pg 7 5, .sl 7 5, .ct 7 5, .pg 7 6, .sl 7 6, .ct 7 6, .pg 7 7, .sl 7 7, .ct 7 7, .pg 7 8, .sl 7 8, .ct 7 8, .pg 7 9, .sl 7 9, .ct 7 9, .pg 7 10, .sl 7 10, .ct 7 10, .pg 7 11, .sl 7 11, .ct 7 11, .lk 8, .ha 8, .pa 8, .hr 8, .hh 8 0, .hh 8 1, .hh 8 2, .hh 8 3, .hh 8 4, .hh 8 5, .pg 8 0, .sl 8 0, .ct 8 0, .pg 8 1, .sl 8 1, .ct 8 1, .pg 8 2, .sl 8 2, .ct 8 2, .pg 8 3, .sl 8 3, .ct 8 3, .pg 8 4, .sl 8 4, .ct 8 4, .pg 8 5, .sl 8 5, .ct 8 5, .pg 8 6, .sl 8 6, .ct 8 6, .pg 8 7, .sl 8 7, .ct 8 7, .pg 8 8, .sl 8 8, .ct 8 8, .pg 8 9, .sl 8 9, .ct 8 9, .pg 8 10, .sl 8 10, .ct 8 10, .pg 8 11, .sl 8 11, .ct 8 11, .lk 9, .ha 9, .pa 9, .hr 9, .hh 9 0, .hh 9 1, .hh 9 2, .hh 9 3, .hh 9 4, .hh 9 5, .pg 9 0, .sl 9 0, .ct 9 0, .pg 9 1, .sl 9 1, .ct 9 1, .pg 9 2, .sl 9 2, .ct 9 2, .pg 9 3, .sl 9 3, .ct 9 3, .pg 9 4, .sl 9 4, .ct 9 4, .pg 9 5, .sl 9 5, .ct 9 5, .pg 9 6, .sl 9 6, .ct 9 6, .pg 9 7, .sl 9 7, .ct 9 7, .pg 9 8, .sl 9 8, .ct 9 8, .pg 9 9, .sl 9 9, .ct 9 9, .pg 9 10, .sl 9 10, .ct 9 10, .pg 9 11, .sl 9 11, .ct 9 11, .lk 10, .ha 10, .pa 10, .hr 10, .hh 10 0, .hh 10 1, .hh 10 2, .hh 10 3, .hh 10 4, .hh 10 5, .pg 10 0, .sl 10 0, .ct 10 0, .pg 10 1, .sl 10 1, .ct 10 1, .pg 10 2, .sl 10 2, .ct 10 2, .pg 10 3, .sl 10 3, .ct 10 3, .pg 10 4, .sl 10 4, .ct 10 4, .pg 10 5, .sl 10 5, .ct 10 5, .pg 10 6, .sl 10 6, .ct 10 6, .pg 10 7, .sl 10 7, .ct 10 7, .pg 10 8, .sl 10 8, .ct 10 8, .pg 10 9, .sl 10 9, .ct 10 9, .pg 10 10, .sl 10 10, .ct 10 10, .pg 10 11, .sl 10 11, .ct 10 11, .lk 11, .ha 11, .pa 11, .hr 11, .hh 11 0, .hh 11 1, .hh 11 2, .hh 11 3, .hh 11 4, .hh 11 5, .pg 11 0, .sl 11 0, .ct 11 0, .pg 11 1, .sl 11 1, .ct 11 1, .pg 11 2, .sl 11 2, .ct 11 2, .pg 11 3, .sl 11 3, .ct 11 3, .pg 11 4, .sl 11 4, .ct 11 4, .pg 11 5, .sl 11 5, .ct 11 5, .pg 11 6, .sl 11 6, .ct 11 6, .pg 11 7, .sl 11 7, .ct 11 7, .pg 11 8, .sl 11 8, .ct 11 8, .pg 11 9, .sl 11 9, .ct 11 9, .pg 11 10, .sl 11 10, .ct 11 10, .pg 11 11, .sl 11 11, .ct 11 11, .lk 12, .ha 12, .pa 12, .hr 12, .hh 12 0, .hh 12 1, .hh 12 2, .hh 12 3, .hh 12 4, .hh 12 5, .pg 12 0, .sl 12 0, .ct 12 0, .pg 12 1, .sl 12 1, .ct 12 1, .pg 12 2, .sl 12 2, .ct 12 2, .pg 12 3, .sl 12 3, .ct 12 3, .pg 12 4, .sl 12 4, .ct 12 4, .pg 12 5, .sl 12 5, .ct 12 5, .pg 12 6, .sl 12 6, .ct 12 6, .pg 12 7, .sl 12 7, .ct 12 7, .pg 12 8, .sl 12 8, .ct 12 8, .pg 12 9, .sl 12 9, .ct 12 9, .pg 12 10, .sl 12 10, .ct 12 10, .pg 12 11, .sl 12 11, .ct 12 11, .md, .ar 0, .ar 1, .ar 2, .ar 3, .ar 4, .ar 5, .ar 6, .ar 7, .ar 8, .ar 9, .ar 10, .ar 11, .ar 12, .ar 13, .ar 14, .ar 15, .out, .outD]
structure HH where
  nm : Int64
  cap : Int32
  bal : Int32
  use : Int32
  cam : Int32
structure PG where
  nm : Int64
  hs : Int32
  kd : Int32
  rt : Int32
  fl : Int32
  ce : Int32
  ga : Int32
  pc : Int32
  le : Int32
  ba : Int32
  mi : Int32
  on : Int32
structure LK where
  cap : Int32
  thr : Int32
  pri : Int32
  rfd : Int32
  fgt : Int32
  tim : Int32
  wsl : Int32
  dsl : Int32
  wrn : Int32
  nh : Int32
  np : Int32
structure TR where
  en : Int32
  nx : Int32
  tk : Int32
  wd : Int64
  nu : Int32
  fil : Int32
  cod : Int32
  off : Int32
structure MD where
  chg : Int32
  thw : Int32
  bfd : Int32
  lim : Int32
  pos : Int32
  frm : Int32
  knd : Int32
  num : Int32
  cod : Int32
  off : Int32
  wd : Int64
  drn : Int32
  tln : Int32
structure St where
  pn : Int32
  pk : Int32
  tr : TR
  tx : Nat → Int32
  rl : Int32
  rb : Nat → Int32
  sv : Nat → Int32
  md : MD
  ai : Nat → Nat → Int32
  aj : Nat → Nat → Int64
  out : Nat → Int64
  outD : Nat → UInt64
  lk : Nat → LK
  hr : Nat → Nat → Int32
  hh : Nat → Nat → HH
  pg : Nat → Nat → PG
  sl : Nat → Nat → Nat → Int32
  ct : Nat → Nat → Nat → Int64
def arL : List (Nat × Nat) := [(0, 384), (0, 384), (0, 3072), (0, 768), (0, 384), (1, 114), (1, 114), (1, 912), (1, 228), (1, 114), (3, 2), (0, 700), (0, 12), (0, 12), (0, 12), (0, 600)]
def cel (s0 : Nat) (S : St) : Ob → xC
  | .rs => .inr (5, [.ref (adr s0 .tr), .ref (adr s0 .rp), .ref (adr s0 (.lk 1)), .ref (adr s0 (.lk 2)), .ref (adr s0 .ps), .int S.pn, .int S.pk, .ref (adr s0 .sn), .ref (adr s0 .sv)])
  | .tr => .inr (4, [.ref (adr s0 .tx), .int S.tr.en, .int S.tr.nx, .int S.tr.tk, .long S.tr.wd, .int S.tr.nu, .ref (adr s0 (.lk 0)), .int S.tr.fil, .int S.tr.cod, .int S.tr.off])
  | .rp => .inr (3, [.ref (adr s0 .rb), .int S.rl])
  | .md => .inr (6, [.ref (adr s0 (.ar 0)), .ref (adr s0 (.ar 1)), .ref (adr s0 (.ar 2)), .ref (adr s0 (.ar 3)), .ref (adr s0 (.ar 4)), .ref (adr s0 (.ar 5)), .ref (adr s0 (.ar 6)), .ref (adr s0 (.ar 7)), .ref (adr s0 (.ar 8)), .ref (adr s0 (.ar 9)), .ref (adr s0 (.ar 10)), .int S.md.chg, .int S.md.thw, .ref (adr s0 (.ar 11)), .int S.md.bfd, .int S.md.lim, .int S.md.pos, .int S.md.frm, .int S.md.knd, .int S.md.num, .int S.md.cod, .int S.md.off, .long S.md.wd, .ref (adr s0 (.ar 12)), .ref (adr s0 (.ar 13)), .ref (adr s0 (.ar 14)), .int S.md.drn, .ref (adr s0 (.ar 15)), .int S.md.tln])
  | .hh k i => .inr (0, [.long (S.hh k i).nm, .int (S.hh k i).cap, .int (S.hh k i).bal, .int (S.hh k i).use, .int (S.hh k i).cam])
  | .pg k p => .inr (2, [.long (S.pg k p).nm, .int (S.pg k p).hs, .int (S.pg k p).kd, .int (S.pg k p).rt, .int (S.pg k p).fl, .int (S.pg k p).ce, .int (S.pg k p).ga, .int (S.pg k p).pc, .int (S.pg k p).le, .int (S.pg k p).ba, .int (S.pg k p).mi, .int (S.pg k p).on, .ref (adr s0 (.sl k p)), .ref (adr s0 (.ct k p))])
  | .lk k => .inr (1, [.int (S.lk k).cap, .int (S.lk k).thr, .int (S.lk k).pri, .int (S.lk k).rfd, .int (S.lk k).fgt, .int (S.lk k).tim, .int (S.lk k).wsl, .int (S.lk k).dsl, .int (S.lk k).wrn, .int (S.lk k).nh, .int (S.lk k).np, .ref (adr s0 (.ha k)), .ref (adr s0 (.pa k)), .ref (adr s0 (.hr k))])
  | .tx => .inl (2, 700, .inl S.tx)
  | .rb => .inl (2, 500, .inl S.rb)
  | .sv => .inl (3, 2, .inl S.sv)
  | .ps => .inl (7, 8, .inr (.inr (.inr (.inr (fun j => if j < 8 then some (adr s0 (.lk (3 + j))) else none)))))
  | .sn => .inl (7, 2, .inr (.inr (.inr (.inr (fun j => if j < 2 then some (adr s0 (.lk (11 + j))) else none)))))
  | .ha k => .inl (5, 6, .inr (.inr (.inr (.inr (fun j => if j < 6 then some (adr s0 (.hh k j)) else none)))))
  | .pa k => .inl (6, 12, .inr (.inr (.inr (.inr (fun j => if j < 12 then some (adr s0 (.pg k j)) else none)))))
  | .hr k => .inl (0, 144, .inl (S.hr k))
  | .sl k p => .inl (0, 6, .inl (S.sl k p))
  | .ct k p => .inl (1, 8, .inr (.inl (S.ct k p)))
  | .out => .inl (1, 1, .inr (.inl S.out))
  | .outD => .inl (4, 1, .inr (.inr (.inr (.inl S.outD))))
  | .ar i => if (arL.getD i (0, 0)).1 = 1 then .inl (1, (arL.getD i (0, 0)).2, .inr (.inl (S.aj i))) else .inl ((arL.getD i (0, 0)).1, (arL.getD i (0, 0)).2, .inl (S.ai i))
def hp (s0 : Nat) (S : St) : xH := fun r => if r < s0 then none else (obs[r - s0]?).map (cel s0 S)
def up2 {α : Type} (f : Nat → Nat → α) (k i : Nat) (v : α) : Nat → Nat → α := fun k' i' => if k' = k ∧ i' = i then v else f k' i'
theorem up2_self {α : Type} (f : Nat → Nat → α) (k i : Nat) (v : α) : up2 f k i v k i = v := by simp [up2]
theorem up2_up2 {α : Type} (f : Nat → Nat → α) (k i : Nat) (v w : α) : up2 (up2 f k i v) k i w = up2 f k i w := by
  funext a b
  unfold up2
  split <;> rfl
theorem va_up_up {α : Type} (f : Nat → α) (k : Nat) (v w : α) : va_up (va_up f k v) k w = va_up f k w := by
  funext a
  unfold va_up
  split <;> rfl
theorem obs_inv : ∀ i, i < 625 → (obs[i]?).map (adr 0) = some i := by decide +kernel
theorem obs_len : obs.length = 625 := by decide +kernel
theorem obs_1 : ∀ k, k < 13 → (obs[adr 0 (.lk k)]? = some (.lk k) ∧ obs[adr 0 (.ha k)]? = some (.ha k) ∧ obs[adr 0 (.pa k)]? = some (.pa k) ∧ obs[adr 0 (.hr k)]? = some (.hr k)) := by decide +kernel
theorem obs_2 : ∀ k, k < 13 → ∀ i, i < 6 → obs[adr 0 (.hh k i)]? = some (.hh k i) := by decide +kernel
theorem obs_3 : ∀ k, k < 13 → ∀ p, p < 12 → (obs[adr 0 (.pg k p)]? = some (.pg k p) ∧ obs[adr 0 (.sl k p)]? = some (.sl k p) ∧ obs[adr 0 (.ct k p)]? = some (.ct k p)) := by decide +kernel
theorem obs_4 : ∀ i, i < 16 → obs[adr 0 (.ar i)]? = some (.ar i) := by decide +kernel
theorem obs_ad {o : Ob} (h : o.ok = true) : obs[adr 0 o]? = some o := by
  cases o <;> first | decide +kernel | (simp only [Ob.ok, Bool.and_eq_true, decide_eq_true_eq] at h; first | exact (obs_1 _ h).1 | exact (obs_1 _ h).2.1 | exact (obs_1 _ h).2.2.1 | exact (obs_1 _ h).2.2.2 | exact obs_2 _ h.1 _ h.2 | exact (obs_3 _ h.1 _ h.2).1 | exact (obs_3 _ h.1 _ h.2).2.1 | exact (obs_3 _ h.1 _ h.2).2.2 | exact obs_4 _ h)
theorem adr_0 (s0 : Nat) (o : Ob) : adr s0 o = s0 + adr 0 o := by cases o <;> simp [adr]
theorem hp_at {s0 : Nat} {S : St} {o : Ob} (h : o.ok = true) : hp s0 S (adr s0 o) = some (cel s0 S o) := by
  unfold hp
  rw [adr_0, if_neg (by omega), Nat.add_sub_cancel_left, obs_ad h]
  rfl
theorem hp_up {s0 : Nat} {S S' : St} {o : Ob} {c : xC} (h : o.ok = true) (h1 : cel s0 S' o = c) (h2 : ∀ o', o' ≠ o → cel s0 S' o' = cel s0 S o') : xup (hp s0 S) (adr s0 o) c = hp s0 S' := by
  funext r
  unfold xup
  by_cases hr : r = adr s0 o
  · rw [if_pos hr, hr, hp_at h, h1]
  · rw [if_neg hr]
    unfold hp
    by_cases hs : r < s0
    · rw [if_pos hs, if_pos hs]
    · rw [if_neg hs, if_neg hs]
      cases ho : obs[r - s0]? with
      | none => rfl
      | some o' =>
        have hlt : r - s0 < 625 := by
          have := (List.getElem?_eq_some_iff.mp ho).1
          rw [obs_len] at this
          exact this
        have h3 := obs_inv _ hlt
        rw [ho] at h3
        have h4 : adr 0 o' = r - s0 := Option.some.inj h3
        have h5 : o' ≠ o := fun e => hr (by rw [← e, adr_0 s0 o', h4]; omega)
        show some _ = some _
        rw [h2 o' h5]
theorem pf_gen {s0 ci fk : Nat} {S S' : St} {st : List Value} {v : Value} {o : Ob} {fs : List Value} (ho : o.ok = true) (hc : cel s0 S o = .inr (ci, fs)) (hl : fk < fs.length) (hx : xfit (xcty ci fk) v = true) (h1 : cel s0 S' o = .inr (ci, fs.set fk v)) (h2 : ∀ o', o' ≠ o → cel s0 S' o' = cel s0 S o') : k2_putf ci fk (hp s0 S) (v :: .ref (adr s0 o) :: st) = some (hp s0 S', st) := by
  unfold k2_putf
  simp only [hp_at ho, hc]
  rw [if_pos ⟨trivial, hl, hx⟩, hp_up ho h1 h2]
theorem ld_gen {s0 t n : Nat} {S : St} {o : Ob} {x} (ho : o.ok = true) (hc : cel s0 S o = .inl (t, n, x)) : hp s0 S (adr s0 o) = some (.inl (t, n, x)) := by rw [hp_at ho, hc]
section GF
variable {s0 k i p : Nat} {S : St} {st : List Value}
theorem gf_5_0  : k2_getf 5 0 (hp s0 S) (.ref (adr s0 .rs) :: st) = some (hp s0 S, .ref (adr s0 .tr) :: st) := by
  unfold k2_getf
  simp only [hp_at (o := .rs) (by simp [Ob.ok])]
  rfl
theorem gf_5_1  : k2_getf 5 1 (hp s0 S) (.ref (adr s0 .rs) :: st) = some (hp s0 S, .ref (adr s0 .rp) :: st) := by
  unfold k2_getf
  simp only [hp_at (o := .rs) (by simp [Ob.ok])]
  rfl
theorem gf_5_2  : k2_getf 5 2 (hp s0 S) (.ref (adr s0 .rs) :: st) = some (hp s0 S, .ref (adr s0 (.lk 1)) :: st) := by
  unfold k2_getf
  simp only [hp_at (o := .rs) (by simp [Ob.ok])]
  rfl
theorem gf_5_3  : k2_getf 5 3 (hp s0 S) (.ref (adr s0 .rs) :: st) = some (hp s0 S, .ref (adr s0 (.lk 2)) :: st) := by
  unfold k2_getf
  simp only [hp_at (o := .rs) (by simp [Ob.ok])]
  rfl
theorem gf_5_4  : k2_getf 5 4 (hp s0 S) (.ref (adr s0 .rs) :: st) = some (hp s0 S, .ref (adr s0 .ps) :: st) := by
  unfold k2_getf
  simp only [hp_at (o := .rs) (by simp [Ob.ok])]
  rfl
theorem gf_5_5  : k2_getf 5 5 (hp s0 S) (.ref (adr s0 .rs) :: st) = some (hp s0 S, .int S.pn :: st) := by
  unfold k2_getf
  simp only [hp_at (o := .rs) (by simp [Ob.ok])]
  rfl
theorem gf_5_6  : k2_getf 5 6 (hp s0 S) (.ref (adr s0 .rs) :: st) = some (hp s0 S, .int S.pk :: st) := by
  unfold k2_getf
  simp only [hp_at (o := .rs) (by simp [Ob.ok])]
  rfl
theorem gf_5_7  : k2_getf 5 7 (hp s0 S) (.ref (adr s0 .rs) :: st) = some (hp s0 S, .ref (adr s0 .sn) :: st) := by
  unfold k2_getf
  simp only [hp_at (o := .rs) (by simp [Ob.ok])]
  rfl
theorem gf_5_8  : k2_getf 5 8 (hp s0 S) (.ref (adr s0 .rs) :: st) = some (hp s0 S, .ref (adr s0 .sv) :: st) := by
  unfold k2_getf
  simp only [hp_at (o := .rs) (by simp [Ob.ok])]
  rfl
theorem gf_4_0  : k2_getf 4 0 (hp s0 S) (.ref (adr s0 .tr) :: st) = some (hp s0 S, .ref (adr s0 .tx) :: st) := by
  unfold k2_getf
  simp only [hp_at (o := .tr) (by simp [Ob.ok])]
  rfl
theorem gf_4_1  : k2_getf 4 1 (hp s0 S) (.ref (adr s0 .tr) :: st) = some (hp s0 S, .int S.tr.en :: st) := by
  unfold k2_getf
  simp only [hp_at (o := .tr) (by simp [Ob.ok])]
  rfl
theorem gf_4_2  : k2_getf 4 2 (hp s0 S) (.ref (adr s0 .tr) :: st) = some (hp s0 S, .int S.tr.nx :: st) := by
  unfold k2_getf
  simp only [hp_at (o := .tr) (by simp [Ob.ok])]
  rfl
theorem gf_4_3  : k2_getf 4 3 (hp s0 S) (.ref (adr s0 .tr) :: st) = some (hp s0 S, .int S.tr.tk :: st) := by
  unfold k2_getf
  simp only [hp_at (o := .tr) (by simp [Ob.ok])]
  rfl
theorem gf_4_4  : k2_getf 4 4 (hp s0 S) (.ref (adr s0 .tr) :: st) = some (hp s0 S, .long S.tr.wd :: st) := by
  unfold k2_getf
  simp only [hp_at (o := .tr) (by simp [Ob.ok])]
  rfl
theorem gf_4_5  : k2_getf 4 5 (hp s0 S) (.ref (adr s0 .tr) :: st) = some (hp s0 S, .int S.tr.nu :: st) := by
  unfold k2_getf
  simp only [hp_at (o := .tr) (by simp [Ob.ok])]
  rfl
theorem gf_4_6  : k2_getf 4 6 (hp s0 S) (.ref (adr s0 .tr) :: st) = some (hp s0 S, .ref (adr s0 (.lk 0)) :: st) := by
  unfold k2_getf
  simp only [hp_at (o := .tr) (by simp [Ob.ok])]
  rfl
theorem gf_4_7  : k2_getf 4 7 (hp s0 S) (.ref (adr s0 .tr) :: st) = some (hp s0 S, .int S.tr.fil :: st) := by
  unfold k2_getf
  simp only [hp_at (o := .tr) (by simp [Ob.ok])]
  rfl
theorem gf_4_8  : k2_getf 4 8 (hp s0 S) (.ref (adr s0 .tr) :: st) = some (hp s0 S, .int S.tr.cod :: st) := by
  unfold k2_getf
  simp only [hp_at (o := .tr) (by simp [Ob.ok])]
  rfl
theorem gf_4_9  : k2_getf 4 9 (hp s0 S) (.ref (adr s0 .tr) :: st) = some (hp s0 S, .int S.tr.off :: st) := by
  unfold k2_getf
  simp only [hp_at (o := .tr) (by simp [Ob.ok])]
  rfl
theorem gf_3_0  : k2_getf 3 0 (hp s0 S) (.ref (adr s0 .rp) :: st) = some (hp s0 S, .ref (adr s0 .rb) :: st) := by
  unfold k2_getf
  simp only [hp_at (o := .rp) (by simp [Ob.ok])]
  rfl
theorem gf_3_1  : k2_getf 3 1 (hp s0 S) (.ref (adr s0 .rp) :: st) = some (hp s0 S, .int S.rl :: st) := by
  unfold k2_getf
  simp only [hp_at (o := .rp) (by simp [Ob.ok])]
  rfl
theorem gf_6_0  : k2_getf 6 0 (hp s0 S) (.ref (adr s0 .md) :: st) = some (hp s0 S, .ref (adr s0 (.ar 0)) :: st) := by
  unfold k2_getf
  simp only [hp_at (o := .md) (by simp [Ob.ok])]
  rfl
theorem gf_6_1  : k2_getf 6 1 (hp s0 S) (.ref (adr s0 .md) :: st) = some (hp s0 S, .ref (adr s0 (.ar 1)) :: st) := by
  unfold k2_getf
  simp only [hp_at (o := .md) (by simp [Ob.ok])]
  rfl
theorem gf_6_2  : k2_getf 6 2 (hp s0 S) (.ref (adr s0 .md) :: st) = some (hp s0 S, .ref (adr s0 (.ar 2)) :: st) := by
  unfold k2_getf
  simp only [hp_at (o := .md) (by simp [Ob.ok])]
  rfl
theorem gf_6_3  : k2_getf 6 3 (hp s0 S) (.ref (adr s0 .md) :: st) = some (hp s0 S, .ref (adr s0 (.ar 3)) :: st) := by
  unfold k2_getf
  simp only [hp_at (o := .md) (by simp [Ob.ok])]
  rfl
theorem gf_6_4  : k2_getf 6 4 (hp s0 S) (.ref (adr s0 .md) :: st) = some (hp s0 S, .ref (adr s0 (.ar 4)) :: st) := by
  unfold k2_getf
  simp only [hp_at (o := .md) (by simp [Ob.ok])]
  rfl
theorem gf_6_5  : k2_getf 6 5 (hp s0 S) (.ref (adr s0 .md) :: st) = some (hp s0 S, .ref (adr s0 (.ar 5)) :: st) := by
  unfold k2_getf
  simp only [hp_at (o := .md) (by simp [Ob.ok])]
  rfl
theorem gf_6_6  : k2_getf 6 6 (hp s0 S) (.ref (adr s0 .md) :: st) = some (hp s0 S, .ref (adr s0 (.ar 6)) :: st) := by
  unfold k2_getf
  simp only [hp_at (o := .md) (by simp [Ob.ok])]
  rfl
theorem gf_6_7  : k2_getf 6 7 (hp s0 S) (.ref (adr s0 .md) :: st) = some (hp s0 S, .ref (adr s0 (.ar 7)) :: st) := by
  unfold k2_getf
  simp only [hp_at (o := .md) (by simp [Ob.ok])]
  rfl
theorem gf_6_8  : k2_getf 6 8 (hp s0 S) (.ref (adr s0 .md) :: st) = some (hp s0 S, .ref (adr s0 (.ar 8)) :: st) := by
  unfold k2_getf
  simp only [hp_at (o := .md) (by simp [Ob.ok])]
  rfl
theorem gf_6_9  : k2_getf 6 9 (hp s0 S) (.ref (adr s0 .md) :: st) = some (hp s0 S, .ref (adr s0 (.ar 9)) :: st) := by
  unfold k2_getf
  simp only [hp_at (o := .md) (by simp [Ob.ok])]
  rfl
theorem gf_6_10  : k2_getf 6 10 (hp s0 S) (.ref (adr s0 .md) :: st) = some (hp s0 S, .ref (adr s0 (.ar 10)) :: st) := by
  unfold k2_getf
  simp only [hp_at (o := .md) (by simp [Ob.ok])]
  rfl
theorem gf_6_11  : k2_getf 6 11 (hp s0 S) (.ref (adr s0 .md) :: st) = some (hp s0 S, .int S.md.chg :: st) := by
  unfold k2_getf
  simp only [hp_at (o := .md) (by simp [Ob.ok])]
  rfl
theorem gf_6_12  : k2_getf 6 12 (hp s0 S) (.ref (adr s0 .md) :: st) = some (hp s0 S, .int S.md.thw :: st) := by
  unfold k2_getf
  simp only [hp_at (o := .md) (by simp [Ob.ok])]
  rfl
theorem gf_6_13  : k2_getf 6 13 (hp s0 S) (.ref (adr s0 .md) :: st) = some (hp s0 S, .ref (adr s0 (.ar 11)) :: st) := by
  unfold k2_getf
  simp only [hp_at (o := .md) (by simp [Ob.ok])]
  rfl
theorem gf_6_14  : k2_getf 6 14 (hp s0 S) (.ref (adr s0 .md) :: st) = some (hp s0 S, .int S.md.bfd :: st) := by
  unfold k2_getf
  simp only [hp_at (o := .md) (by simp [Ob.ok])]
  rfl
theorem gf_6_15  : k2_getf 6 15 (hp s0 S) (.ref (adr s0 .md) :: st) = some (hp s0 S, .int S.md.lim :: st) := by
  unfold k2_getf
  simp only [hp_at (o := .md) (by simp [Ob.ok])]
  rfl
theorem gf_6_16  : k2_getf 6 16 (hp s0 S) (.ref (adr s0 .md) :: st) = some (hp s0 S, .int S.md.pos :: st) := by
  unfold k2_getf
  simp only [hp_at (o := .md) (by simp [Ob.ok])]
  rfl
theorem gf_6_17  : k2_getf 6 17 (hp s0 S) (.ref (adr s0 .md) :: st) = some (hp s0 S, .int S.md.frm :: st) := by
  unfold k2_getf
  simp only [hp_at (o := .md) (by simp [Ob.ok])]
  rfl
theorem gf_6_18  : k2_getf 6 18 (hp s0 S) (.ref (adr s0 .md) :: st) = some (hp s0 S, .int S.md.knd :: st) := by
  unfold k2_getf
  simp only [hp_at (o := .md) (by simp [Ob.ok])]
  rfl
theorem gf_6_19  : k2_getf 6 19 (hp s0 S) (.ref (adr s0 .md) :: st) = some (hp s0 S, .int S.md.num :: st) := by
  unfold k2_getf
  simp only [hp_at (o := .md) (by simp [Ob.ok])]
  rfl
theorem gf_6_20  : k2_getf 6 20 (hp s0 S) (.ref (adr s0 .md) :: st) = some (hp s0 S, .int S.md.cod :: st) := by
  unfold k2_getf
  simp only [hp_at (o := .md) (by simp [Ob.ok])]
  rfl
theorem gf_6_21  : k2_getf 6 21 (hp s0 S) (.ref (adr s0 .md) :: st) = some (hp s0 S, .int S.md.off :: st) := by
  unfold k2_getf
  simp only [hp_at (o := .md) (by simp [Ob.ok])]
  rfl
theorem gf_6_22  : k2_getf 6 22 (hp s0 S) (.ref (adr s0 .md) :: st) = some (hp s0 S, .long S.md.wd :: st) := by
  unfold k2_getf
  simp only [hp_at (o := .md) (by simp [Ob.ok])]
  rfl
theorem gf_6_23  : k2_getf 6 23 (hp s0 S) (.ref (adr s0 .md) :: st) = some (hp s0 S, .ref (adr s0 (.ar 12)) :: st) := by
  unfold k2_getf
  simp only [hp_at (o := .md) (by simp [Ob.ok])]
  rfl
theorem gf_6_24  : k2_getf 6 24 (hp s0 S) (.ref (adr s0 .md) :: st) = some (hp s0 S, .ref (adr s0 (.ar 13)) :: st) := by
  unfold k2_getf
  simp only [hp_at (o := .md) (by simp [Ob.ok])]
  rfl
theorem gf_6_25  : k2_getf 6 25 (hp s0 S) (.ref (adr s0 .md) :: st) = some (hp s0 S, .ref (adr s0 (.ar 14)) :: st) := by
  unfold k2_getf
  simp only [hp_at (o := .md) (by simp [Ob.ok])]
  rfl
theorem gf_6_26  : k2_getf 6 26 (hp s0 S) (.ref (adr s0 .md) :: st) = some (hp s0 S, .int S.md.drn :: st) := by
  unfold k2_getf
  simp only [hp_at (o := .md) (by simp [Ob.ok])]
  rfl
theorem gf_6_27  : k2_getf 6 27 (hp s0 S) (.ref (adr s0 .md) :: st) = some (hp s0 S, .ref (adr s0 (.ar 15)) :: st) := by
  unfold k2_getf
  simp only [hp_at (o := .md) (by simp [Ob.ok])]
  rfl
theorem gf_6_28  : k2_getf 6 28 (hp s0 S) (.ref (adr s0 .md) :: st) = some (hp s0 S, .int S.md.tln :: st) := by
  unfold k2_getf
  simp only [hp_at (o := .md) (by simp [Ob.ok])]
  rfl
theorem gf_0_0 (hk : k < 13) (hi : i < 6) : k2_getf 0 0 (hp s0 S) (.ref (adr s0 (.hh k i)) :: st) = some (hp s0 S, .long (S.hh k i).nm :: st) := by
  unfold k2_getf
  simp only [hp_at (o := (.hh k i)) (by simp [Ob.ok, hk, hi])]
  rfl
theorem gf_0_1 (hk : k < 13) (hi : i < 6) : k2_getf 0 1 (hp s0 S) (.ref (adr s0 (.hh k i)) :: st) = some (hp s0 S, .int (S.hh k i).cap :: st) := by
  unfold k2_getf
  simp only [hp_at (o := (.hh k i)) (by simp [Ob.ok, hk, hi])]
  rfl
theorem gf_0_2 (hk : k < 13) (hi : i < 6) : k2_getf 0 2 (hp s0 S) (.ref (adr s0 (.hh k i)) :: st) = some (hp s0 S, .int (S.hh k i).bal :: st) := by
  unfold k2_getf
  simp only [hp_at (o := (.hh k i)) (by simp [Ob.ok, hk, hi])]
  rfl
theorem gf_0_3 (hk : k < 13) (hi : i < 6) : k2_getf 0 3 (hp s0 S) (.ref (adr s0 (.hh k i)) :: st) = some (hp s0 S, .int (S.hh k i).use :: st) := by
  unfold k2_getf
  simp only [hp_at (o := (.hh k i)) (by simp [Ob.ok, hk, hi])]
  rfl
theorem gf_0_4 (hk : k < 13) (hi : i < 6) : k2_getf 0 4 (hp s0 S) (.ref (adr s0 (.hh k i)) :: st) = some (hp s0 S, .int (S.hh k i).cam :: st) := by
  unfold k2_getf
  simp only [hp_at (o := (.hh k i)) (by simp [Ob.ok, hk, hi])]
  rfl
theorem gf_2_0 (hk : k < 13) (hp9 : p < 12) : k2_getf 2 0 (hp s0 S) (.ref (adr s0 (.pg k p)) :: st) = some (hp s0 S, .long (S.pg k p).nm :: st) := by
  unfold k2_getf
  simp only [hp_at (o := (.pg k p)) (by simp [Ob.ok, hk, hp9])]
  rfl
theorem gf_2_1 (hk : k < 13) (hp9 : p < 12) : k2_getf 2 1 (hp s0 S) (.ref (adr s0 (.pg k p)) :: st) = some (hp s0 S, .int (S.pg k p).hs :: st) := by
  unfold k2_getf
  simp only [hp_at (o := (.pg k p)) (by simp [Ob.ok, hk, hp9])]
  rfl
theorem gf_2_2 (hk : k < 13) (hp9 : p < 12) : k2_getf 2 2 (hp s0 S) (.ref (adr s0 (.pg k p)) :: st) = some (hp s0 S, .int (S.pg k p).kd :: st) := by
  unfold k2_getf
  simp only [hp_at (o := (.pg k p)) (by simp [Ob.ok, hk, hp9])]
  rfl
theorem gf_2_3 (hk : k < 13) (hp9 : p < 12) : k2_getf 2 3 (hp s0 S) (.ref (adr s0 (.pg k p)) :: st) = some (hp s0 S, .int (S.pg k p).rt :: st) := by
  unfold k2_getf
  simp only [hp_at (o := (.pg k p)) (by simp [Ob.ok, hk, hp9])]
  rfl
theorem gf_2_4 (hk : k < 13) (hp9 : p < 12) : k2_getf 2 4 (hp s0 S) (.ref (adr s0 (.pg k p)) :: st) = some (hp s0 S, .int (S.pg k p).fl :: st) := by
  unfold k2_getf
  simp only [hp_at (o := (.pg k p)) (by simp [Ob.ok, hk, hp9])]
  rfl
theorem gf_2_5 (hk : k < 13) (hp9 : p < 12) : k2_getf 2 5 (hp s0 S) (.ref (adr s0 (.pg k p)) :: st) = some (hp s0 S, .int (S.pg k p).ce :: st) := by
  unfold k2_getf
  simp only [hp_at (o := (.pg k p)) (by simp [Ob.ok, hk, hp9])]
  rfl
theorem gf_2_6 (hk : k < 13) (hp9 : p < 12) : k2_getf 2 6 (hp s0 S) (.ref (adr s0 (.pg k p)) :: st) = some (hp s0 S, .int (S.pg k p).ga :: st) := by
  unfold k2_getf
  simp only [hp_at (o := (.pg k p)) (by simp [Ob.ok, hk, hp9])]
  rfl
theorem gf_2_7 (hk : k < 13) (hp9 : p < 12) : k2_getf 2 7 (hp s0 S) (.ref (adr s0 (.pg k p)) :: st) = some (hp s0 S, .int (S.pg k p).pc :: st) := by
  unfold k2_getf
  simp only [hp_at (o := (.pg k p)) (by simp [Ob.ok, hk, hp9])]
  rfl
theorem gf_2_8 (hk : k < 13) (hp9 : p < 12) : k2_getf 2 8 (hp s0 S) (.ref (adr s0 (.pg k p)) :: st) = some (hp s0 S, .int (S.pg k p).le :: st) := by
  unfold k2_getf
  simp only [hp_at (o := (.pg k p)) (by simp [Ob.ok, hk, hp9])]
  rfl
theorem gf_2_9 (hk : k < 13) (hp9 : p < 12) : k2_getf 2 9 (hp s0 S) (.ref (adr s0 (.pg k p)) :: st) = some (hp s0 S, .int (S.pg k p).ba :: st) := by
  unfold k2_getf
  simp only [hp_at (o := (.pg k p)) (by simp [Ob.ok, hk, hp9])]
  rfl
theorem gf_2_10 (hk : k < 13) (hp9 : p < 12) : k2_getf 2 10 (hp s0 S) (.ref (adr s0 (.pg k p)) :: st) = some (hp s0 S, .int (S.pg k p).mi :: st) := by
  unfold k2_getf
  simp only [hp_at (o := (.pg k p)) (by simp [Ob.ok, hk, hp9])]
  rfl
theorem gf_2_11 (hk : k < 13) (hp9 : p < 12) : k2_getf 2 11 (hp s0 S) (.ref (adr s0 (.pg k p)) :: st) = some (hp s0 S, .int (S.pg k p).on :: st) := by
  unfold k2_getf
  simp only [hp_at (o := (.pg k p)) (by simp [Ob.ok, hk, hp9])]
  rfl
theorem gf_2_12 (hk : k < 13) (hp9 : p < 12) : k2_getf 2 12 (hp s0 S) (.ref (adr s0 (.pg k p)) :: st) = some (hp s0 S, .ref (adr s0 (.sl k p)) :: st) := by
  unfold k2_getf
  simp only [hp_at (o := (.pg k p)) (by simp [Ob.ok, hk, hp9])]
  rfl
theorem gf_2_13 (hk : k < 13) (hp9 : p < 12) : k2_getf 2 13 (hp s0 S) (.ref (adr s0 (.pg k p)) :: st) = some (hp s0 S, .ref (adr s0 (.ct k p)) :: st) := by
  unfold k2_getf
  simp only [hp_at (o := (.pg k p)) (by simp [Ob.ok, hk, hp9])]
  rfl
theorem gf_1_0 (hk : k < 13) : k2_getf 1 0 (hp s0 S) (.ref (adr s0 (.lk k)) :: st) = some (hp s0 S, .int (S.lk k).cap :: st) := by
  unfold k2_getf
  simp only [hp_at (o := (.lk k)) (by simp [Ob.ok, hk])]
  rfl
theorem gf_1_1 (hk : k < 13) : k2_getf 1 1 (hp s0 S) (.ref (adr s0 (.lk k)) :: st) = some (hp s0 S, .int (S.lk k).thr :: st) := by
  unfold k2_getf
  simp only [hp_at (o := (.lk k)) (by simp [Ob.ok, hk])]
  rfl
theorem gf_1_2 (hk : k < 13) : k2_getf 1 2 (hp s0 S) (.ref (adr s0 (.lk k)) :: st) = some (hp s0 S, .int (S.lk k).pri :: st) := by
  unfold k2_getf
  simp only [hp_at (o := (.lk k)) (by simp [Ob.ok, hk])]
  rfl
theorem gf_1_3 (hk : k < 13) : k2_getf 1 3 (hp s0 S) (.ref (adr s0 (.lk k)) :: st) = some (hp s0 S, .int (S.lk k).rfd :: st) := by
  unfold k2_getf
  simp only [hp_at (o := (.lk k)) (by simp [Ob.ok, hk])]
  rfl
theorem gf_1_4 (hk : k < 13) : k2_getf 1 4 (hp s0 S) (.ref (adr s0 (.lk k)) :: st) = some (hp s0 S, .int (S.lk k).fgt :: st) := by
  unfold k2_getf
  simp only [hp_at (o := (.lk k)) (by simp [Ob.ok, hk])]
  rfl
theorem gf_1_5 (hk : k < 13) : k2_getf 1 5 (hp s0 S) (.ref (adr s0 (.lk k)) :: st) = some (hp s0 S, .int (S.lk k).tim :: st) := by
  unfold k2_getf
  simp only [hp_at (o := (.lk k)) (by simp [Ob.ok, hk])]
  rfl
theorem gf_1_6 (hk : k < 13) : k2_getf 1 6 (hp s0 S) (.ref (adr s0 (.lk k)) :: st) = some (hp s0 S, .int (S.lk k).wsl :: st) := by
  unfold k2_getf
  simp only [hp_at (o := (.lk k)) (by simp [Ob.ok, hk])]
  rfl
theorem gf_1_7 (hk : k < 13) : k2_getf 1 7 (hp s0 S) (.ref (adr s0 (.lk k)) :: st) = some (hp s0 S, .int (S.lk k).dsl :: st) := by
  unfold k2_getf
  simp only [hp_at (o := (.lk k)) (by simp [Ob.ok, hk])]
  rfl
theorem gf_1_8 (hk : k < 13) : k2_getf 1 8 (hp s0 S) (.ref (adr s0 (.lk k)) :: st) = some (hp s0 S, .int (S.lk k).wrn :: st) := by
  unfold k2_getf
  simp only [hp_at (o := (.lk k)) (by simp [Ob.ok, hk])]
  rfl
theorem gf_1_9 (hk : k < 13) : k2_getf 1 9 (hp s0 S) (.ref (adr s0 (.lk k)) :: st) = some (hp s0 S, .int (S.lk k).nh :: st) := by
  unfold k2_getf
  simp only [hp_at (o := (.lk k)) (by simp [Ob.ok, hk])]
  rfl
theorem gf_1_10 (hk : k < 13) : k2_getf 1 10 (hp s0 S) (.ref (adr s0 (.lk k)) :: st) = some (hp s0 S, .int (S.lk k).np :: st) := by
  unfold k2_getf
  simp only [hp_at (o := (.lk k)) (by simp [Ob.ok, hk])]
  rfl
theorem gf_1_11 (hk : k < 13) : k2_getf 1 11 (hp s0 S) (.ref (adr s0 (.lk k)) :: st) = some (hp s0 S, .ref (adr s0 (.ha k)) :: st) := by
  unfold k2_getf
  simp only [hp_at (o := (.lk k)) (by simp [Ob.ok, hk])]
  rfl
theorem gf_1_12 (hk : k < 13) : k2_getf 1 12 (hp s0 S) (.ref (adr s0 (.lk k)) :: st) = some (hp s0 S, .ref (adr s0 (.pa k)) :: st) := by
  unfold k2_getf
  simp only [hp_at (o := (.lk k)) (by simp [Ob.ok, hk])]
  rfl
theorem gf_1_13 (hk : k < 13) : k2_getf 1 13 (hp s0 S) (.ref (adr s0 (.lk k)) :: st) = some (hp s0 S, .ref (adr s0 (.hr k)) :: st) := by
  unfold k2_getf
  simp only [hp_at (o := (.lk k)) (by simp [Ob.ok, hk])]
  rfl
theorem pf_5_5 {v : Int32}  : k2_putf 5 5 (hp s0 S) (.int v :: .ref (adr s0 .rs) :: st) = some (hp s0 { S with pn := v }, st) := by
  refine pf_gen (o := .rs) (by simp [Ob.ok]) rfl (Nat.le_of_ble_eq_true rfl) rfl ?_ ?_
  · simp [cel, up2_self, va_up_self]
  · intro o' ho
    cases o' with
    | rs => exact absurd rfl ho
    | _ => rfl
theorem pf_5_6 {v : Int32}  : k2_putf 5 6 (hp s0 S) (.int v :: .ref (adr s0 .rs) :: st) = some (hp s0 { S with pk := v }, st) := by
  refine pf_gen (o := .rs) (by simp [Ob.ok]) rfl (Nat.le_of_ble_eq_true rfl) rfl ?_ ?_
  · simp [cel, up2_self, va_up_self]
  · intro o' ho
    cases o' with
    | rs => exact absurd rfl ho
    | _ => rfl
theorem pf_4_1 {v : Int32}  : k2_putf 4 1 (hp s0 S) (.int v :: .ref (adr s0 .tr) :: st) = some (hp s0 { S with tr := { S.tr with en := v } }, st) := by
  refine pf_gen (o := .tr) (by simp [Ob.ok]) rfl (Nat.le_of_ble_eq_true rfl) rfl ?_ ?_
  · simp [cel, up2_self, va_up_self]
  · intro o' ho
    cases o' with
    | tr => exact absurd rfl ho
    | _ => rfl
theorem pf_4_2 {v : Int32}  : k2_putf 4 2 (hp s0 S) (.int v :: .ref (adr s0 .tr) :: st) = some (hp s0 { S with tr := { S.tr with nx := v } }, st) := by
  refine pf_gen (o := .tr) (by simp [Ob.ok]) rfl (Nat.le_of_ble_eq_true rfl) rfl ?_ ?_
  · simp [cel, up2_self, va_up_self]
  · intro o' ho
    cases o' with
    | tr => exact absurd rfl ho
    | _ => rfl
theorem pf_4_3 {v : Int32}  : k2_putf 4 3 (hp s0 S) (.int v :: .ref (adr s0 .tr) :: st) = some (hp s0 { S with tr := { S.tr with tk := v } }, st) := by
  refine pf_gen (o := .tr) (by simp [Ob.ok]) rfl (Nat.le_of_ble_eq_true rfl) rfl ?_ ?_
  · simp [cel, up2_self, va_up_self]
  · intro o' ho
    cases o' with
    | tr => exact absurd rfl ho
    | _ => rfl
theorem pf_4_4 {v : Int64}  : k2_putf 4 4 (hp s0 S) (.long v :: .ref (adr s0 .tr) :: st) = some (hp s0 { S with tr := { S.tr with wd := v } }, st) := by
  refine pf_gen (o := .tr) (by simp [Ob.ok]) rfl (Nat.le_of_ble_eq_true rfl) rfl ?_ ?_
  · simp [cel, up2_self, va_up_self]
  · intro o' ho
    cases o' with
    | tr => exact absurd rfl ho
    | _ => rfl
theorem pf_4_5 {v : Int32}  : k2_putf 4 5 (hp s0 S) (.int v :: .ref (adr s0 .tr) :: st) = some (hp s0 { S with tr := { S.tr with nu := v } }, st) := by
  refine pf_gen (o := .tr) (by simp [Ob.ok]) rfl (Nat.le_of_ble_eq_true rfl) rfl ?_ ?_
  · simp [cel, up2_self, va_up_self]
  · intro o' ho
    cases o' with
    | tr => exact absurd rfl ho
    | _ => rfl
theorem pf_4_7 {v : Int32}  : k2_putf 4 7 (hp s0 S) (.int v :: .ref (adr s0 .tr) :: st) = some (hp s0 { S with tr := { S.tr with fil := v } }, st) := by
  refine pf_gen (o := .tr) (by simp [Ob.ok]) rfl (Nat.le_of_ble_eq_true rfl) rfl ?_ ?_
  · simp [cel, up2_self, va_up_self]
  · intro o' ho
    cases o' with
    | tr => exact absurd rfl ho
    | _ => rfl
theorem pf_4_8 {v : Int32}  : k2_putf 4 8 (hp s0 S) (.int v :: .ref (adr s0 .tr) :: st) = some (hp s0 { S with tr := { S.tr with cod := v } }, st) := by
  refine pf_gen (o := .tr) (by simp [Ob.ok]) rfl (Nat.le_of_ble_eq_true rfl) rfl ?_ ?_
  · simp [cel, up2_self, va_up_self]
  · intro o' ho
    cases o' with
    | tr => exact absurd rfl ho
    | _ => rfl
theorem pf_4_9 {v : Int32}  : k2_putf 4 9 (hp s0 S) (.int v :: .ref (adr s0 .tr) :: st) = some (hp s0 { S with tr := { S.tr with off := v } }, st) := by
  refine pf_gen (o := .tr) (by simp [Ob.ok]) rfl (Nat.le_of_ble_eq_true rfl) rfl ?_ ?_
  · simp [cel, up2_self, va_up_self]
  · intro o' ho
    cases o' with
    | tr => exact absurd rfl ho
    | _ => rfl
theorem pf_3_1 {v : Int32}  : k2_putf 3 1 (hp s0 S) (.int v :: .ref (adr s0 .rp) :: st) = some (hp s0 { S with rl := v }, st) := by
  refine pf_gen (o := .rp) (by simp [Ob.ok]) rfl (Nat.le_of_ble_eq_true rfl) rfl ?_ ?_
  · simp [cel, up2_self, va_up_self]
  · intro o' ho
    cases o' with
    | rp => exact absurd rfl ho
    | _ => rfl
theorem pf_6_11 {v : Int32}  : k2_putf 6 11 (hp s0 S) (.int v :: .ref (adr s0 .md) :: st) = some (hp s0 { S with md := { S.md with chg := v } }, st) := by
  refine pf_gen (o := .md) (by simp [Ob.ok]) rfl (Nat.le_of_ble_eq_true rfl) rfl ?_ ?_
  · simp [cel, up2_self, va_up_self]
  · intro o' ho
    cases o' with
    | md => exact absurd rfl ho
    | _ => rfl
theorem pf_6_12 {v : Int32}  : k2_putf 6 12 (hp s0 S) (.int v :: .ref (adr s0 .md) :: st) = some (hp s0 { S with md := { S.md with thw := v } }, st) := by
  refine pf_gen (o := .md) (by simp [Ob.ok]) rfl (Nat.le_of_ble_eq_true rfl) rfl ?_ ?_
  · simp [cel, up2_self, va_up_self]
  · intro o' ho
    cases o' with
    | md => exact absurd rfl ho
    | _ => rfl
theorem pf_6_14 {v : Int32}  : k2_putf 6 14 (hp s0 S) (.int v :: .ref (adr s0 .md) :: st) = some (hp s0 { S with md := { S.md with bfd := v } }, st) := by
  refine pf_gen (o := .md) (by simp [Ob.ok]) rfl (Nat.le_of_ble_eq_true rfl) rfl ?_ ?_
  · simp [cel, up2_self, va_up_self]
  · intro o' ho
    cases o' with
    | md => exact absurd rfl ho
    | _ => rfl
theorem pf_6_15 {v : Int32}  : k2_putf 6 15 (hp s0 S) (.int v :: .ref (adr s0 .md) :: st) = some (hp s0 { S with md := { S.md with lim := v } }, st) := by
  refine pf_gen (o := .md) (by simp [Ob.ok]) rfl (Nat.le_of_ble_eq_true rfl) rfl ?_ ?_
  · simp [cel, up2_self, va_up_self]
  · intro o' ho
    cases o' with
    | md => exact absurd rfl ho
    | _ => rfl
theorem pf_6_16 {v : Int32}  : k2_putf 6 16 (hp s0 S) (.int v :: .ref (adr s0 .md) :: st) = some (hp s0 { S with md := { S.md with pos := v } }, st) := by
  refine pf_gen (o := .md) (by simp [Ob.ok]) rfl (Nat.le_of_ble_eq_true rfl) rfl ?_ ?_
  · simp [cel, up2_self, va_up_self]
  · intro o' ho
    cases o' with
    | md => exact absurd rfl ho
    | _ => rfl
theorem pf_6_17 {v : Int32}  : k2_putf 6 17 (hp s0 S) (.int v :: .ref (adr s0 .md) :: st) = some (hp s0 { S with md := { S.md with frm := v } }, st) := by
  refine pf_gen (o := .md) (by simp [Ob.ok]) rfl (Nat.le_of_ble_eq_true rfl) rfl ?_ ?_
  · simp [cel, up2_self, va_up_self]
  · intro o' ho
    cases o' with
    | md => exact absurd rfl ho
    | _ => rfl
theorem pf_6_18 {v : Int32}  : k2_putf 6 18 (hp s0 S) (.int v :: .ref (adr s0 .md) :: st) = some (hp s0 { S with md := { S.md with knd := v } }, st) := by
  refine pf_gen (o := .md) (by simp [Ob.ok]) rfl (Nat.le_of_ble_eq_true rfl) rfl ?_ ?_
  · simp [cel, up2_self, va_up_self]
  · intro o' ho
    cases o' with
    | md => exact absurd rfl ho
    | _ => rfl
theorem pf_6_19 {v : Int32}  : k2_putf 6 19 (hp s0 S) (.int v :: .ref (adr s0 .md) :: st) = some (hp s0 { S with md := { S.md with num := v } }, st) := by
  refine pf_gen (o := .md) (by simp [Ob.ok]) rfl (Nat.le_of_ble_eq_true rfl) rfl ?_ ?_
  · simp [cel, up2_self, va_up_self]
  · intro o' ho
    cases o' with
    | md => exact absurd rfl ho
    | _ => rfl
theorem pf_6_20 {v : Int32}  : k2_putf 6 20 (hp s0 S) (.int v :: .ref (adr s0 .md) :: st) = some (hp s0 { S with md := { S.md with cod := v } }, st) := by
  refine pf_gen (o := .md) (by simp [Ob.ok]) rfl (Nat.le_of_ble_eq_true rfl) rfl ?_ ?_
  · simp [cel, up2_self, va_up_self]
  · intro o' ho
    cases o' with
    | md => exact absurd rfl ho
    | _ => rfl
theorem pf_6_21 {v : Int32}  : k2_putf 6 21 (hp s0 S) (.int v :: .ref (adr s0 .md) :: st) = some (hp s0 { S with md := { S.md with off := v } }, st) := by
  refine pf_gen (o := .md) (by simp [Ob.ok]) rfl (Nat.le_of_ble_eq_true rfl) rfl ?_ ?_
  · simp [cel, up2_self, va_up_self]
  · intro o' ho
    cases o' with
    | md => exact absurd rfl ho
    | _ => rfl
theorem pf_6_22 {v : Int64}  : k2_putf 6 22 (hp s0 S) (.long v :: .ref (adr s0 .md) :: st) = some (hp s0 { S with md := { S.md with wd := v } }, st) := by
  refine pf_gen (o := .md) (by simp [Ob.ok]) rfl (Nat.le_of_ble_eq_true rfl) rfl ?_ ?_
  · simp [cel, up2_self, va_up_self]
  · intro o' ho
    cases o' with
    | md => exact absurd rfl ho
    | _ => rfl
theorem pf_6_26 {v : Int32}  : k2_putf 6 26 (hp s0 S) (.int v :: .ref (adr s0 .md) :: st) = some (hp s0 { S with md := { S.md with drn := v } }, st) := by
  refine pf_gen (o := .md) (by simp [Ob.ok]) rfl (Nat.le_of_ble_eq_true rfl) rfl ?_ ?_
  · simp [cel, up2_self, va_up_self]
  · intro o' ho
    cases o' with
    | md => exact absurd rfl ho
    | _ => rfl
theorem pf_6_28 {v : Int32}  : k2_putf 6 28 (hp s0 S) (.int v :: .ref (adr s0 .md) :: st) = some (hp s0 { S with md := { S.md with tln := v } }, st) := by
  refine pf_gen (o := .md) (by simp [Ob.ok]) rfl (Nat.le_of_ble_eq_true rfl) rfl ?_ ?_
  · simp [cel, up2_self, va_up_self]
  · intro o' ho
    cases o' with
    | md => exact absurd rfl ho
    | _ => rfl
theorem pf_0_0 {v : Int64} (hk : k < 13) (hi : i < 6) : k2_putf 0 0 (hp s0 S) (.long v :: .ref (adr s0 (.hh k i)) :: st) = some (hp s0 { S with hh := up2 S.hh k i { S.hh k i with nm := v } }, st) := by
  refine pf_gen (o := (.hh k i)) (by simp [Ob.ok, hk, hi]) rfl (Nat.le_of_ble_eq_true rfl) rfl ?_ ?_
  · simp [cel, up2_self, va_up_self]
  · intro o' ho
    cases o' with
    | hh a b =>
      have hn : ¬ (a = k ∧ b = i) := fun e => ho (by rw [e.1, e.2])
      simp only [cel, up2, if_neg hn]
    | _ => rfl
theorem pf_0_1 {v : Int32} (hk : k < 13) (hi : i < 6) : k2_putf 0 1 (hp s0 S) (.int v :: .ref (adr s0 (.hh k i)) :: st) = some (hp s0 { S with hh := up2 S.hh k i { S.hh k i with cap := v } }, st) := by
  refine pf_gen (o := (.hh k i)) (by simp [Ob.ok, hk, hi]) rfl (Nat.le_of_ble_eq_true rfl) rfl ?_ ?_
  · simp [cel, up2_self, va_up_self]
  · intro o' ho
    cases o' with
    | hh a b =>
      have hn : ¬ (a = k ∧ b = i) := fun e => ho (by rw [e.1, e.2])
      simp only [cel, up2, if_neg hn]
    | _ => rfl
theorem pf_0_2 {v : Int32} (hk : k < 13) (hi : i < 6) : k2_putf 0 2 (hp s0 S) (.int v :: .ref (adr s0 (.hh k i)) :: st) = some (hp s0 { S with hh := up2 S.hh k i { S.hh k i with bal := v } }, st) := by
  refine pf_gen (o := (.hh k i)) (by simp [Ob.ok, hk, hi]) rfl (Nat.le_of_ble_eq_true rfl) rfl ?_ ?_
  · simp [cel, up2_self, va_up_self]
  · intro o' ho
    cases o' with
    | hh a b =>
      have hn : ¬ (a = k ∧ b = i) := fun e => ho (by rw [e.1, e.2])
      simp only [cel, up2, if_neg hn]
    | _ => rfl
theorem pf_0_3 {v : Int32} (hk : k < 13) (hi : i < 6) : k2_putf 0 3 (hp s0 S) (.int v :: .ref (adr s0 (.hh k i)) :: st) = some (hp s0 { S with hh := up2 S.hh k i { S.hh k i with use := v } }, st) := by
  refine pf_gen (o := (.hh k i)) (by simp [Ob.ok, hk, hi]) rfl (Nat.le_of_ble_eq_true rfl) rfl ?_ ?_
  · simp [cel, up2_self, va_up_self]
  · intro o' ho
    cases o' with
    | hh a b =>
      have hn : ¬ (a = k ∧ b = i) := fun e => ho (by rw [e.1, e.2])
      simp only [cel, up2, if_neg hn]
    | _ => rfl
theorem pf_0_4 {v : Int32} (hk : k < 13) (hi : i < 6) : k2_putf 0 4 (hp s0 S) (.int v :: .ref (adr s0 (.hh k i)) :: st) = some (hp s0 { S with hh := up2 S.hh k i { S.hh k i with cam := v } }, st) := by
  refine pf_gen (o := (.hh k i)) (by simp [Ob.ok, hk, hi]) rfl (Nat.le_of_ble_eq_true rfl) rfl ?_ ?_
  · simp [cel, up2_self, va_up_self]
  · intro o' ho
    cases o' with
    | hh a b =>
      have hn : ¬ (a = k ∧ b = i) := fun e => ho (by rw [e.1, e.2])
      simp only [cel, up2, if_neg hn]
    | _ => rfl
theorem pf_2_0 {v : Int64} (hk : k < 13) (hp9 : p < 12) : k2_putf 2 0 (hp s0 S) (.long v :: .ref (adr s0 (.pg k p)) :: st) = some (hp s0 { S with pg := up2 S.pg k p { S.pg k p with nm := v } }, st) := by
  refine pf_gen (o := (.pg k p)) (by simp [Ob.ok, hk, hp9]) rfl (Nat.le_of_ble_eq_true rfl) rfl ?_ ?_
  · simp [cel, up2_self, va_up_self]
  · intro o' ho
    cases o' with
    | pg a b =>
      have hn : ¬ (a = k ∧ b = p) := fun e => ho (by rw [e.1, e.2])
      simp only [cel, up2, if_neg hn]
    | _ => rfl
theorem pf_2_1 {v : Int32} (hk : k < 13) (hp9 : p < 12) : k2_putf 2 1 (hp s0 S) (.int v :: .ref (adr s0 (.pg k p)) :: st) = some (hp s0 { S with pg := up2 S.pg k p { S.pg k p with hs := v } }, st) := by
  refine pf_gen (o := (.pg k p)) (by simp [Ob.ok, hk, hp9]) rfl (Nat.le_of_ble_eq_true rfl) rfl ?_ ?_
  · simp [cel, up2_self, va_up_self]
  · intro o' ho
    cases o' with
    | pg a b =>
      have hn : ¬ (a = k ∧ b = p) := fun e => ho (by rw [e.1, e.2])
      simp only [cel, up2, if_neg hn]
    | _ => rfl
theorem pf_2_2 {v : Int32} (hk : k < 13) (hp9 : p < 12) : k2_putf 2 2 (hp s0 S) (.int v :: .ref (adr s0 (.pg k p)) :: st) = some (hp s0 { S with pg := up2 S.pg k p { S.pg k p with kd := v } }, st) := by
  refine pf_gen (o := (.pg k p)) (by simp [Ob.ok, hk, hp9]) rfl (Nat.le_of_ble_eq_true rfl) rfl ?_ ?_
  · simp [cel, up2_self, va_up_self]
  · intro o' ho
    cases o' with
    | pg a b =>
      have hn : ¬ (a = k ∧ b = p) := fun e => ho (by rw [e.1, e.2])
      simp only [cel, up2, if_neg hn]
    | _ => rfl
theorem pf_2_3 {v : Int32} (hk : k < 13) (hp9 : p < 12) : k2_putf 2 3 (hp s0 S) (.int v :: .ref (adr s0 (.pg k p)) :: st) = some (hp s0 { S with pg := up2 S.pg k p { S.pg k p with rt := v } }, st) := by
  refine pf_gen (o := (.pg k p)) (by simp [Ob.ok, hk, hp9]) rfl (Nat.le_of_ble_eq_true rfl) rfl ?_ ?_
  · simp [cel, up2_self, va_up_self]
  · intro o' ho
    cases o' with
    | pg a b =>
      have hn : ¬ (a = k ∧ b = p) := fun e => ho (by rw [e.1, e.2])
      simp only [cel, up2, if_neg hn]
    | _ => rfl
theorem pf_2_4 {v : Int32} (hk : k < 13) (hp9 : p < 12) : k2_putf 2 4 (hp s0 S) (.int v :: .ref (adr s0 (.pg k p)) :: st) = some (hp s0 { S with pg := up2 S.pg k p { S.pg k p with fl := v } }, st) := by
  refine pf_gen (o := (.pg k p)) (by simp [Ob.ok, hk, hp9]) rfl (Nat.le_of_ble_eq_true rfl) rfl ?_ ?_
  · simp [cel, up2_self, va_up_self]
  · intro o' ho
    cases o' with
    | pg a b =>
      have hn : ¬ (a = k ∧ b = p) := fun e => ho (by rw [e.1, e.2])
      simp only [cel, up2, if_neg hn]
    | _ => rfl
theorem pf_2_5 {v : Int32} (hk : k < 13) (hp9 : p < 12) : k2_putf 2 5 (hp s0 S) (.int v :: .ref (adr s0 (.pg k p)) :: st) = some (hp s0 { S with pg := up2 S.pg k p { S.pg k p with ce := v } }, st) := by
  refine pf_gen (o := (.pg k p)) (by simp [Ob.ok, hk, hp9]) rfl (Nat.le_of_ble_eq_true rfl) rfl ?_ ?_
  · simp [cel, up2_self, va_up_self]
  · intro o' ho
    cases o' with
    | pg a b =>
      have hn : ¬ (a = k ∧ b = p) := fun e => ho (by rw [e.1, e.2])
      simp only [cel, up2, if_neg hn]
    | _ => rfl
theorem pf_2_6 {v : Int32} (hk : k < 13) (hp9 : p < 12) : k2_putf 2 6 (hp s0 S) (.int v :: .ref (adr s0 (.pg k p)) :: st) = some (hp s0 { S with pg := up2 S.pg k p { S.pg k p with ga := v } }, st) := by
  refine pf_gen (o := (.pg k p)) (by simp [Ob.ok, hk, hp9]) rfl (Nat.le_of_ble_eq_true rfl) rfl ?_ ?_
  · simp [cel, up2_self, va_up_self]
  · intro o' ho
    cases o' with
    | pg a b =>
      have hn : ¬ (a = k ∧ b = p) := fun e => ho (by rw [e.1, e.2])
      simp only [cel, up2, if_neg hn]
    | _ => rfl
theorem pf_2_7 {v : Int32} (hk : k < 13) (hp9 : p < 12) : k2_putf 2 7 (hp s0 S) (.int v :: .ref (adr s0 (.pg k p)) :: st) = some (hp s0 { S with pg := up2 S.pg k p { S.pg k p with pc := v } }, st) := by
  refine pf_gen (o := (.pg k p)) (by simp [Ob.ok, hk, hp9]) rfl (Nat.le_of_ble_eq_true rfl) rfl ?_ ?_
  · simp [cel, up2_self, va_up_self]
  · intro o' ho
    cases o' with
    | pg a b =>
      have hn : ¬ (a = k ∧ b = p) := fun e => ho (by rw [e.1, e.2])
      simp only [cel, up2, if_neg hn]
    | _ => rfl
theorem pf_2_8 {v : Int32} (hk : k < 13) (hp9 : p < 12) : k2_putf 2 8 (hp s0 S) (.int v :: .ref (adr s0 (.pg k p)) :: st) = some (hp s0 { S with pg := up2 S.pg k p { S.pg k p with le := v } }, st) := by
  refine pf_gen (o := (.pg k p)) (by simp [Ob.ok, hk, hp9]) rfl (Nat.le_of_ble_eq_true rfl) rfl ?_ ?_
  · simp [cel, up2_self, va_up_self]
  · intro o' ho
    cases o' with
    | pg a b =>
      have hn : ¬ (a = k ∧ b = p) := fun e => ho (by rw [e.1, e.2])
      simp only [cel, up2, if_neg hn]
    | _ => rfl
theorem pf_2_9 {v : Int32} (hk : k < 13) (hp9 : p < 12) : k2_putf 2 9 (hp s0 S) (.int v :: .ref (adr s0 (.pg k p)) :: st) = some (hp s0 { S with pg := up2 S.pg k p { S.pg k p with ba := v } }, st) := by
  refine pf_gen (o := (.pg k p)) (by simp [Ob.ok, hk, hp9]) rfl (Nat.le_of_ble_eq_true rfl) rfl ?_ ?_
  · simp [cel, up2_self, va_up_self]
  · intro o' ho
    cases o' with
    | pg a b =>
      have hn : ¬ (a = k ∧ b = p) := fun e => ho (by rw [e.1, e.2])
      simp only [cel, up2, if_neg hn]
    | _ => rfl
theorem pf_2_10 {v : Int32} (hk : k < 13) (hp9 : p < 12) : k2_putf 2 10 (hp s0 S) (.int v :: .ref (adr s0 (.pg k p)) :: st) = some (hp s0 { S with pg := up2 S.pg k p { S.pg k p with mi := v } }, st) := by
  refine pf_gen (o := (.pg k p)) (by simp [Ob.ok, hk, hp9]) rfl (Nat.le_of_ble_eq_true rfl) rfl ?_ ?_
  · simp [cel, up2_self, va_up_self]
  · intro o' ho
    cases o' with
    | pg a b =>
      have hn : ¬ (a = k ∧ b = p) := fun e => ho (by rw [e.1, e.2])
      simp only [cel, up2, if_neg hn]
    | _ => rfl
theorem pf_2_11 {v : Int32} (hk : k < 13) (hp9 : p < 12) (hv : v = 0 ∨ v = 1) : k2_putf 2 11 (hp s0 S) (.int v :: .ref (adr s0 (.pg k p)) :: st) = some (hp s0 { S with pg := up2 S.pg k p { S.pg k p with on := v } }, st) := by
  refine pf_gen (o := (.pg k p)) (by simp [Ob.ok, hk, hp9]) rfl (Nat.le_of_ble_eq_true rfl) (by rcases hv with rfl | rfl <;> rfl) ?_ ?_
  · simp [cel, up2_self, va_up_self]
  · intro o' ho
    cases o' with
    | pg a b =>
      have hn : ¬ (a = k ∧ b = p) := fun e => ho (by rw [e.1, e.2])
      simp only [cel, up2, if_neg hn]
    | _ => rfl
theorem pf_1_0 {v : Int32} (hk : k < 13) : k2_putf 1 0 (hp s0 S) (.int v :: .ref (adr s0 (.lk k)) :: st) = some (hp s0 { S with lk := va_up S.lk k { S.lk k with cap := v } }, st) := by
  refine pf_gen (o := (.lk k)) (by simp [Ob.ok, hk]) rfl (Nat.le_of_ble_eq_true rfl) rfl ?_ ?_
  · simp [cel, up2_self, va_up_self]
  · intro o' ho
    cases o' with
    | lk a =>
      have hn : ¬ a = k := fun e => ho (by rw [e])
      simp only [cel, va_up, if_neg hn]
    | _ => rfl
theorem pf_1_1 {v : Int32} (hk : k < 13) : k2_putf 1 1 (hp s0 S) (.int v :: .ref (adr s0 (.lk k)) :: st) = some (hp s0 { S with lk := va_up S.lk k { S.lk k with thr := v } }, st) := by
  refine pf_gen (o := (.lk k)) (by simp [Ob.ok, hk]) rfl (Nat.le_of_ble_eq_true rfl) rfl ?_ ?_
  · simp [cel, up2_self, va_up_self]
  · intro o' ho
    cases o' with
    | lk a =>
      have hn : ¬ a = k := fun e => ho (by rw [e])
      simp only [cel, va_up, if_neg hn]
    | _ => rfl
theorem pf_1_2 {v : Int32} (hk : k < 13) : k2_putf 1 2 (hp s0 S) (.int v :: .ref (adr s0 (.lk k)) :: st) = some (hp s0 { S with lk := va_up S.lk k { S.lk k with pri := v } }, st) := by
  refine pf_gen (o := (.lk k)) (by simp [Ob.ok, hk]) rfl (Nat.le_of_ble_eq_true rfl) rfl ?_ ?_
  · simp [cel, up2_self, va_up_self]
  · intro o' ho
    cases o' with
    | lk a =>
      have hn : ¬ a = k := fun e => ho (by rw [e])
      simp only [cel, va_up, if_neg hn]
    | _ => rfl
theorem pf_1_3 {v : Int32} (hk : k < 13) : k2_putf 1 3 (hp s0 S) (.int v :: .ref (adr s0 (.lk k)) :: st) = some (hp s0 { S with lk := va_up S.lk k { S.lk k with rfd := v } }, st) := by
  refine pf_gen (o := (.lk k)) (by simp [Ob.ok, hk]) rfl (Nat.le_of_ble_eq_true rfl) rfl ?_ ?_
  · simp [cel, up2_self, va_up_self]
  · intro o' ho
    cases o' with
    | lk a =>
      have hn : ¬ a = k := fun e => ho (by rw [e])
      simp only [cel, va_up, if_neg hn]
    | _ => rfl
theorem pf_1_4 {v : Int32} (hk : k < 13) : k2_putf 1 4 (hp s0 S) (.int v :: .ref (adr s0 (.lk k)) :: st) = some (hp s0 { S with lk := va_up S.lk k { S.lk k with fgt := v } }, st) := by
  refine pf_gen (o := (.lk k)) (by simp [Ob.ok, hk]) rfl (Nat.le_of_ble_eq_true rfl) rfl ?_ ?_
  · simp [cel, up2_self, va_up_self]
  · intro o' ho
    cases o' with
    | lk a =>
      have hn : ¬ a = k := fun e => ho (by rw [e])
      simp only [cel, va_up, if_neg hn]
    | _ => rfl
theorem pf_1_5 {v : Int32} (hk : k < 13) : k2_putf 1 5 (hp s0 S) (.int v :: .ref (adr s0 (.lk k)) :: st) = some (hp s0 { S with lk := va_up S.lk k { S.lk k with tim := v } }, st) := by
  refine pf_gen (o := (.lk k)) (by simp [Ob.ok, hk]) rfl (Nat.le_of_ble_eq_true rfl) rfl ?_ ?_
  · simp [cel, up2_self, va_up_self]
  · intro o' ho
    cases o' with
    | lk a =>
      have hn : ¬ a = k := fun e => ho (by rw [e])
      simp only [cel, va_up, if_neg hn]
    | _ => rfl
theorem pf_1_6 {v : Int32} (hk : k < 13) : k2_putf 1 6 (hp s0 S) (.int v :: .ref (adr s0 (.lk k)) :: st) = some (hp s0 { S with lk := va_up S.lk k { S.lk k with wsl := v } }, st) := by
  refine pf_gen (o := (.lk k)) (by simp [Ob.ok, hk]) rfl (Nat.le_of_ble_eq_true rfl) rfl ?_ ?_
  · simp [cel, up2_self, va_up_self]
  · intro o' ho
    cases o' with
    | lk a =>
      have hn : ¬ a = k := fun e => ho (by rw [e])
      simp only [cel, va_up, if_neg hn]
    | _ => rfl
theorem pf_1_7 {v : Int32} (hk : k < 13) : k2_putf 1 7 (hp s0 S) (.int v :: .ref (adr s0 (.lk k)) :: st) = some (hp s0 { S with lk := va_up S.lk k { S.lk k with dsl := v } }, st) := by
  refine pf_gen (o := (.lk k)) (by simp [Ob.ok, hk]) rfl (Nat.le_of_ble_eq_true rfl) rfl ?_ ?_
  · simp [cel, up2_self, va_up_self]
  · intro o' ho
    cases o' with
    | lk a =>
      have hn : ¬ a = k := fun e => ho (by rw [e])
      simp only [cel, va_up, if_neg hn]
    | _ => rfl
theorem pf_1_8 {v : Int32} (hk : k < 13) (hv : v = 0 ∨ v = 1) : k2_putf 1 8 (hp s0 S) (.int v :: .ref (adr s0 (.lk k)) :: st) = some (hp s0 { S with lk := va_up S.lk k { S.lk k with wrn := v } }, st) := by
  refine pf_gen (o := (.lk k)) (by simp [Ob.ok, hk]) rfl (Nat.le_of_ble_eq_true rfl) (by rcases hv with rfl | rfl <;> rfl) ?_ ?_
  · simp [cel, up2_self, va_up_self]
  · intro o' ho
    cases o' with
    | lk a =>
      have hn : ¬ a = k := fun e => ho (by rw [e])
      simp only [cel, va_up, if_neg hn]
    | _ => rfl
theorem pf_1_9 {v : Int32} (hk : k < 13) : k2_putf 1 9 (hp s0 S) (.int v :: .ref (adr s0 (.lk k)) :: st) = some (hp s0 { S with lk := va_up S.lk k { S.lk k with nh := v } }, st) := by
  refine pf_gen (o := (.lk k)) (by simp [Ob.ok, hk]) rfl (Nat.le_of_ble_eq_true rfl) rfl ?_ ?_
  · simp [cel, up2_self, va_up_self]
  · intro o' ho
    cases o' with
    | lk a =>
      have hn : ¬ a = k := fun e => ho (by rw [e])
      simp only [cel, va_up, if_neg hn]
    | _ => rfl
theorem pf_1_10 {v : Int32} (hk : k < 13) : k2_putf 1 10 (hp s0 S) (.int v :: .ref (adr s0 (.lk k)) :: st) = some (hp s0 { S with lk := va_up S.lk k { S.lk k with np := v } }, st) := by
  refine pf_gen (o := (.lk k)) (by simp [Ob.ok, hk]) rfl (Nat.le_of_ble_eq_true rfl) rfl ?_ ?_
  · simp [cel, up2_self, va_up_self]
  · intro o' ho
    cases o' with
    | lk a =>
      have hn : ¬ a = k := fun e => ho (by rw [e])
      simp only [cel, va_up, if_neg hn]
    | _ => rfl
theorem al_sl {j : Int32} (hk : k < 13) (hp9 : p < 12)  : k2_iald 0 0 (hp s0 S) (.int j :: .ref (adr s0 (.sl k p)) :: st) = if ¬ (j < 0 ∨ 6 ≤ j.toNatClampNeg) then some (hp s0 S, .int (S.sl k p j.toNatClampNeg) :: st) else none := by
  unfold k2_iald
  simp only [ld_gen (o := (.sl k p)) (by simp [Ob.ok, hk, hp9]) rfl]
theorem as_sl {j : Int32} {v : Int32} (hk : k < 13) (hp9 : p < 12)  : k2_iast 0 0 (hp s0 S) (.int v :: .int j :: .ref (adr s0 (.sl k p)) :: st) = if ¬ (j < 0 ∨ 6 ≤ j.toNatClampNeg) then some (hp s0 { S with sl := up2 S.sl k p (upd (S.sl k p) j.toNatClampNeg v) }, st) else none := by
  unfold k2_iast
  simp only [ld_gen (o := (.sl k p)) (by simp [Ob.ok, hk, hp9]) rfl]
  by_cases hb : ¬ (j < 0 ∨ 6 ≤ j.toNatClampNeg)
  · rw [if_pos hb, if_pos hb]
    refine congrArg (fun h => some (h, st)) (hp_up (by simp [Ob.ok, hk, hp9]) ?_ ?_)
    · simp [cel, up2_self, va_up_self]
    · intro o' ho
      cases o' with
      | sl a b =>
        have hn : ¬ (a = k ∧ b = p) := fun e => ho (by rw [e.1, e.2])
        simp only [cel, up2, if_neg hn]
      | _ => rfl
  · rw [if_neg hb, if_neg hb]
theorem al_ct {j : Int32} (hk : k < 13) (hp9 : p < 12)  : k2_lald 0 0 (hp s0 S) (.int j :: .ref (adr s0 (.ct k p)) :: st) = if ¬ (j < 0 ∨ 8 ≤ j.toNatClampNeg) then some (hp s0 S, .long (S.ct k p j.toNatClampNeg) :: st) else none := by
  unfold k2_lald
  simp only [ld_gen (o := (.ct k p)) (by simp [Ob.ok, hk, hp9]) rfl]
theorem as_ct {j : Int32} {v : Int64} (hk : k < 13) (hp9 : p < 12)  : k2_last 0 0 (hp s0 S) (.long v :: .int j :: .ref (adr s0 (.ct k p)) :: st) = if ¬ (j < 0 ∨ 8 ≤ j.toNatClampNeg) then some (hp s0 { S with ct := up2 S.ct k p (vp_updL (S.ct k p) j.toNatClampNeg v) }, st) else none := by
  unfold k2_last
  simp only [ld_gen (o := (.ct k p)) (by simp [Ob.ok, hk, hp9]) rfl]
  by_cases hb : ¬ (j < 0 ∨ 8 ≤ j.toNatClampNeg)
  · rw [if_pos hb, if_pos hb]
    refine congrArg (fun h => some (h, st)) (hp_up (by simp [Ob.ok, hk, hp9]) ?_ ?_)
    · simp [cel, up2_self, va_up_self]
    · intro o' ho
      cases o' with
      | ct a b =>
        have hn : ¬ (a = k ∧ b = p) := fun e => ho (by rw [e.1, e.2])
        simp only [cel, up2, if_neg hn]
      | _ => rfl
  · rw [if_neg hb, if_neg hb]
theorem al_hr {j : Int32} (hk : k < 13)  : k2_iald 0 0 (hp s0 S) (.int j :: .ref (adr s0 (.hr k)) :: st) = if ¬ (j < 0 ∨ 144 ≤ j.toNatClampNeg) then some (hp s0 S, .int (S.hr k j.toNatClampNeg) :: st) else none := by
  unfold k2_iald
  simp only [ld_gen (o := (.hr k)) (by simp [Ob.ok, hk]) rfl]
theorem as_hr {j : Int32} {v : Int32} (hk : k < 13)  : k2_iast 0 0 (hp s0 S) (.int v :: .int j :: .ref (adr s0 (.hr k)) :: st) = if ¬ (j < 0 ∨ 144 ≤ j.toNatClampNeg) then some (hp s0 { S with hr := va_up S.hr k (upd (S.hr k) j.toNatClampNeg v) }, st) else none := by
  unfold k2_iast
  simp only [ld_gen (o := (.hr k)) (by simp [Ob.ok, hk]) rfl]
  by_cases hb : ¬ (j < 0 ∨ 144 ≤ j.toNatClampNeg)
  · rw [if_pos hb, if_pos hb]
    refine congrArg (fun h => some (h, st)) (hp_up (by simp [Ob.ok, hk]) ?_ ?_)
    · simp [cel, up2_self, va_up_self]
    · intro o' ho
      cases o' with
      | hr a =>
        have hn : ¬ a = k := fun e => ho (by rw [e])
        simp only [cel, va_up, if_neg hn]
      | _ => rfl
  · rw [if_neg hb, if_neg hb]
theorem al_tx {j : Int32}   : k2_bald 0 0 (hp s0 S) (.int j :: .ref (adr s0 .tx) :: st) = if ¬ (j < 0 ∨ 700 ≤ j.toNatClampNeg) then some (hp s0 S, .int (S.tx j.toNatClampNeg) :: st) else none := by
  unfold k2_bald
  simp only [ld_gen (o := .tx) (by simp [Ob.ok]) rfl]
theorem as_tx {j : Int32} {v : Int32}   : k2_bast 0 0 (hp s0 S) (.int v :: .int j :: .ref (adr s0 .tx) :: st) = if ¬ (j < 0 ∨ 700 ≤ j.toNatClampNeg) then some (hp s0 { S with tx := upd S.tx j.toNatClampNeg (vp_nar .byte v) }, st) else none := by
  unfold k2_bast
  simp only [ld_gen (o := .tx) (by simp [Ob.ok]) rfl]
  by_cases hb : ¬ (j < 0 ∨ 700 ≤ j.toNatClampNeg)
  · rw [if_pos hb, if_pos hb]
    refine congrArg (fun h => some (h, st)) (hp_up (by simp [Ob.ok]) ?_ ?_)
    · rfl
    · intro o' ho
      cases o' with
      | tx => exact absurd rfl ho
      | _ => rfl
  · rw [if_neg hb, if_neg hb]
theorem al_rb {j : Int32}   : k2_bald 0 0 (hp s0 S) (.int j :: .ref (adr s0 .rb) :: st) = if ¬ (j < 0 ∨ 500 ≤ j.toNatClampNeg) then some (hp s0 S, .int (S.rb j.toNatClampNeg) :: st) else none := by
  unfold k2_bald
  simp only [ld_gen (o := .rb) (by simp [Ob.ok]) rfl]
theorem as_rb {j : Int32} {v : Int32}   : k2_bast 0 0 (hp s0 S) (.int v :: .int j :: .ref (adr s0 .rb) :: st) = if ¬ (j < 0 ∨ 500 ≤ j.toNatClampNeg) then some (hp s0 { S with rb := upd S.rb j.toNatClampNeg (vp_nar .byte v) }, st) else none := by
  unfold k2_bast
  simp only [ld_gen (o := .rb) (by simp [Ob.ok]) rfl]
  by_cases hb : ¬ (j < 0 ∨ 500 ≤ j.toNatClampNeg)
  · rw [if_pos hb, if_pos hb]
    refine congrArg (fun h => some (h, st)) (hp_up (by simp [Ob.ok]) ?_ ?_)
    · rfl
    · intro o' ho
      cases o' with
      | rb => exact absurd rfl ho
      | _ => rfl
  · rw [if_neg hb, if_neg hb]
theorem al_sv {j : Int32}   : k2_zald 0 0 (hp s0 S) (.int j :: .ref (adr s0 .sv) :: st) = if ¬ (j < 0 ∨ 2 ≤ j.toNatClampNeg) then some (hp s0 S, .int (S.sv j.toNatClampNeg) :: st) else none := by
  unfold k2_zald
  simp only [ld_gen (o := .sv) (by simp [Ob.ok]) rfl]
theorem as_sv {j : Int32} {v : Int32}   : k2_zast 0 0 (hp s0 S) (.int v :: .int j :: .ref (adr s0 .sv) :: st) = if ¬ (j < 0 ∨ 2 ≤ j.toNatClampNeg) then some (hp s0 { S with sv := upd S.sv j.toNatClampNeg (vp_nar .boolean v) }, st) else none := by
  unfold k2_zast
  simp only [ld_gen (o := .sv) (by simp [Ob.ok]) rfl]
  by_cases hb : ¬ (j < 0 ∨ 2 ≤ j.toNatClampNeg)
  · rw [if_pos hb, if_pos hb]
    refine congrArg (fun h => some (h, st)) (hp_up (by simp [Ob.ok]) ?_ ?_)
    · rfl
    · intro o' ho
      cases o' with
      | sv => exact absurd rfl ho
      | _ => rfl
  · rw [if_neg hb, if_neg hb]
theorem al_out {j : Int32}   : k2_lald 0 0 (hp s0 S) (.int j :: .ref (adr s0 .out) :: st) = if ¬ (j < 0 ∨ 1 ≤ j.toNatClampNeg) then some (hp s0 S, .long (S.out j.toNatClampNeg) :: st) else none := by
  unfold k2_lald
  simp only [ld_gen (o := .out) (by simp [Ob.ok]) rfl]
theorem as_out {j : Int32} {v : Int64}   : k2_last 0 0 (hp s0 S) (.long v :: .int j :: .ref (adr s0 .out) :: st) = if ¬ (j < 0 ∨ 1 ≤ j.toNatClampNeg) then some (hp s0 { S with out := vp_updL S.out j.toNatClampNeg v }, st) else none := by
  unfold k2_last
  simp only [ld_gen (o := .out) (by simp [Ob.ok]) rfl]
  by_cases hb : ¬ (j < 0 ∨ 1 ≤ j.toNatClampNeg)
  · rw [if_pos hb, if_pos hb]
    refine congrArg (fun h => some (h, st)) (hp_up (by simp [Ob.ok]) ?_ ?_)
    · rfl
    · intro o' ho
      cases o' with
      | out => exact absurd rfl ho
      | _ => rfl
  · rw [if_neg hb, if_neg hb]
theorem al_outD {j : Int32}   : k2_dald 0 0 (hp s0 S) (.int j :: .ref (adr s0 .outD) :: st) = if ¬ (j < 0 ∨ 1 ≤ j.toNatClampNeg) then some (hp s0 S, .double (S.outD j.toNatClampNeg) :: st) else none := by
  unfold k2_dald
  simp only [ld_gen (o := .outD) (by simp [Ob.ok]) rfl]
theorem as_outD {j : Int32} {v : UInt64}   : k2_dast 0 0 (hp s0 S) (.double v :: .int j :: .ref (adr s0 .outD) :: st) = if ¬ (j < 0 ∨ 1 ≤ j.toNatClampNeg) then some (hp s0 { S with outD := vf_upd S.outD j.toNatClampNeg v }, st) else none := by
  unfold k2_dast
  simp only [ld_gen (o := .outD) (by simp [Ob.ok]) rfl]
  by_cases hb : ¬ (j < 0 ∨ 1 ≤ j.toNatClampNeg)
  · rw [if_pos hb, if_pos hb]
    refine congrArg (fun h => some (h, st)) (hp_up (by simp [Ob.ok]) ?_ ?_)
    · rfl
    · intro o' ho
      cases o' with
      | outD => exact absurd rfl ho
      | _ => rfl
  · rw [if_neg hb, if_neg hb]
theorem al_ha {j : Int32} (hk : k < 13) : k2_aald5 0 0 (hp s0 S) (.int j :: .ref (adr s0 (.ha k)) :: st) = if ¬ (j < 0 ∨ 6 ≤ j.toNatClampNeg) then some (hp s0 S, .ref (adr s0 (.hh k j.toNatClampNeg)) :: st) else none := by
  unfold k2_aald5
  simp only [ld_gen (o := (.ha k)) (by simp [Ob.ok, hk]) rfl]
  by_cases hb : ¬ (j < 0 ∨ 6 ≤ j.toNatClampNeg)
  · rw [if_pos hb, if_pos hb]
    have hl : j.toNatClampNeg < 6 := Nat.not_le.mp fun q => hb (Or.inr q)
    simp only [if_pos hl, va_rf]
  · rw [if_neg hb, if_neg hb]
theorem al_pa {j : Int32} (hk : k < 13) : k2_aald6 0 0 (hp s0 S) (.int j :: .ref (adr s0 (.pa k)) :: st) = if ¬ (j < 0 ∨ 12 ≤ j.toNatClampNeg) then some (hp s0 S, .ref (adr s0 (.pg k j.toNatClampNeg)) :: st) else none := by
  unfold k2_aald6
  simp only [ld_gen (o := (.pa k)) (by simp [Ob.ok, hk]) rfl]
  by_cases hb : ¬ (j < 0 ∨ 12 ≤ j.toNatClampNeg)
  · rw [if_pos hb, if_pos hb]
    have hl : j.toNatClampNeg < 12 := Nat.not_le.mp fun q => hb (Or.inr q)
    simp only [if_pos hl, va_rf]
  · rw [if_neg hb, if_neg hb]
theorem al_ps {j : Int32}  : k2_aald7 0 0 (hp s0 S) (.int j :: .ref (adr s0 .ps) :: st) = if ¬ (j < 0 ∨ 8 ≤ j.toNatClampNeg) then some (hp s0 S, .ref (adr s0 (.lk (3 + j.toNatClampNeg))) :: st) else none := by
  unfold k2_aald7
  simp only [ld_gen (o := .ps) (by simp [Ob.ok]) rfl]
  by_cases hb : ¬ (j < 0 ∨ 8 ≤ j.toNatClampNeg)
  · rw [if_pos hb, if_pos hb]
    have hl : j.toNatClampNeg < 8 := Nat.not_le.mp fun q => hb (Or.inr q)
    simp only [if_pos hl, va_rf]
  · rw [if_neg hb, if_neg hb]
theorem al_sn {j : Int32}  : k2_aald7 0 0 (hp s0 S) (.int j :: .ref (adr s0 .sn) :: st) = if ¬ (j < 0 ∨ 2 ≤ j.toNatClampNeg) then some (hp s0 S, .ref (adr s0 (.lk (11 + j.toNatClampNeg))) :: st) else none := by
  unfold k2_aald7
  simp only [ld_gen (o := .sn) (by simp [Ob.ok]) rfl]
  by_cases hb : ¬ (j < 0 ∨ 2 ≤ j.toNatClampNeg)
  · rw [if_pos hb, if_pos hb]
    have hl : j.toNatClampNeg < 2 := Nat.not_le.mp fun q => hb (Or.inr q)
    simp only [if_pos hl, va_rf]
  · rw [if_neg hb, if_neg hb]
theorem al_ai {j : Int32} (hi : i < 16) (ht : (arL.getD i (0, 0)).1 = 0)  : k2_iald 0 0 (hp s0 S) (.int j :: .ref (adr s0 (.ar i)) :: st) = if ¬ (j < 0 ∨ (arL.getD i (0, 0)).2 ≤ j.toNatClampNeg) then some (hp s0 S, .int (S.ai i j.toNatClampNeg) :: st) else none := by
  unfold k2_iald
  simp only [ld_gen (o := (.ar i)) (by simp [Ob.ok, hi]) (t := 0) (n := (arL.getD i (0, 0)).2) (x := .inl (S.ai i)) (by simp only [cel]; rw [if_neg (by rw [ht]; decide), ht])]
theorem as_ai {j : Int32} {v : Int32} (hi : i < 16) (ht : (arL.getD i (0, 0)).1 = 0)  : k2_iast 0 0 (hp s0 S) (.int v :: .int j :: .ref (adr s0 (.ar i)) :: st) = if ¬ (j < 0 ∨ (arL.getD i (0, 0)).2 ≤ j.toNatClampNeg) then some (hp s0 { S with ai := va_up S.ai i (upd (S.ai i) j.toNatClampNeg v) }, st) else none := by
  unfold k2_iast
  simp only [ld_gen (o := (.ar i)) (by simp [Ob.ok, hi]) (t := 0) (n := (arL.getD i (0, 0)).2) (x := .inl (S.ai i)) (by simp only [cel]; rw [if_neg (by rw [ht]; decide), ht])]
  by_cases hb : ¬ (j < 0 ∨ (arL.getD i (0, 0)).2 ≤ j.toNatClampNeg)
  · rw [if_pos hb, if_pos hb]
    refine congrArg (fun h => some (h, st)) (hp_up (by simp [Ob.ok, hi]) ?_ ?_)
    · simp only [cel, va_up_self]; rw [if_neg (by rw [ht]; decide), ht]
    · intro o' ho
      cases o' with
      | ar a =>
        have hn : ¬ a = i := fun e => ho (by rw [e])
        simp only [cel, va_up, if_neg hn]
      | _ => rfl
  · rw [if_neg hb, if_neg hb]
theorem al_az {j : Int32} (hi : i < 16) (ht : (arL.getD i (0, 0)).1 = 3)  : k2_zald 0 0 (hp s0 S) (.int j :: .ref (adr s0 (.ar i)) :: st) = if ¬ (j < 0 ∨ (arL.getD i (0, 0)).2 ≤ j.toNatClampNeg) then some (hp s0 S, .int (S.ai i j.toNatClampNeg) :: st) else none := by
  unfold k2_zald
  simp only [ld_gen (o := (.ar i)) (by simp [Ob.ok, hi]) (t := 3) (n := (arL.getD i (0, 0)).2) (x := .inl (S.ai i)) (by simp only [cel]; rw [if_neg (by rw [ht]; decide), ht])]
theorem as_az {j : Int32} {v : Int32} (hi : i < 16) (ht : (arL.getD i (0, 0)).1 = 3)  : k2_zast 0 0 (hp s0 S) (.int v :: .int j :: .ref (adr s0 (.ar i)) :: st) = if ¬ (j < 0 ∨ (arL.getD i (0, 0)).2 ≤ j.toNatClampNeg) then some (hp s0 { S with ai := va_up S.ai i (upd (S.ai i) j.toNatClampNeg (vp_nar .boolean v)) }, st) else none := by
  unfold k2_zast
  simp only [ld_gen (o := (.ar i)) (by simp [Ob.ok, hi]) (t := 3) (n := (arL.getD i (0, 0)).2) (x := .inl (S.ai i)) (by simp only [cel]; rw [if_neg (by rw [ht]; decide), ht])]
  by_cases hb : ¬ (j < 0 ∨ (arL.getD i (0, 0)).2 ≤ j.toNatClampNeg)
  · rw [if_pos hb, if_pos hb]
    refine congrArg (fun h => some (h, st)) (hp_up (by simp [Ob.ok, hi]) ?_ ?_)
    · simp only [cel, va_up_self]; rw [if_neg (by rw [ht]; decide), ht]
    · intro o' ho
      cases o' with
      | ar a =>
        have hn : ¬ a = i := fun e => ho (by rw [e])
        simp only [cel, va_up, if_neg hn]
      | _ => rfl
  · rw [if_neg hb, if_neg hb]
theorem al_aj {j : Int32} (hi : i < 16) (ht : (arL.getD i (0, 0)).1 = 1)  : k2_lald 0 0 (hp s0 S) (.int j :: .ref (adr s0 (.ar i)) :: st) = if ¬ (j < 0 ∨ (arL.getD i (0, 0)).2 ≤ j.toNatClampNeg) then some (hp s0 S, .long (S.aj i j.toNatClampNeg) :: st) else none := by
  unfold k2_lald
  simp only [ld_gen (o := (.ar i)) (by simp [Ob.ok, hi]) (t := 1) (n := (arL.getD i (0, 0)).2) (x := .inr (.inl (S.aj i))) (by simp only [cel]; rw [if_pos ht])]
theorem as_aj {j : Int32} {v : Int64} (hi : i < 16) (ht : (arL.getD i (0, 0)).1 = 1)  : k2_last 0 0 (hp s0 S) (.long v :: .int j :: .ref (adr s0 (.ar i)) :: st) = if ¬ (j < 0 ∨ (arL.getD i (0, 0)).2 ≤ j.toNatClampNeg) then some (hp s0 { S with aj := va_up S.aj i (vp_updL (S.aj i) j.toNatClampNeg v) }, st) else none := by
  unfold k2_last
  simp only [ld_gen (o := (.ar i)) (by simp [Ob.ok, hi]) (t := 1) (n := (arL.getD i (0, 0)).2) (x := .inr (.inl (S.aj i))) (by simp only [cel]; rw [if_pos ht])]
  by_cases hb : ¬ (j < 0 ∨ (arL.getD i (0, 0)).2 ≤ j.toNatClampNeg)
  · rw [if_pos hb, if_pos hb]
    refine congrArg (fun h => some (h, st)) (hp_up (by simp [Ob.ok, hi]) ?_ ?_)
    · simp only [cel, va_up_self]; rw [if_pos ht]
    · intro o' ho
      cases o' with
      | ar a =>
        have hn : ¬ a = i := fun e => ho (by rw [e])
        simp only [cel, va_up, if_neg hn]
      | _ => rfl
  · rw [if_neg hb, if_neg hb]
theorem ln_hr (hk : k < 13) : k2_alen 0 0 (hp s0 S) (.ref (adr s0 (.hr k)) :: st) = some (hp s0 S, .int (Int32.ofNat 144) :: st) := by
  unfold k2_alen
  simp only [ld_gen (o := .hr k) (by simp [Ob.ok, hk]) rfl]
  rfl
theorem kv_rs {q : Option xR}  : kV (hp s0 S) (adr s0 .rs) 5 q = q := by
  unfold kV
  rw [hp_at (o := .rs) (by simp [Ob.ok])]
  rfl
theorem kv_tr {q : Option xR}  : kV (hp s0 S) (adr s0 .tr) 4 q = q := by
  unfold kV
  rw [hp_at (o := .tr) (by simp [Ob.ok])]
  rfl
theorem kv_rp {q : Option xR}  : kV (hp s0 S) (adr s0 .rp) 3 q = q := by
  unfold kV
  rw [hp_at (o := .rp) (by simp [Ob.ok])]
  rfl
theorem kv_md {q : Option xR}  : kV (hp s0 S) (adr s0 .md) 6 q = q := by
  unfold kV
  rw [hp_at (o := .md) (by simp [Ob.ok])]
  rfl
theorem kv_lk {q : Option xR} (hk : k < 13) : kV (hp s0 S) (adr s0 (.lk k)) 1 q = q := by
  unfold kV
  rw [hp_at (o := (.lk k)) (by simp [Ob.ok, hk])]
  rfl
theorem kv_hh {q : Option xR} (hk : k < 13) (hi : i < 6) : kV (hp s0 S) (adr s0 (.hh k i)) 0 q = q := by
  unfold kV
  rw [hp_at (o := (.hh k i)) (by simp [Ob.ok, hk, hi])]
  rfl
theorem kv_pg {q : Option xR} (hk : k < 13) (hp9 : p < 12) : kV (hp s0 S) (adr s0 (.pg k p)) 2 q = q := by
  unfold kV
  rw [hp_at (o := (.pg k p)) (by simp [Ob.ok, hk, hp9])]
  rfl
end GF
