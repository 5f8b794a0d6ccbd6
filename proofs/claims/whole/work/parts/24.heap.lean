/-! THE HEAP, BY NAMES: a cell is (tag, k, i); St says what each holds: ints by (cell, place), longs by (cell, place), the doubles of the one array of doubles. Tags: 0 rs, 1 tr, 2 tx, 3 rp, 4 rb, 5 ps, 6 sn, 7 sv, 8 md, 9 out, 10 od, 11 ar, 12 lk, 13 ha, 14 pa, 15 hr, 16 hh, 17 pg, 18 sl, 19 ct. -/
abbrev Ob : Type := Nat × Nat × Nat
abbrev St : Type := (Ob → Nat → Int32) × (Ob → Nat → Int64) × (Nat → UInt64)
def lb (k : Nat) : Nat := if k = 0 then 3 else if k = 1 then 51 else if k = 2 then 97 else 8 + 46 * k
def adz (o : Ob) : Nat := match o.1 with
  | 0 => 0
  | 1 => 1
  | 2 => 2
  | 3 => 49
  | 4 => 50
  | 5 => 143
  | 6 => 144
  | 7 => 145
  | 8 => 606
  | 9 => 623
  | 10 => 624
  | 11 => 607 + o.2.1
  | 12 => lb o.2.1
  | 13 => lb o.2.1 + 1
  | 14 => lb o.2.1 + 2
  | 15 => lb o.2.1 + 3
  | 16 => lb o.2.1 + (4 + o.2.2)
  | 17 => lb o.2.1 + (10 + 3 * o.2.2)
  | 18 => lb o.2.1 + (11 + 3 * o.2.2)
  | 19 => lb o.2.1 + (12 + 3 * o.2.2)
  | _ => 0
def adr (s0 : Nat) (o : Ob) : Nat := s0 + adz o
def oko (o : Ob) : Bool := match o.1 with
  | 0 => decide (o.2.1 = 0) && decide (o.2.2 = 0)
  | 1 => decide (o.2.1 = 0) && decide (o.2.2 = 0)
  | 2 => decide (o.2.1 = 0) && decide (o.2.2 = 0)
  | 3 => decide (o.2.1 = 0) && decide (o.2.2 = 0)
  | 4 => decide (o.2.1 = 0) && decide (o.2.2 = 0)
  | 5 => decide (o.2.1 = 0) && decide (o.2.2 = 0)
  | 6 => decide (o.2.1 = 0) && decide (o.2.2 = 0)
  | 7 => decide (o.2.1 = 0) && decide (o.2.2 = 0)
  | 8 => decide (o.2.1 = 0) && decide (o.2.2 = 0)
  | 9 => decide (o.2.1 = 0) && decide (o.2.2 = 0)
  | 10 => decide (o.2.1 = 0) && decide (o.2.2 = 0)
  | 11 => decide (o.2.1 < 16) && decide (o.2.2 = 0)
  | 12 => decide (o.2.1 < 13) && decide (o.2.2 = 0)
  | 13 => decide (o.2.1 < 13) && decide (o.2.2 = 0)
  | 14 => decide (o.2.1 < 13) && decide (o.2.2 = 0)
  | 15 => decide (o.2.1 < 13) && decide (o.2.2 = 0)
  | 16 => decide (o.2.1 < 13) && decide (o.2.2 < 6)
  | 17 => decide (o.2.1 < 13) && decide (o.2.2 < 12)
  | 18 => decide (o.2.1 < 13) && decide (o.2.2 < 12)
  | 19 => decide (o.2.1 < 13) && decide (o.2.2 < 12)
  | _ => false
def obs : List Ob := [(0, 0, 0), (1, 0, 0), (2, 0, 0), (12, 0, 0), (13, 0, 0), (14, 0, 0), (15, 0, 0), (16, 0, 0), (16, 0, 1), (16, 0, 2), (16, 0, 3), (16, 0, 4), (16, 0, 5), (17, 0, 0), (18, 0, 0), (19, 0, 0), (17, 0, 1), (18, 0, 1), (19, 0, 1), (17, 0, 2), (18, 0, 2), (19, 0, 2), (17, 0, 3), (18, 0, 3), (19, 0, 3), (17, 0, 4), (18, 0, 4), (19, 0, 4), (17, 0, 5), (18, 0, 5), (19, 0, 5), (17, 0, 6), (18, 0, 6), (19, 0, 6), (17, 0, 7), (18, 0, 7), (19, 0, 7), (17, 0, 8), (18, 0, 8), (19, 0, 8), (17, 0, 9), (18, 0, 9), (19, 0, 9), (17, 0, 10), (18, 0, 10), (19, 0, 10), (17, 0, 11), (18, 0, 11), (19, 0, 11), (3, 0, 0), (4, 0, 0), (12, 1, 0), (13, 1, 0), (14, 1, 0), (15, 1, 0), (16, 1, 0), (16, 1, 1), (16, 1, 2), (16, 1, 3), (16, 1, 4), (16, 1, 5), (17, 1, 0), (18, 1, 0), (19, 1, 0), (17, 1, 1), (18, 1, 1), (19, 1, 1), (17, 1, 2), (18, 1, 2), (19, 1, 2), (17, 1, 3), (18, 1, 3), (19, 1, 3), (17, 1, 4), (18, 1, 4), (19, 1, 4), (17, 1, 5), (18, 1, 5), (19, 1, 5), (17, 1, 6), (18, 1, 6), (19, 1, 6), (17, 1, 7), (18, 1, 7), (19, 1, 7), (17, 1, 8), (18, 1, 8), (19, 1, 8), (17, 1, 9), (18, 1, 9), (19, 1, 9), (17, 1, 10), (18, 1, 10), (19, 1, 10), (17, 1, 11), (18, 1, 11), (19, 1, 11), (12, 2, 0), (13, 2, 0), (14, 2, 0), (15, 2, 0), (16, 2, 0), (16, 2, 1), (16, 2, 2), (16, 2, 3), (16, 2, 4), (16, 2, 5), (17, 2, 0), (18, 2, 0), (19, 2, 0), (17, 2, 1), (18, 2, 1), (19, 2, 1), (17, 2, 2), (18, 2, 2), (19, 2, 2), (17, 2, 3), (18, 2, 3), (19, 2, 3), (17, 2, 4), (18, 2, 4), (19, 2, 4), (17, 2, 5), (18, 2, 5), (19, 2, 5), (17, 2, 6), (18, 2, 6), (19, 2, 6), (17, 2, 7), (18, 2, 7), (19, 2, 7), (17, 2, 8), (18, 2, 8), (19, 2, 8), (17, 2, 9), (18, 2, 9), (19, 2, 9), (17, 2, 10), (18, 2, 10), (19, 2, 10), (17, 2, 11), (18, 2, 11), (19, 2, 11), (5, 0, 0), (6, 0, 0), (7, 0, 0), (12, 3, 0), (13, 3, 0), (14, 3, 0), (15, 3, 0), (16, 3, 0), (16, 3, 1), (16, 3, 2), (16, 3, 3), (16, 3, 4), (16, 3, 5), (17, 3, 0), (18, 3, 0), (19, 3, 0), (17, 3, 1), (18, 3, 1), (19, 3, 1), (17, 3, 2), (18, 3, 2), (19, 3, 2), (17, 3, 3), (18, 3, 3), (19, 3, 3), (17, 3, 4), (18, 3, 4), (19, 3, 4), (17, 3, 5), (18, 3, 5), (19, 3, 5), (17, 3, 6), (18, 3, 6), (19, 3, 6), (17, 3, 7), (18, 3, 7), (19, 3, 7), (17, 3, 8), (18, 3, 8), (19, 3, 8), (17, 3, 9), (18, 3, 9), (19, 3, 9), (17, 3, 10), (18, 3, 10), (19, 3, 10), (17, 3, 11), (18, 3, 11), (19, 3, 11), (12, 4, 0), (13, 4, 0), (14, 4, 0), (15, 4, 0), (16, 4, 0), (16, 4, 1), (16, 4, 2), (16, 4, 3), (16, 4, 4), (16, 4, 5), (17, 4, 0), (18, 4, 0), (19, 4, 0), (17, 4, 1), (18, 4, 1), (19, 4, 1), (17, 4, 2), (18, 4, 2), (19, 4, 2), (17, 4, 3), (18, 4, 3), (19, 4, 3), (17, 4, 4), (18, 4, 4), (19, 4, 4), (17, 4, 5), (18, 4, 5), (19, 4, 5), (17, 4, 6), (18, 4, 6), (19, 4, 6), (17, 4, 7), (18, 4, 7), (19, 4, 7), (17, 4, 8), (18, 4, 8), (19, 4, 8), (17, 4, 9), (18, 4, 9), (19, 4, 9), (17, 4, 10), (18, 4, 10), (19, 4, 10), (17, 4, 11), (18, 4, 11), (19, 4, 11), (12, 5, 0), (13, 5, 0), (14, 5, 0), (15, 5, 0), (16, 5, 0), (16, 5, 1), (16, 5, 2), (16, 5, 3), (16, 5, 4), (16, 5, 5), (17, 5, 0), (18, 5, 0), (19, 5, 0), (17, 5, 1), (18, 5, 1), (19, 5, 1), (17, 5, 2), (18, 5, 2), (19, 5, 2), (17, 5, 3), (18, 5, 3), (19, 5, 3), (17, 5, 4), (18, 5, 4), (19, 5, 4), (17, 5, 5), (18, 5, 5), (19, 5, 5), (17, 5, 6), (18, 5, 6), (19, 5, 6), (17, 5, 7), (18, 5, 7), (19, 5, 7), (17, 5, 8), (18, 5, 8), (19, 5, 8), (17, 5, 9), (18, 5, 9), (19, 5, 9), (17, 5, 10), (18, 5, 10), (19, 5, 10), (17, 5, 11), (18, 5, 11), (19, 5, 11), (12, 6, 0), (13, 6, 0), (14, 6, 0), (15, 6, 0), (16, 6, 0), (16, 6, 1), (16, 6, 2), (16, 6, 3), (16, 6, 4), (16, 6, 5), (17, 6, 0), (18, 6, 0), (19, 6, 0), (17, 6, 1), (18, 6, 1), (19, 6, 1), (17, 6, 2), (18, 6, 2), (19, 6, 2), (17, 6, 3), (18, 6, 3), (19, 6, 3), (17, 6, 4), (18, 6, 4), (19, 6, 4), (17, 6, 5), (18, 6, 5), (19, 6, 5), (17, 6, 6), (18, 6, 6), (19, 6, 6), (17, 6, 7), (18, 6, 7), (19, 6, 7), (17, 6, 8), (18, 6, 8), (19, 6, 8), (17, 6, 9), (18, 6, 9), (19, 6, 9), (17, 6, 10), (18, 6, 10), (19, 6, 10), (17, 6, 11), (18, 6, 11), (19, 6, 11), (12, 7, 0), (13, 7, 0), (14, 7, 0), (15, 7, 0), (16, 7, 0), (16, 7, 1), (16, 7, 2), (16, 7, 3), (16, 7, 4), (16, 7, 5), (17, 7, 0), (18, 7, 0), (19, 7, 0), (17, 7, 1), (18, 7, 1), (19, 7, 1), (17, 7, 2), (18, 7, 2), (19, 7, 2), (17, 7, 3), (18, 7, 3), (19, 7, 3), (17, 7, 4), (18, 7, 4), (19, 7, 4), (17, 7, 5), (18, 7, 5), (19, 7, 5), (17, 7, 6), (18, 7, 6), (19, 7, 6), (17, 7, 7), (18, 7, 7), (19, 7, 7), (17, 7, 8), (18, 7, 8), (19, 7, 8), (17, 7, 9), (18, 7, 9), (19, 7, 9), (17, 7, 10), (18, 7, 10), (19, 7, 10), (17, 7, 11), (18, 7, 11), (19, 7, 11), (12, 8, 0), (13, 8, 0), (14, 8, 0), (15, 8, 0), (16, 8, 0), (16, 8, 1), (16, 8, 2), (16, 8, 3), (16, 8, 4), (16, 8, 5), (17, 8, 0), (18, 8, 0), (19, 8, 0), (17, 8, 1), (18, 8, 1), (19, 8, 1), (17, 8, 2), (18, 8, 2), (19, 8, 2), (17, 8, 3), (18, 8, 3), (19, 8, 3), (17, 8, 4), (18, 8, 4), (19, 8, 4), (17, 8, 5), (18, 8, 5), (19, 8, 5), (17, 8, 6), (18, 8, 6), (19, 8, 6), (17, 8, 7), (18, 8, 7), (19, 8, 7), (17, 8, 8), (18, 8, 8), (19, 8, 8), (17, 8, 9), (18, 8, 9), (19, 8, 9), (17, 8, 10), (18, 8, 10), (19, 8, 10), (17, 8, 11), (18, 8, 11), (19, 8, 11), (12, 9, 0), (13, 9, 0), (14, 9, 0), (15, 9, 0), (16, 9, 0), (16, 9, 1), (16, 9, 2), (16, 9, 3), (16, 9, 4), (16, 9, 5), (17, 9, 0), (18, 9, 0), (19, 9, 0), (17, 9, 1), (18, 9, 1), (19, 9, 1), (17, 9, 2), (18, 9, 2), (19, 9, 2), (17, 9, 3), (18, 9, 3), (19, 9, 3), (17, 9, 4), (18, 9, 4), (19, 9, 4), (17, 9, 5), (18, 9, 5), (19, 9, 5), (17, 9, 6), (18, 9, 6), (19, 9, 6), (17, 9, 7), (18, 9, 7), (19, 9, 7), (17, 9, 8), (18, 9, 8), (19, 9, 8), (17, 9, 9), (18, 9, 9), (19, 9, 9), (17, 9, 10), (18, 9, 10), (19, 9, 10), (17, 9, 11), (18, 9, 11), (19, 9, 11), (12, 10, 0), (13, 10, 0), (14, 10, 0), (15, 10, 0), (16, 10, 0), (16, 10, 1), (16, 10, 2), (16, 10, 3), (16, 10, 4), (16, 10, 5), (17, 10, 0), (18, 10, 0), (19, 10, 0), (17, 10, 1), (18, 10, 1), (19, 10, 1), (17, 10, 2), (18, 10, 2), (19, 10, 2), (17, 10, 3), (18, 10, 3), (19, 10, 3), (17, 10, 4), (18, 10, 4), (19, 10, 4), (17, 10, 5), (18, 10, 5), (19, 10, 5), (17, 10, 6), (18, 10, 6), (19, 10, 6), (17, 10, 7), (18, 10, 7), (19, 10, 7), (17, 10, 8), (18, 10, 8), (19, 10, 8), (17, 10, 9), (18, 10, 9), (19, 10, 9), (17, 10, 10), (18, 10, 10), (19, 10, 10), (17, 10, 11), (18, 10, 11), (19, 10, 11), (12, 11, 0), (13, 11, 0), (14, 11, 0), (15, 11, 0), (16, 11, 0), (16, 11, 1), (16, 11, 2), (16, 11, 3), (16, 11, 4), (16, 11, 5), (17, 11, 0), (18, 11, 0), (19, 11, 0), (17, 11, 1), (18, 11, 1), (19, 11, 1), (17, 11, 2), (18, 11, 2), (19, 11, 2), (17, 11, 3), (18, 11, 3), (19, 11, 3), (17, 11, 4), (18, 11, 4), (19, 11, 4), (17, 11, 5), (18, 11, 5), (19, 11, 5), (17, 11, 6), (18, 11, 6), (19, 11, 6), (17, 11, 7), (18, 11, 7), (19, 11, 7), (17, 11, 8), (18, 11, 8), (19, 11, 8), (17, 11, 9), (18, 11, 9), (19, 11, 9), (17, 11, 10), (18, 11, 10), (19, 11, 10), (17, 11, 11), (18, 11, 11), (19, 11, 11), (12, 12, 0), (13, 12, 0), (14, 12, 0), (15, 12, 0), (16, 12, 0), (16, 12, 1), (16, 12, 2), (16, 12, 3), (16, 12, 4), (16, 12, 5), (17, 12, 0), (18, 12, 0), (19, 12, 0), (17, 12, 1), (18, 12, 1), (19, 12, 1), (17, 12, 2), (18, 12, 2), (19, 12, 2), (17, 12, 3), (18, 12, 3), (19, 12, 3), (17, 12, 4), (18, 12, 4), (19, 12, 4), (17, 12, 5), (18, 12, 5), (19, 12, 5), (17, 12, 6), (18, 12, 6), (19, 12, 6), (17, 12, 7), (18, 12, 7), (19, 12, 7), (17, 12, 8), (18, 12, 8), (19, 12, 8), (17, 12, 9), (18, 12, 9), (19, 12, 9), (17, 12, 10), (18, 12, 10), (19, 12, 10), (17, 12, 11), (18, 12, 11), (19, 12, 11), (8, 0, 0), (11, 0, 0), (11, 1, 0), (11, 2, 0), (11, 3, 0), (11, 4, 0), (11, 5, 0), (11, 6, 0), (11, 7, 0), (11, 8, 0), (11, 9, 0), (11, 10, 0), (11, 11, 0), (11, 12, 0), (11, 13, 0), (11, 14, 0), (11, 15, 0), (9, 0, 0), (10, 0, 0)]
def arL : List (Nat × Nat) := [(0, 384), (0, 384), (0, 3072), (0, 768), (0, 384), (1, 114), (1, 114), (1, 912), (1, 228), (1, 114), (3, 2), (0, 700), (0, 12), (0, 12), (0, 12), (0, 600)]
def cel (s0 : Nat) (S : St) (o : Ob) : xC := match o.1 with
  | 0 => .inr (5, [.ref (adr s0 (1, 0, 0)), .ref (adr s0 (3, 0, 0)), .ref (adr s0 (12, 1, 0)), .ref (adr s0 (12, 2, 0)), .ref (adr s0 (5, 0, 0)), .int (S.1 o 5), .int (S.1 o 6), .ref (adr s0 (6, 0, 0)), .ref (adr s0 (7, 0, 0))])
  | 1 => .inr (4, [.ref (adr s0 (2, 0, 0)), .int (S.1 o 1), .int (S.1 o 2), .int (S.1 o 3), .long (S.2.1 o 4), .int (S.1 o 5), .ref (adr s0 (12, 0, 0)), .int (S.1 o 7), .int (S.1 o 8), .int (S.1 o 9)])
  | 3 => .inr (3, [.ref (adr s0 (4, 0, 0)), .int (S.1 o 1)])
  | 8 => .inr (6, [.ref (adr s0 (11, 0, 0)), .ref (adr s0 (11, 1, 0)), .ref (adr s0 (11, 2, 0)), .ref (adr s0 (11, 3, 0)), .ref (adr s0 (11, 4, 0)), .ref (adr s0 (11, 5, 0)), .ref (adr s0 (11, 6, 0)), .ref (adr s0 (11, 7, 0)), .ref (adr s0 (11, 8, 0)), .ref (adr s0 (11, 9, 0)), .ref (adr s0 (11, 10, 0)), .int (S.1 o 11), .int (S.1 o 12), .ref (adr s0 (11, 11, 0)), .int (S.1 o 14), .int (S.1 o 15), .int (S.1 o 16), .int (S.1 o 17), .int (S.1 o 18), .int (S.1 o 19), .int (S.1 o 20), .int (S.1 o 21), .long (S.2.1 o 22), .ref (adr s0 (11, 12, 0)), .ref (adr s0 (11, 13, 0)), .ref (adr s0 (11, 14, 0)), .int (S.1 o 26), .ref (adr s0 (11, 15, 0)), .int (S.1 o 28)])
  | 16 => .inr (0, [.long (S.2.1 o 0), .int (S.1 o 1), .int (S.1 o 2), .int (S.1 o 3), .int (S.1 o 4)])
  | 17 => .inr (2, [.long (S.2.1 o 0), .int (S.1 o 1), .int (S.1 o 2), .int (S.1 o 3), .int (S.1 o 4), .int (S.1 o 5), .int (S.1 o 6), .int (S.1 o 7), .int (S.1 o 8), .int (S.1 o 9), .int (S.1 o 10), .int (S.1 o 11), .ref (adr s0 (18, o.2.1, o.2.2)), .ref (adr s0 (19, o.2.1, o.2.2))])
  | 12 => .inr (1, [.int (S.1 o 0), .int (S.1 o 1), .int (S.1 o 2), .int (S.1 o 3), .int (S.1 o 4), .int (S.1 o 5), .int (S.1 o 6), .int (S.1 o 7), .int (S.1 o 8), .int (S.1 o 9), .int (S.1 o 10), .ref (adr s0 (13, o.2.1, 0)), .ref (adr s0 (14, o.2.1, 0)), .ref (adr s0 (15, o.2.1, 0))])
  | 2 => .inl (2, 700, .inl (S.1 o))
  | 4 => .inl (2, 500, .inl (S.1 o))
  | 7 => .inl (3, 2, .inl (S.1 o))
  | 5 => .inl (7, 8, .inr (.inr (.inr (.inr (fun j => if j < 8 then some (adr s0 (12, 3 + j, 0)) else none)))))
  | 6 => .inl (7, 2, .inr (.inr (.inr (.inr (fun j => if j < 2 then some (adr s0 (12, 11 + j, 0)) else none)))))
  | 13 => .inl (5, 6, .inr (.inr (.inr (.inr (fun j => if j < 6 then some (adr s0 (16, o.2.1, j)) else none)))))
  | 14 => .inl (6, 12, .inr (.inr (.inr (.inr (fun j => if j < 12 then some (adr s0 (17, o.2.1, j)) else none)))))
  | 15 => .inl (0, 144, .inl (S.1 o))
  | 18 => .inl (0, 6, .inl (S.1 o))
  | 19 => .inl (1, 8, .inr (.inl (S.2.1 o)))
  | 9 => .inl (1, 1, .inr (.inl (S.2.1 o)))
  | 10 => .inl (4, 1, .inr (.inr (.inr (.inl S.2.2))))
  | _ => if (arL.getD o.2.1 (0, 0)).1 = 1 then .inl (1, (arL.getD o.2.1 (0, 0)).2, .inr (.inl (S.2.1 o))) else .inl ((arL.getD o.2.1 (0, 0)).1, (arL.getD o.2.1 (0, 0)).2, .inl (S.1 o))
def hp (s0 : Nat) (S : St) : xH := fun r => if r < s0 then none else (obs[r - s0]?).map (cel s0 S)
/-- one int, one long, one row of ints, of longs, one double is another -/
def upI (S : St) (o : Ob) (f : Nat) (v : Int32) : St := (fun o' f' => if o' = o ∧ f' = f then v else S.1 o' f', S.2)
def upJ (S : St) (o : Ob) (f : Nat) (v : Int64) : St := (S.1, fun o' f' => if o' = o ∧ f' = f then v else S.2.1 o' f', S.2.2)
def rwI (S : St) (o : Ob) (g : Nat → Int32) : St := (fun o' => if o' = o then g else S.1 o', S.2)
def rwJ (S : St) (o : Ob) (g : Nat → Int64) : St := (S.1, fun o' => if o' = o then g else S.2.1 o', S.2.2)
def upD (S : St) (f : Nat) (v : UInt64) : St := (S.1, S.2.1, vf_upd S.2.2 f v)
theorem upI_1 (S : St) (o : Ob) (f : Nat) (v : Int32) (o' : Ob) (f' : Nat) : (upI S o f v).1 o' f' = if o' = o ∧ f' = f then v else S.1 o' f' := rfl
theorem upI_2 (S : St) (o : Ob) (f : Nat) (v : Int32) : (upI S o f v).2 = S.2 := rfl
theorem upJ_1 (S : St) (o : Ob) (f : Nat) (v : Int64) : (upJ S o f v).1 = S.1 := rfl
theorem upJ_2 (S : St) (o : Ob) (f : Nat) (v : Int64) (o' : Ob) (f' : Nat) : (upJ S o f v).2.1 o' f' = if o' = o ∧ f' = f then v else S.2.1 o' f' := rfl
theorem upJ_3 (S : St) (o : Ob) (f : Nat) (v : Int64) : (upJ S o f v).2.2 = S.2.2 := rfl
theorem rwI_1 (S : St) (o : Ob) (g : Nat → Int32) (o' : Ob) (f' : Nat) : (rwI S o g).1 o' f' = if o' = o then g f' else S.1 o' f' := by
  unfold rwI
  dsimp only
  split <;> rfl
theorem rwI_2 (S : St) (o : Ob) (g : Nat → Int32) : (rwI S o g).2 = S.2 := rfl
theorem rwJ_1 (S : St) (o : Ob) (g : Nat → Int64) : (rwJ S o g).1 = S.1 := rfl
theorem rwJ_2 (S : St) (o : Ob) (g : Nat → Int64) (o' : Ob) (f' : Nat) : (rwJ S o g).2.1 o' f' = if o' = o then g f' else S.2.1 o' f' := by
  unfold rwJ
  dsimp only
  split <;> rfl
theorem rwJ_3 (S : St) (o : Ob) (g : Nat → Int64) : (rwJ S o g).2.2 = S.2.2 := rfl
theorem upD_1 (S : St) (f : Nat) (v : UInt64) : (upD S f v).1 = S.1 := rfl
theorem upD_2 (S : St) (f : Nat) (v : UInt64) : (upD S f v).2.1 = S.2.1 := rfl
theorem upI_upI (S : St) (o : Ob) (f : Nat) (v w : Int32) : upI (upI S o f v) o f w = upI S o f w := by
  unfold upI
  congr 1
  funext a b
  dsimp only
  split <;> rfl
theorem upJ_upJ (S : St) (o : Ob) (f : Nat) (v w : Int64) : upJ (upJ S o f v) o f w = upJ S o f w := by
  unfold upJ
  congr 2
  funext a b
  dsimp only
  split <;> rfl
theorem upI_fun (S : St) (o : Ob) (f : Nat) (v : Int32) : (upI S o f v).1 o = upd (S.1 o) f v := by
  funext j
  simp [upI, upd]
theorem upI_fun' (S : St) {o o' : Ob} (f : Nat) (v : Int32) (h : o' ≠ o) : (upI S o f v).1 o' = S.1 o' := by
  funext j
  simp [upI, h]
theorem upJ_fun (S : St) (o : Ob) (f : Nat) (v : Int64) : (upJ S o f v).2.1 o = vp_updL (S.2.1 o) f v := by
  funext j
  simp [upJ, vp_updL]
theorem upJ_fun' (S : St) {o o' : Ob} (f : Nat) (v : Int64) (h : o' ≠ o) : (upJ S o f v).2.1 o' = S.2.1 o' := by
  funext j
  simp [upJ, h]
theorem obs_inv : ∀ i, i < 625 → (obs[i]?).map (fun o => (adz o, oko o)) = some (i, true) := by decide +kernel
theorem obs_len : obs.length = 625 := by decide +kernel
theorem obs_1 : ∀ t, t < 11 → obs[adz (t, 0, 0)]? = some (t, 0, 0) := by decide +kernel
theorem obs_2 : ∀ i, i < 16 → obs[adz (11, i, 0)]? = some (11, i, 0) := by decide +kernel
theorem obs_3 : ∀ k, k < 13 → ∀ t, t < 4 → obs[adz (12 + t, k, 0)]? = some (12 + t, k, 0) := by decide +kernel
theorem obs_4 : ∀ k, k < 13 → ∀ i, i < 6 → obs[adz (16, k, i)]? = some (16, k, i) := by decide +kernel
theorem obs_5a : ∀ k, k < 13 → ∀ i, i < 12 → obs[adz (17, k, i)]? = some (17, k, i) := by decide +kernel
theorem obs_5b : ∀ k, k < 13 → ∀ i, i < 12 → obs[adz (18, k, i)]? = some (18, k, i) := by decide +kernel
theorem obs_5c : ∀ k, k < 13 → ∀ i, i < 12 → obs[adz (19, k, i)]? = some (19, k, i) := by decide +kernel
theorem obs_ad {o : Ob} (h : oko o = true) : obs[adz o]? = some o := by
  obtain ⟨t, k, i⟩ := o
  by_cases h20 : t < 20
  · have ht : t = 0 ∨ t = 1 ∨ t = 2 ∨ t = 3 ∨ t = 4 ∨ t = 5 ∨ t = 6 ∨ t = 7 ∨ t = 8 ∨ t = 9 ∨ t = 10 ∨ t = 11 ∨ t = 12 ∨ t = 13 ∨ t = 14 ∨ t = 15 ∨ t = 16 ∨ t = 17 ∨ t = 18 ∨ t = 19 := by omega
    rcases ht with rfl | rfl | rfl | rfl | rfl | rfl | rfl | rfl | rfl | rfl | rfl | rfl | rfl | rfl | rfl | rfl | rfl | rfl | rfl | rfl <;> simp only [oko, Bool.and_eq_true, decide_eq_true_eq] at h <;> obtain ⟨h1, h2⟩ := h
    iterate 11 (subst h1; subst h2; exact obs_1 _ (by decide))
    · subst h2; exact obs_2 _ h1
    · subst h2; exact obs_3 _ h1 0 (by decide)
    · subst h2; exact obs_3 _ h1 1 (by decide)
    · subst h2; exact obs_3 _ h1 2 (by decide)
    · subst h2; exact obs_3 _ h1 3 (by decide)
    · exact obs_4 _ h1 _ h2
    · exact obs_5a _ h1 _ h2
    · exact obs_5b _ h1 _ h2
    · exact obs_5c _ h1 _ h2
  · exfalso
    unfold oko at h
    dsimp only at h
    split at h <;> first | omega | (cases h)
theorem hp_at {s0 : Nat} {S : St} {o : Ob} (h : oko o = true) : hp s0 S (adr s0 o) = some (cel s0 S o) := by
  unfold hp adr
  rw [if_neg (by omega), Nat.add_sub_cancel_left, obs_ad h]
  rfl
theorem hp_up {s0 : Nat} {S S' : St} {o : Ob} {c : xC} (h : oko o = true) (h1 : cel s0 S' o = c) (h2 : ∀ o', o' ≠ o → cel s0 S' o' = cel s0 S o') : xup (hp s0 S) (adr s0 o) c = hp s0 S' := by
  funext r
  unfold xup
  by_cases hr : r = adr s0 o
  · rw [if_pos hr, hr, hp_at h, h1]
  · rw [if_neg hr]
    unfold hp
    by_cases hs : r < s0
    · rw [if_pos hs, if_pos hs]
    · rw [if_neg hs, if_neg hs]
      cases ho : obs[r - s0]? with
      | none => rfl
      | some o' =>
        have hlt : r - s0 < 625 := by
          have := (List.getElem?_eq_some_iff.mp ho).1
          rw [obs_len] at this
          exact this
        have h3 := obs_inv _ hlt
        rw [ho] at h3
        have h4 : adz o' = r - s0 := congrArg Prod.fst (Option.some.inj h3)
        have h5 : o' ≠ o := fun e => hr (by unfold adr; rw [← e, h4]; omega)
        show some _ = some _
        rw [h2 o' h5]
/-- what a cell holds depends on its own rows (the doubles: on all of them) -/
theorem cel_eq {s0 : Nat} {S S' : St} {o : Ob} (h1 : S'.1 o = S.1 o) (h2 : S'.2.1 o = S.2.1 o) (h3 : S'.2.2 = S.2.2) : cel s0 S' o = cel s0 S o := by
  unfold cel
  rw [h1, h2, h3]
theorem celI {s0 : Nat} {S : St} {o : Ob} {f : Nat} {v : Int32} : ∀ o', o' ≠ o → cel s0 (upI S o f v) o' = cel s0 S o' := fun o' h => cel_eq (upI_fun' S f v h) rfl rfl
theorem celJ {s0 : Nat} {S : St} {o : Ob} {f : Nat} {v : Int64} : ∀ o', o' ≠ o → cel s0 (upJ S o f v) o' = cel s0 S o' := fun o' h => cel_eq rfl (upJ_fun' S f v h) rfl
theorem pf_gen {s0 ci fk : Nat} {S S' : St} {st : List Value} {v : Value} {o : Ob} {fs : List Value} (ho : oko o = true) (hc : cel s0 S o = .inr (ci, fs)) (hl : fk < fs.length) (hx : xfit (xcty ci fk) v = true) (h1 : cel s0 S' o = .inr (ci, fs.set fk v)) (h2 : ∀ o', o' ≠ o → cel s0 S' o' = cel s0 S o') : k2_putf ci fk (hp s0 S) (v :: .ref (adr s0 o) :: st) = some (hp s0 S', st) := by
  unfold k2_putf
  simp only [hp_at ho, hc]
  rw [if_pos ⟨trivial, hl, hx⟩, hp_up ho h1 h2]
theorem ld_gen {s0 t n : Nat} {S : St} {o : Ob} {x} (ho : oko o = true) (hc : cel s0 S o = .inl (t, n, x)) : hp s0 S (adr s0 o) = some (.inl (t, n, x)) := by rw [hp_at ho, hc]
section GF
variable {s0 k i p : Nat} {S : St} {st : List Value}
theorem gf_5_0  : k2_getf 5 0 (hp s0 S) (.ref (adr s0 (0, 0, 0)) :: st) = some (hp s0 S, .ref (adr s0 (1, 0, 0)) :: st) := by
  unfold k2_getf
  simp only [hp_at (o := (0, 0, 0)) (by simp [oko])]
  rfl
theorem gf_5_1  : k2_getf 5 1 (hp s0 S) (.ref (adr s0 (0, 0, 0)) :: st) = some (hp s0 S, .ref (adr s0 (3, 0, 0)) :: st) := by
  unfold k2_getf
  simp only [hp_at (o := (0, 0, 0)) (by simp [oko])]
  rfl
theorem gf_5_2  : k2_getf 5 2 (hp s0 S) (.ref (adr s0 (0, 0, 0)) :: st) = some (hp s0 S, .ref (adr s0 (12, 1, 0)) :: st) := by
  unfold k2_getf
  simp only [hp_at (o := (0, 0, 0)) (by simp [oko])]
  rfl
theorem gf_5_3  : k2_getf 5 3 (hp s0 S) (.ref (adr s0 (0, 0, 0)) :: st) = some (hp s0 S, .ref (adr s0 (12, 2, 0)) :: st) := by
  unfold k2_getf
  simp only [hp_at (o := (0, 0, 0)) (by simp [oko])]
  rfl
theorem gf_5_4  : k2_getf 5 4 (hp s0 S) (.ref (adr s0 (0, 0, 0)) :: st) = some (hp s0 S, .ref (adr s0 (5, 0, 0)) :: st) := by
  unfold k2_getf
  simp only [hp_at (o := (0, 0, 0)) (by simp [oko])]
  rfl
theorem gf_5_5  : k2_getf 5 5 (hp s0 S) (.ref (adr s0 (0, 0, 0)) :: st) = some (hp s0 S, .int (S.1 (0, 0, 0) 5) :: st) := by
  unfold k2_getf
  simp only [hp_at (o := (0, 0, 0)) (by simp [oko])]
  rfl
theorem pf_5_5 {v : Int32}  : k2_putf 5 5 (hp s0 S) (.int v :: .ref (adr s0 (0, 0, 0)) :: st) = some (hp s0 (upI S (0, 0, 0) 5 v), st) := by
  refine pf_gen (o := (0, 0, 0)) (by simp [oko]) rfl (Nat.le_of_ble_eq_true rfl) rfl ?_ celI
  simp [cel, upI]
theorem gf_5_6  : k2_getf 5 6 (hp s0 S) (.ref (adr s0 (0, 0, 0)) :: st) = some (hp s0 S, .int (S.1 (0, 0, 0) 6) :: st) := by
  unfold k2_getf
  simp only [hp_at (o := (0, 0, 0)) (by simp [oko])]
  rfl
theorem pf_5_6 {v : Int32}  : k2_putf 5 6 (hp s0 S) (.int v :: .ref (adr s0 (0, 0, 0)) :: st) = some (hp s0 (upI S (0, 0, 0) 6 v), st) := by
  refine pf_gen (o := (0, 0, 0)) (by simp [oko]) rfl (Nat.le_of_ble_eq_true rfl) rfl ?_ celI
  simp [cel, upI]
theorem gf_5_7  : k2_getf 5 7 (hp s0 S) (.ref (adr s0 (0, 0, 0)) :: st) = some (hp s0 S, .ref (adr s0 (6, 0, 0)) :: st) := by
  unfold k2_getf
  simp only [hp_at (o := (0, 0, 0)) (by simp [oko])]
  rfl
theorem gf_5_8  : k2_getf 5 8 (hp s0 S) (.ref (adr s0 (0, 0, 0)) :: st) = some (hp s0 S, .ref (adr s0 (7, 0, 0)) :: st) := by
  unfold k2_getf
  simp only [hp_at (o := (0, 0, 0)) (by simp [oko])]
  rfl
theorem gf_4_0  : k2_getf 4 0 (hp s0 S) (.ref (adr s0 (1, 0, 0)) :: st) = some (hp s0 S, .ref (adr s0 (2, 0, 0)) :: st) := by
  unfold k2_getf
  simp only [hp_at (o := (1, 0, 0)) (by simp [oko])]
  rfl
theorem gf_4_1  : k2_getf 4 1 (hp s0 S) (.ref (adr s0 (1, 0, 0)) :: st) = some (hp s0 S, .int (S.1 (1, 0, 0) 1) :: st) := by
  unfold k2_getf
  simp only [hp_at (o := (1, 0, 0)) (by simp [oko])]
  rfl
theorem pf_4_1 {v : Int32}  : k2_putf 4 1 (hp s0 S) (.int v :: .ref (adr s0 (1, 0, 0)) :: st) = some (hp s0 (upI S (1, 0, 0) 1 v), st) := by
  refine pf_gen (o := (1, 0, 0)) (by simp [oko]) rfl (Nat.le_of_ble_eq_true rfl) rfl ?_ celI
  simp [cel, upI]
theorem gf_4_2  : k2_getf 4 2 (hp s0 S) (.ref (adr s0 (1, 0, 0)) :: st) = some (hp s0 S, .int (S.1 (1, 0, 0) 2) :: st) := by
  unfold k2_getf
  simp only [hp_at (o := (1, 0, 0)) (by simp [oko])]
  rfl
theorem pf_4_2 {v : Int32}  : k2_putf 4 2 (hp s0 S) (.int v :: .ref (adr s0 (1, 0, 0)) :: st) = some (hp s0 (upI S (1, 0, 0) 2 v), st) := by
  refine pf_gen (o := (1, 0, 0)) (by simp [oko]) rfl (Nat.le_of_ble_eq_true rfl) rfl ?_ celI
  simp [cel, upI]
theorem gf_4_3  : k2_getf 4 3 (hp s0 S) (.ref (adr s0 (1, 0, 0)) :: st) = some (hp s0 S, .int (S.1 (1, 0, 0) 3) :: st) := by
  unfold k2_getf
  simp only [hp_at (o := (1, 0, 0)) (by simp [oko])]
  rfl
theorem pf_4_3 {v : Int32}  : k2_putf 4 3 (hp s0 S) (.int v :: .ref (adr s0 (1, 0, 0)) :: st) = some (hp s0 (upI S (1, 0, 0) 3 v), st) := by
  refine pf_gen (o := (1, 0, 0)) (by simp [oko]) rfl (Nat.le_of_ble_eq_true rfl) rfl ?_ celI
  simp [cel, upI]
theorem gf_4_4  : k2_getf 4 4 (hp s0 S) (.ref (adr s0 (1, 0, 0)) :: st) = some (hp s0 S, .long (S.2.1 (1, 0, 0) 4) :: st) := by
  unfold k2_getf
  simp only [hp_at (o := (1, 0, 0)) (by simp [oko])]
  rfl
theorem pf_4_4 {v : Int64}  : k2_putf 4 4 (hp s0 S) (.long v :: .ref (adr s0 (1, 0, 0)) :: st) = some (hp s0 (upJ S (1, 0, 0) 4 v), st) := by
  refine pf_gen (o := (1, 0, 0)) (by simp [oko]) rfl (Nat.le_of_ble_eq_true rfl) rfl ?_ celJ
  simp [cel, upJ]
theorem gf_4_5  : k2_getf 4 5 (hp s0 S) (.ref (adr s0 (1, 0, 0)) :: st) = some (hp s0 S, .int (S.1 (1, 0, 0) 5) :: st) := by
  unfold k2_getf
  simp only [hp_at (o := (1, 0, 0)) (by simp [oko])]
  rfl
theorem pf_4_5 {v : Int32}  : k2_putf 4 5 (hp s0 S) (.int v :: .ref (adr s0 (1, 0, 0)) :: st) = some (hp s0 (upI S (1, 0, 0) 5 v), st) := by
  refine pf_gen (o := (1, 0, 0)) (by simp [oko]) rfl (Nat.le_of_ble_eq_true rfl) rfl ?_ celI
  simp [cel, upI]
theorem gf_4_6  : k2_getf 4 6 (hp s0 S) (.ref (adr s0 (1, 0, 0)) :: st) = some (hp s0 S, .ref (adr s0 (12, 0, 0)) :: st) := by
  unfold k2_getf
  simp only [hp_at (o := (1, 0, 0)) (by simp [oko])]
  rfl
theorem gf_4_7  : k2_getf 4 7 (hp s0 S) (.ref (adr s0 (1, 0, 0)) :: st) = some (hp s0 S, .int (S.1 (1, 0, 0) 7) :: st) := by
  unfold k2_getf
  simp only [hp_at (o := (1, 0, 0)) (by simp [oko])]
  rfl
theorem pf_4_7 {v : Int32}  : k2_putf 4 7 (hp s0 S) (.int v :: .ref (adr s0 (1, 0, 0)) :: st) = some (hp s0 (upI S (1, 0, 0) 7 v), st) := by
  refine pf_gen (o := (1, 0, 0)) (by simp [oko]) rfl (Nat.le_of_ble_eq_true rfl) rfl ?_ celI
  simp [cel, upI]
theorem gf_4_8  : k2_getf 4 8 (hp s0 S) (.ref (adr s0 (1, 0, 0)) :: st) = some (hp s0 S, .int (S.1 (1, 0, 0) 8) :: st) := by
  unfold k2_getf
  simp only [hp_at (o := (1, 0, 0)) (by simp [oko])]
  rfl
theorem pf_4_8 {v : Int32}  : k2_putf 4 8 (hp s0 S) (.int v :: .ref (adr s0 (1, 0, 0)) :: st) = some (hp s0 (upI S (1, 0, 0) 8 v), st) := by
  refine pf_gen (o := (1, 0, 0)) (by simp [oko]) rfl (Nat.le_of_ble_eq_true rfl) rfl ?_ celI
  simp [cel, upI]
theorem gf_4_9  : k2_getf 4 9 (hp s0 S) (.ref (adr s0 (1, 0, 0)) :: st) = some (hp s0 S, .int (S.1 (1, 0, 0) 9) :: st) := by
  unfold k2_getf
  simp only [hp_at (o := (1, 0, 0)) (by simp [oko])]
  rfl
theorem pf_4_9 {v : Int32}  : k2_putf 4 9 (hp s0 S) (.int v :: .ref (adr s0 (1, 0, 0)) :: st) = some (hp s0 (upI S (1, 0, 0) 9 v), st) := by
  refine pf_gen (o := (1, 0, 0)) (by simp [oko]) rfl (Nat.le_of_ble_eq_true rfl) rfl ?_ celI
  simp [cel, upI]
theorem gf_3_0  : k2_getf 3 0 (hp s0 S) (.ref (adr s0 (3, 0, 0)) :: st) = some (hp s0 S, .ref (adr s0 (4, 0, 0)) :: st) := by
  unfold k2_getf
  simp only [hp_at (o := (3, 0, 0)) (by simp [oko])]
  rfl
theorem gf_3_1  : k2_getf 3 1 (hp s0 S) (.ref (adr s0 (3, 0, 0)) :: st) = some (hp s0 S, .int (S.1 (3, 0, 0) 1) :: st) := by
  unfold k2_getf
  simp only [hp_at (o := (3, 0, 0)) (by simp [oko])]
  rfl
theorem pf_3_1 {v : Int32}  : k2_putf 3 1 (hp s0 S) (.int v :: .ref (adr s0 (3, 0, 0)) :: st) = some (hp s0 (upI S (3, 0, 0) 1 v), st) := by
  refine pf_gen (o := (3, 0, 0)) (by simp [oko]) rfl (Nat.le_of_ble_eq_true rfl) rfl ?_ celI
  simp [cel, upI]
theorem gf_6_0  : k2_getf 6 0 (hp s0 S) (.ref (adr s0 (8, 0, 0)) :: st) = some (hp s0 S, .ref (adr s0 (11, 0, 0)) :: st) := by
  unfold k2_getf
  simp only [hp_at (o := (8, 0, 0)) (by simp [oko])]
  rfl
theorem gf_6_1  : k2_getf 6 1 (hp s0 S) (.ref (adr s0 (8, 0, 0)) :: st) = some (hp s0 S, .ref (adr s0 (11, 1, 0)) :: st) := by
  unfold k2_getf
  simp only [hp_at (o := (8, 0, 0)) (by simp [oko])]
  rfl
theorem gf_6_2  : k2_getf 6 2 (hp s0 S) (.ref (adr s0 (8, 0, 0)) :: st) = some (hp s0 S, .ref (adr s0 (11, 2, 0)) :: st) := by
  unfold k2_getf
  simp only [hp_at (o := (8, 0, 0)) (by simp [oko])]
  rfl
theorem gf_6_3  : k2_getf 6 3 (hp s0 S) (.ref (adr s0 (8, 0, 0)) :: st) = some (hp s0 S, .ref (adr s0 (11, 3, 0)) :: st) := by
  unfold k2_getf
  simp only [hp_at (o := (8, 0, 0)) (by simp [oko])]
  rfl
theorem gf_6_4  : k2_getf 6 4 (hp s0 S) (.ref (adr s0 (8, 0, 0)) :: st) = some (hp s0 S, .ref (adr s0 (11, 4, 0)) :: st) := by
  unfold k2_getf
  simp only [hp_at (o := (8, 0, 0)) (by simp [oko])]
  rfl
theorem gf_6_5  : k2_getf 6 5 (hp s0 S) (.ref (adr s0 (8, 0, 0)) :: st) = some (hp s0 S, .ref (adr s0 (11, 5, 0)) :: st) := by
  unfold k2_getf
  simp only [hp_at (o := (8, 0, 0)) (by simp [oko])]
  rfl
theorem gf_6_6  : k2_getf 6 6 (hp s0 S) (.ref (adr s0 (8, 0, 0)) :: st) = some (hp s0 S, .ref (adr s0 (11, 6, 0)) :: st) := by
  unfold k2_getf
  simp only [hp_at (o := (8, 0, 0)) (by simp [oko])]
  rfl
theorem gf_6_7  : k2_getf 6 7 (hp s0 S) (.ref (adr s0 (8, 0, 0)) :: st) = some (hp s0 S, .ref (adr s0 (11, 7, 0)) :: st) := by
  unfold k2_getf
  simp only [hp_at (o := (8, 0, 0)) (by simp [oko])]
  rfl
theorem gf_6_8  : k2_getf 6 8 (hp s0 S) (.ref (adr s0 (8, 0, 0)) :: st) = some (hp s0 S, .ref (adr s0 (11, 8, 0)) :: st) := by
  unfold k2_getf
  simp only [hp_at (o := (8, 0, 0)) (by simp [oko])]
  rfl
theorem gf_6_9  : k2_getf 6 9 (hp s0 S) (.ref (adr s0 (8, 0, 0)) :: st) = some (hp s0 S, .ref (adr s0 (11, 9, 0)) :: st) := by
  unfold k2_getf
  simp only [hp_at (o := (8, 0, 0)) (by simp [oko])]
  rfl
theorem gf_6_10  : k2_getf 6 10 (hp s0 S) (.ref (adr s0 (8, 0, 0)) :: st) = some (hp s0 S, .ref (adr s0 (11, 10, 0)) :: st) := by
  unfold k2_getf
  simp only [hp_at (o := (8, 0, 0)) (by simp [oko])]
  rfl
theorem gf_6_11  : k2_getf 6 11 (hp s0 S) (.ref (adr s0 (8, 0, 0)) :: st) = some (hp s0 S, .int (S.1 (8, 0, 0) 11) :: st) := by
  unfold k2_getf
  simp only [hp_at (o := (8, 0, 0)) (by simp [oko])]
  rfl
theorem pf_6_11 {v : Int32}  : k2_putf 6 11 (hp s0 S) (.int v :: .ref (adr s0 (8, 0, 0)) :: st) = some (hp s0 (upI S (8, 0, 0) 11 v), st) := by
  refine pf_gen (o := (8, 0, 0)) (by simp [oko]) rfl (Nat.le_of_ble_eq_true rfl) rfl ?_ celI
  simp [cel, upI]
theorem gf_6_12  : k2_getf 6 12 (hp s0 S) (.ref (adr s0 (8, 0, 0)) :: st) = some (hp s0 S, .int (S.1 (8, 0, 0) 12) :: st) := by
  unfold k2_getf
  simp only [hp_at (o := (8, 0, 0)) (by simp [oko])]
  rfl
theorem pf_6_12 {v : Int32}  : k2_putf 6 12 (hp s0 S) (.int v :: .ref (adr s0 (8, 0, 0)) :: st) = some (hp s0 (upI S (8, 0, 0) 12 v), st) := by
  refine pf_gen (o := (8, 0, 0)) (by simp [oko]) rfl (Nat.le_of_ble_eq_true rfl) rfl ?_ celI
  simp [cel, upI]
theorem gf_6_13  : k2_getf 6 13 (hp s0 S) (.ref (adr s0 (8, 0, 0)) :: st) = some (hp s0 S, .ref (adr s0 (11, 11, 0)) :: st) := by
  unfold k2_getf
  simp only [hp_at (o := (8, 0, 0)) (by simp [oko])]
  rfl
theorem gf_6_14  : k2_getf 6 14 (hp s0 S) (.ref (adr s0 (8, 0, 0)) :: st) = some (hp s0 S, .int (S.1 (8, 0, 0) 14) :: st) := by
  unfold k2_getf
  simp only [hp_at (o := (8, 0, 0)) (by simp [oko])]
  rfl
theorem pf_6_14 {v : Int32}  : k2_putf 6 14 (hp s0 S) (.int v :: .ref (adr s0 (8, 0, 0)) :: st) = some (hp s0 (upI S (8, 0, 0) 14 v), st) := by
  refine pf_gen (o := (8, 0, 0)) (by simp [oko]) rfl (Nat.le_of_ble_eq_true rfl) rfl ?_ celI
  simp [cel, upI]
theorem gf_6_15  : k2_getf 6 15 (hp s0 S) (.ref (adr s0 (8, 0, 0)) :: st) = some (hp s0 S, .int (S.1 (8, 0, 0) 15) :: st) := by
  unfold k2_getf
  simp only [hp_at (o := (8, 0, 0)) (by simp [oko])]
  rfl
theorem pf_6_15 {v : Int32}  : k2_putf 6 15 (hp s0 S) (.int v :: .ref (adr s0 (8, 0, 0)) :: st) = some (hp s0 (upI S (8, 0, 0) 15 v), st) := by
  refine pf_gen (o := (8, 0, 0)) (by simp [oko]) rfl (Nat.le_of_ble_eq_true rfl) rfl ?_ celI
  simp [cel, upI]
theorem gf_6_16  : k2_getf 6 16 (hp s0 S) (.ref (adr s0 (8, 0, 0)) :: st) = some (hp s0 S, .int (S.1 (8, 0, 0) 16) :: st) := by
  unfold k2_getf
  simp only [hp_at (o := (8, 0, 0)) (by simp [oko])]
  rfl
theorem pf_6_16 {v : Int32}  : k2_putf 6 16 (hp s0 S) (.int v :: .ref (adr s0 (8, 0, 0)) :: st) = some (hp s0 (upI S (8, 0, 0) 16 v), st) := by
  refine pf_gen (o := (8, 0, 0)) (by simp [oko]) rfl (Nat.le_of_ble_eq_true rfl) rfl ?_ celI
  simp [cel, upI]
theorem gf_6_17  : k2_getf 6 17 (hp s0 S) (.ref (adr s0 (8, 0, 0)) :: st) = some (hp s0 S, .int (S.1 (8, 0, 0) 17) :: st) := by
  unfold k2_getf
  simp only [hp_at (o := (8, 0, 0)) (by simp [oko])]
  rfl
theorem pf_6_17 {v : Int32}  : k2_putf 6 17 (hp s0 S) (.int v :: .ref (adr s0 (8, 0, 0)) :: st) = some (hp s0 (upI S (8, 0, 0) 17 v), st) := by
  refine pf_gen (o := (8, 0, 0)) (by simp [oko]) rfl (Nat.le_of_ble_eq_true rfl) rfl ?_ celI
  simp [cel, upI]
theorem gf_6_18  : k2_getf 6 18 (hp s0 S) (.ref (adr s0 (8, 0, 0)) :: st) = some (hp s0 S, .int (S.1 (8, 0, 0) 18) :: st) := by
  unfold k2_getf
  simp only [hp_at (o := (8, 0, 0)) (by simp [oko])]
  rfl
theorem pf_6_18 {v : Int32}  : k2_putf 6 18 (hp s0 S) (.int v :: .ref (adr s0 (8, 0, 0)) :: st) = some (hp s0 (upI S (8, 0, 0) 18 v), st) := by
  refine pf_gen (o := (8, 0, 0)) (by simp [oko]) rfl (Nat.le_of_ble_eq_true rfl) rfl ?_ celI
  simp [cel, upI]
theorem gf_6_19  : k2_getf 6 19 (hp s0 S) (.ref (adr s0 (8, 0, 0)) :: st) = some (hp s0 S, .int (S.1 (8, 0, 0) 19) :: st) := by
  unfold k2_getf
  simp only [hp_at (o := (8, 0, 0)) (by simp [oko])]
  rfl
theorem pf_6_19 {v : Int32}  : k2_putf 6 19 (hp s0 S) (.int v :: .ref (adr s0 (8, 0, 0)) :: st) = some (hp s0 (upI S (8, 0, 0) 19 v), st) := by
  refine pf_gen (o := (8, 0, 0)) (by simp [oko]) rfl (Nat.le_of_ble_eq_true rfl) rfl ?_ celI
  simp [cel, upI]
theorem gf_6_20  : k2_getf 6 20 (hp s0 S) (.ref (adr s0 (8, 0, 0)) :: st) = some (hp s0 S, .int (S.1 (8, 0, 0) 20) :: st) := by
  unfold k2_getf
  simp only [hp_at (o := (8, 0, 0)) (by simp [oko])]
  rfl
theorem pf_6_20 {v : Int32}  : k2_putf 6 20 (hp s0 S) (.int v :: .ref (adr s0 (8, 0, 0)) :: st) = some (hp s0 (upI S (8, 0, 0) 20 v), st) := by
  refine pf_gen (o := (8, 0, 0)) (by simp [oko]) rfl (Nat.le_of_ble_eq_true rfl) rfl ?_ celI
  simp [cel, upI]
theorem gf_6_21  : k2_getf 6 21 (hp s0 S) (.ref (adr s0 (8, 0, 0)) :: st) = some (hp s0 S, .int (S.1 (8, 0, 0) 21) :: st) := by
  unfold k2_getf
  simp only [hp_at (o := (8, 0, 0)) (by simp [oko])]
  rfl
theorem pf_6_21 {v : Int32}  : k2_putf 6 21 (hp s0 S) (.int v :: .ref (adr s0 (8, 0, 0)) :: st) = some (hp s0 (upI S (8, 0, 0) 21 v), st) := by
  refine pf_gen (o := (8, 0, 0)) (by simp [oko]) rfl (Nat.le_of_ble_eq_true rfl) rfl ?_ celI
  simp [cel, upI]
theorem gf_6_22  : k2_getf 6 22 (hp s0 S) (.ref (adr s0 (8, 0, 0)) :: st) = some (hp s0 S, .long (S.2.1 (8, 0, 0) 22) :: st) := by
  unfold k2_getf
  simp only [hp_at (o := (8, 0, 0)) (by simp [oko])]
  rfl
theorem pf_6_22 {v : Int64}  : k2_putf 6 22 (hp s0 S) (.long v :: .ref (adr s0 (8, 0, 0)) :: st) = some (hp s0 (upJ S (8, 0, 0) 22 v), st) := by
  refine pf_gen (o := (8, 0, 0)) (by simp [oko]) rfl (Nat.le_of_ble_eq_true rfl) rfl ?_ celJ
  simp [cel, upJ]
theorem gf_6_23  : k2_getf 6 23 (hp s0 S) (.ref (adr s0 (8, 0, 0)) :: st) = some (hp s0 S, .ref (adr s0 (11, 12, 0)) :: st) := by
  unfold k2_getf
  simp only [hp_at (o := (8, 0, 0)) (by simp [oko])]
  rfl
theorem gf_6_24  : k2_getf 6 24 (hp s0 S) (.ref (adr s0 (8, 0, 0)) :: st) = some (hp s0 S, .ref (adr s0 (11, 13, 0)) :: st) := by
  unfold k2_getf
  simp only [hp_at (o := (8, 0, 0)) (by simp [oko])]
  rfl
theorem gf_6_25  : k2_getf 6 25 (hp s0 S) (.ref (adr s0 (8, 0, 0)) :: st) = some (hp s0 S, .ref (adr s0 (11, 14, 0)) :: st) := by
  unfold k2_getf
  simp only [hp_at (o := (8, 0, 0)) (by simp [oko])]
  rfl
theorem gf_6_26  : k2_getf 6 26 (hp s0 S) (.ref (adr s0 (8, 0, 0)) :: st) = some (hp s0 S, .int (S.1 (8, 0, 0) 26) :: st) := by
  unfold k2_getf
  simp only [hp_at (o := (8, 0, 0)) (by simp [oko])]
  rfl
theorem pf_6_26 {v : Int32}  : k2_putf 6 26 (hp s0 S) (.int v :: .ref (adr s0 (8, 0, 0)) :: st) = some (hp s0 (upI S (8, 0, 0) 26 v), st) := by
  refine pf_gen (o := (8, 0, 0)) (by simp [oko]) rfl (Nat.le_of_ble_eq_true rfl) rfl ?_ celI
  simp [cel, upI]
theorem gf_6_27  : k2_getf 6 27 (hp s0 S) (.ref (adr s0 (8, 0, 0)) :: st) = some (hp s0 S, .ref (adr s0 (11, 15, 0)) :: st) := by
  unfold k2_getf
  simp only [hp_at (o := (8, 0, 0)) (by simp [oko])]
  rfl
theorem gf_6_28  : k2_getf 6 28 (hp s0 S) (.ref (adr s0 (8, 0, 0)) :: st) = some (hp s0 S, .int (S.1 (8, 0, 0) 28) :: st) := by
  unfold k2_getf
  simp only [hp_at (o := (8, 0, 0)) (by simp [oko])]
  rfl
theorem pf_6_28 {v : Int32}  : k2_putf 6 28 (hp s0 S) (.int v :: .ref (adr s0 (8, 0, 0)) :: st) = some (hp s0 (upI S (8, 0, 0) 28 v), st) := by
  refine pf_gen (o := (8, 0, 0)) (by simp [oko]) rfl (Nat.le_of_ble_eq_true rfl) rfl ?_ celI
  simp [cel, upI]
theorem gf_0_0 (hk : k < 13) (hi : i < 6) : k2_getf 0 0 (hp s0 S) (.ref (adr s0 (16, k, i)) :: st) = some (hp s0 S, .long (S.2.1 (16, k, i) 0) :: st) := by
  unfold k2_getf
  simp only [hp_at (o := (16, k, i)) (by simp [oko, hk, hi])]
  rfl
theorem pf_0_0 {v : Int64} (hk : k < 13) (hi : i < 6) : k2_putf 0 0 (hp s0 S) (.long v :: .ref (adr s0 (16, k, i)) :: st) = some (hp s0 (upJ S (16, k, i) 0 v), st) := by
  refine pf_gen (o := (16, k, i)) (by simp [oko, hk, hi]) rfl (Nat.le_of_ble_eq_true rfl) rfl ?_ celJ
  simp [cel, upJ]
theorem gf_0_1 (hk : k < 13) (hi : i < 6) : k2_getf 0 1 (hp s0 S) (.ref (adr s0 (16, k, i)) :: st) = some (hp s0 S, .int (S.1 (16, k, i) 1) :: st) := by
  unfold k2_getf
  simp only [hp_at (o := (16, k, i)) (by simp [oko, hk, hi])]
  rfl
theorem pf_0_1 {v : Int32} (hk : k < 13) (hi : i < 6) : k2_putf 0 1 (hp s0 S) (.int v :: .ref (adr s0 (16, k, i)) :: st) = some (hp s0 (upI S (16, k, i) 1 v), st) := by
  refine pf_gen (o := (16, k, i)) (by simp [oko, hk, hi]) rfl (Nat.le_of_ble_eq_true rfl) rfl ?_ celI
  simp [cel, upI]
theorem gf_0_2 (hk : k < 13) (hi : i < 6) : k2_getf 0 2 (hp s0 S) (.ref (adr s0 (16, k, i)) :: st) = some (hp s0 S, .int (S.1 (16, k, i) 2) :: st) := by
  unfold k2_getf
  simp only [hp_at (o := (16, k, i)) (by simp [oko, hk, hi])]
  rfl
theorem pf_0_2 {v : Int32} (hk : k < 13) (hi : i < 6) : k2_putf 0 2 (hp s0 S) (.int v :: .ref (adr s0 (16, k, i)) :: st) = some (hp s0 (upI S (16, k, i) 2 v), st) := by
  refine pf_gen (o := (16, k, i)) (by simp [oko, hk, hi]) rfl (Nat.le_of_ble_eq_true rfl) rfl ?_ celI
  simp [cel, upI]
theorem gf_0_3 (hk : k < 13) (hi : i < 6) : k2_getf 0 3 (hp s0 S) (.ref (adr s0 (16, k, i)) :: st) = some (hp s0 S, .int (S.1 (16, k, i) 3) :: st) := by
  unfold k2_getf
  simp only [hp_at (o := (16, k, i)) (by simp [oko, hk, hi])]
  rfl
theorem pf_0_3 {v : Int32} (hk : k < 13) (hi : i < 6) : k2_putf 0 3 (hp s0 S) (.int v :: .ref (adr s0 (16, k, i)) :: st) = some (hp s0 (upI S (16, k, i) 3 v), st) := by
  refine pf_gen (o := (16, k, i)) (by simp [oko, hk, hi]) rfl (Nat.le_of_ble_eq_true rfl) rfl ?_ celI
  simp [cel, upI]
theorem gf_0_4 (hk : k < 13) (hi : i < 6) : k2_getf 0 4 (hp s0 S) (.ref (adr s0 (16, k, i)) :: st) = some (hp s0 S, .int (S.1 (16, k, i) 4) :: st) := by
  unfold k2_getf
  simp only [hp_at (o := (16, k, i)) (by simp [oko, hk, hi])]
  rfl
theorem pf_0_4 {v : Int32} (hk : k < 13) (hi : i < 6) : k2_putf 0 4 (hp s0 S) (.int v :: .ref (adr s0 (16, k, i)) :: st) = some (hp s0 (upI S (16, k, i) 4 v), st) := by
  refine pf_gen (o := (16, k, i)) (by simp [oko, hk, hi]) rfl (Nat.le_of_ble_eq_true rfl) rfl ?_ celI
  simp [cel, upI]
theorem gf_2_0 (hk : k < 13) (hp9 : p < 12) : k2_getf 2 0 (hp s0 S) (.ref (adr s0 (17, k, p)) :: st) = some (hp s0 S, .long (S.2.1 (17, k, p) 0) :: st) := by
  unfold k2_getf
  simp only [hp_at (o := (17, k, p)) (by simp [oko, hk, hp9])]
  rfl
theorem pf_2_0 {v : Int64} (hk : k < 13) (hp9 : p < 12) : k2_putf 2 0 (hp s0 S) (.long v :: .ref (adr s0 (17, k, p)) :: st) = some (hp s0 (upJ S (17, k, p) 0 v), st) := by
  refine pf_gen (o := (17, k, p)) (by simp [oko, hk, hp9]) rfl (Nat.le_of_ble_eq_true rfl) rfl ?_ celJ
  simp [cel, upJ]
theorem gf_2_1 (hk : k < 13) (hp9 : p < 12) : k2_getf 2 1 (hp s0 S) (.ref (adr s0 (17, k, p)) :: st) = some (hp s0 S, .int (S.1 (17, k, p) 1) :: st) := by
  unfold k2_getf
  simp only [hp_at (o := (17, k, p)) (by simp [oko, hk, hp9])]
  rfl
theorem pf_2_1 {v : Int32} (hk : k < 13) (hp9 : p < 12) : k2_putf 2 1 (hp s0 S) (.int v :: .ref (adr s0 (17, k, p)) :: st) = some (hp s0 (upI S (17, k, p) 1 v), st) := by
  refine pf_gen (o := (17, k, p)) (by simp [oko, hk, hp9]) rfl (Nat.le_of_ble_eq_true rfl) rfl ?_ celI
  simp [cel, upI]
theorem gf_2_2 (hk : k < 13) (hp9 : p < 12) : k2_getf 2 2 (hp s0 S) (.ref (adr s0 (17, k, p)) :: st) = some (hp s0 S, .int (S.1 (17, k, p) 2) :: st) := by
  unfold k2_getf
  simp only [hp_at (o := (17, k, p)) (by simp [oko, hk, hp9])]
  rfl
theorem pf_2_2 {v : Int32} (hk : k < 13) (hp9 : p < 12) : k2_putf 2 2 (hp s0 S) (.int v :: .ref (adr s0 (17, k, p)) :: st) = some (hp s0 (upI S (17, k, p) 2 v), st) := by
  refine pf_gen (o := (17, k, p)) (by simp [oko, hk, hp9]) rfl (Nat.le_of_ble_eq_true rfl) rfl ?_ celI
  simp [cel, upI]
theorem gf_2_3 (hk : k < 13) (hp9 : p < 12) : k2_getf 2 3 (hp s0 S) (.ref (adr s0 (17, k, p)) :: st) = some (hp s0 S, .int (S.1 (17, k, p) 3) :: st) := by
  unfold k2_getf
  simp only [hp_at (o := (17, k, p)) (by simp [oko, hk, hp9])]
  rfl
theorem pf_2_3 {v : Int32} (hk : k < 13) (hp9 : p < 12) : k2_putf 2 3 (hp s0 S) (.int v :: .ref (adr s0 (17, k, p)) :: st) = some (hp s0 (upI S (17, k, p) 3 v), st) := by
  refine pf_gen (o := (17, k, p)) (by simp [oko, hk, hp9]) rfl (Nat.le_of_ble_eq_true rfl) rfl ?_ celI
  simp [cel, upI]
theorem gf_2_4 (hk : k < 13) (hp9 : p < 12) : k2_getf 2 4 (hp s0 S) (.ref (adr s0 (17, k, p)) :: st) = some (hp s0 S, .int (S.1 (17, k, p) 4) :: st) := by
  unfold k2_getf
  simp only [hp_at (o := (17, k, p)) (by simp [oko, hk, hp9])]
  rfl
theorem pf_2_4 {v : Int32} (hk : k < 13) (hp9 : p < 12) : k2_putf 2 4 (hp s0 S) (.int v :: .ref (adr s0 (17, k, p)) :: st) = some (hp s0 (upI S (17, k, p) 4 v), st) := by
  refine pf_gen (o := (17, k, p)) (by simp [oko, hk, hp9]) rfl (Nat.le_of_ble_eq_true rfl) rfl ?_ celI
  simp [cel, upI]
theorem gf_2_5 (hk : k < 13) (hp9 : p < 12) : k2_getf 2 5 (hp s0 S) (.ref (adr s0 (17, k, p)) :: st) = some (hp s0 S, .int (S.1 (17, k, p) 5) :: st) := by
  unfold k2_getf
  simp only [hp_at (o := (17, k, p)) (by simp [oko, hk, hp9])]
  rfl
theorem pf_2_5 {v : Int32} (hk : k < 13) (hp9 : p < 12) : k2_putf 2 5 (hp s0 S) (.int v :: .ref (adr s0 (17, k, p)) :: st) = some (hp s0 (upI S (17, k, p) 5 v), st) := by
  refine pf_gen (o := (17, k, p)) (by simp [oko, hk, hp9]) rfl (Nat.le_of_ble_eq_true rfl) rfl ?_ celI
  simp [cel, upI]
theorem gf_2_6 (hk : k < 13) (hp9 : p < 12) : k2_getf 2 6 (hp s0 S) (.ref (adr s0 (17, k, p)) :: st) = some (hp s0 S, .int (S.1 (17, k, p) 6) :: st) := by
  unfold k2_getf
  simp only [hp_at (o := (17, k, p)) (by simp [oko, hk, hp9])]
  rfl
theorem pf_2_6 {v : Int32} (hk : k < 13) (hp9 : p < 12) : k2_putf 2 6 (hp s0 S) (.int v :: .ref (adr s0 (17, k, p)) :: st) = some (hp s0 (upI S (17, k, p) 6 v), st) := by
  refine pf_gen (o := (17, k, p)) (by simp [oko, hk, hp9]) rfl (Nat.le_of_ble_eq_true rfl) rfl ?_ celI
  simp [cel, upI]
theorem gf_2_7 (hk : k < 13) (hp9 : p < 12) : k2_getf 2 7 (hp s0 S) (.ref (adr s0 (17, k, p)) :: st) = some (hp s0 S, .int (S.1 (17, k, p) 7) :: st) := by
  unfold k2_getf
  simp only [hp_at (o := (17, k, p)) (by simp [oko, hk, hp9])]
  rfl
theorem pf_2_7 {v : Int32} (hk : k < 13) (hp9 : p < 12) : k2_putf 2 7 (hp s0 S) (.int v :: .ref (adr s0 (17, k, p)) :: st) = some (hp s0 (upI S (17, k, p) 7 v), st) := by
  refine pf_gen (o := (17, k, p)) (by simp [oko, hk, hp9]) rfl (Nat.le_of_ble_eq_true rfl) rfl ?_ celI
  simp [cel, upI]
theorem gf_2_8 (hk : k < 13) (hp9 : p < 12) : k2_getf 2 8 (hp s0 S) (.ref (adr s0 (17, k, p)) :: st) = some (hp s0 S, .int (S.1 (17, k, p) 8) :: st) := by
  unfold k2_getf
  simp only [hp_at (o := (17, k, p)) (by simp [oko, hk, hp9])]
  rfl
theorem pf_2_8 {v : Int32} (hk : k < 13) (hp9 : p < 12) : k2_putf 2 8 (hp s0 S) (.int v :: .ref (adr s0 (17, k, p)) :: st) = some (hp s0 (upI S (17, k, p) 8 v), st) := by
  refine pf_gen (o := (17, k, p)) (by simp [oko, hk, hp9]) rfl (Nat.le_of_ble_eq_true rfl) rfl ?_ celI
  simp [cel, upI]
theorem gf_2_9 (hk : k < 13) (hp9 : p < 12) : k2_getf 2 9 (hp s0 S) (.ref (adr s0 (17, k, p)) :: st) = some (hp s0 S, .int (S.1 (17, k, p) 9) :: st) := by
  unfold k2_getf
  simp only [hp_at (o := (17, k, p)) (by simp [oko, hk, hp9])]
  rfl
theorem pf_2_9 {v : Int32} (hk : k < 13) (hp9 : p < 12) : k2_putf 2 9 (hp s0 S) (.int v :: .ref (adr s0 (17, k, p)) :: st) = some (hp s0 (upI S (17, k, p) 9 v), st) := by
  refine pf_gen (o := (17, k, p)) (by simp [oko, hk, hp9]) rfl (Nat.le_of_ble_eq_true rfl) rfl ?_ celI
  simp [cel, upI]
theorem gf_2_10 (hk : k < 13) (hp9 : p < 12) : k2_getf 2 10 (hp s0 S) (.ref (adr s0 (17, k, p)) :: st) = some (hp s0 S, .int (S.1 (17, k, p) 10) :: st) := by
  unfold k2_getf
  simp only [hp_at (o := (17, k, p)) (by simp [oko, hk, hp9])]
  rfl
theorem pf_2_10 {v : Int32} (hk : k < 13) (hp9 : p < 12) : k2_putf 2 10 (hp s0 S) (.int v :: .ref (adr s0 (17, k, p)) :: st) = some (hp s0 (upI S (17, k, p) 10 v), st) := by
  refine pf_gen (o := (17, k, p)) (by simp [oko, hk, hp9]) rfl (Nat.le_of_ble_eq_true rfl) rfl ?_ celI
  simp [cel, upI]
theorem gf_2_11 (hk : k < 13) (hp9 : p < 12) : k2_getf 2 11 (hp s0 S) (.ref (adr s0 (17, k, p)) :: st) = some (hp s0 S, .int (S.1 (17, k, p) 11) :: st) := by
  unfold k2_getf
  simp only [hp_at (o := (17, k, p)) (by simp [oko, hk, hp9])]
  rfl
theorem pf_2_11 {v : Int32} (hk : k < 13) (hp9 : p < 12) (hv : v = 0 ∨ v = 1) : k2_putf 2 11 (hp s0 S) (.int v :: .ref (adr s0 (17, k, p)) :: st) = some (hp s0 (upI S (17, k, p) 11 v), st) := by
  refine pf_gen (o := (17, k, p)) (by simp [oko, hk, hp9]) rfl (Nat.le_of_ble_eq_true rfl) (by rcases hv with rfl | rfl <;> rfl) ?_ celI
  simp [cel, upI]
theorem gf_2_12 (hk : k < 13) (hp9 : p < 12) : k2_getf 2 12 (hp s0 S) (.ref (adr s0 (17, k, p)) :: st) = some (hp s0 S, .ref (adr s0 (18, k, p)) :: st) := by
  unfold k2_getf
  simp only [hp_at (o := (17, k, p)) (by simp [oko, hk, hp9])]
  rfl
theorem gf_2_13 (hk : k < 13) (hp9 : p < 12) : k2_getf 2 13 (hp s0 S) (.ref (adr s0 (17, k, p)) :: st) = some (hp s0 S, .ref (adr s0 (19, k, p)) :: st) := by
  unfold k2_getf
  simp only [hp_at (o := (17, k, p)) (by simp [oko, hk, hp9])]
  rfl
theorem gf_1_0 (hk : k < 13) : k2_getf 1 0 (hp s0 S) (.ref (adr s0 (12, k, 0)) :: st) = some (hp s0 S, .int (S.1 (12, k, 0) 0) :: st) := by
  unfold k2_getf
  simp only [hp_at (o := (12, k, 0)) (by simp [oko, hk])]
  rfl
theorem pf_1_0 {v : Int32} (hk : k < 13) : k2_putf 1 0 (hp s0 S) (.int v :: .ref (adr s0 (12, k, 0)) :: st) = some (hp s0 (upI S (12, k, 0) 0 v), st) := by
  refine pf_gen (o := (12, k, 0)) (by simp [oko, hk]) rfl (Nat.le_of_ble_eq_true rfl) rfl ?_ celI
  simp [cel, upI]
theorem gf_1_1 (hk : k < 13) : k2_getf 1 1 (hp s0 S) (.ref (adr s0 (12, k, 0)) :: st) = some (hp s0 S, .int (S.1 (12, k, 0) 1) :: st) := by
  unfold k2_getf
  simp only [hp_at (o := (12, k, 0)) (by simp [oko, hk])]
  rfl
theorem pf_1_1 {v : Int32} (hk : k < 13) : k2_putf 1 1 (hp s0 S) (.int v :: .ref (adr s0 (12, k, 0)) :: st) = some (hp s0 (upI S (12, k, 0) 1 v), st) := by
  refine pf_gen (o := (12, k, 0)) (by simp [oko, hk]) rfl (Nat.le_of_ble_eq_true rfl) rfl ?_ celI
  simp [cel, upI]
theorem gf_1_2 (hk : k < 13) : k2_getf 1 2 (hp s0 S) (.ref (adr s0 (12, k, 0)) :: st) = some (hp s0 S, .int (S.1 (12, k, 0) 2) :: st) := by
  unfold k2_getf
  simp only [hp_at (o := (12, k, 0)) (by simp [oko, hk])]
  rfl
theorem pf_1_2 {v : Int32} (hk : k < 13) : k2_putf 1 2 (hp s0 S) (.int v :: .ref (adr s0 (12, k, 0)) :: st) = some (hp s0 (upI S (12, k, 0) 2 v), st) := by
  refine pf_gen (o := (12, k, 0)) (by simp [oko, hk]) rfl (Nat.le_of_ble_eq_true rfl) rfl ?_ celI
  simp [cel, upI]
theorem gf_1_3 (hk : k < 13) : k2_getf 1 3 (hp s0 S) (.ref (adr s0 (12, k, 0)) :: st) = some (hp s0 S, .int (S.1 (12, k, 0) 3) :: st) := by
  unfold k2_getf
  simp only [hp_at (o := (12, k, 0)) (by simp [oko, hk])]
  rfl
theorem pf_1_3 {v : Int32} (hk : k < 13) : k2_putf 1 3 (hp s0 S) (.int v :: .ref (adr s0 (12, k, 0)) :: st) = some (hp s0 (upI S (12, k, 0) 3 v), st) := by
  refine pf_gen (o := (12, k, 0)) (by simp [oko, hk]) rfl (Nat.le_of_ble_eq_true rfl) rfl ?_ celI
  simp [cel, upI]
theorem gf_1_4 (hk : k < 13) : k2_getf 1 4 (hp s0 S) (.ref (adr s0 (12, k, 0)) :: st) = some (hp s0 S, .int (S.1 (12, k, 0) 4) :: st) := by
  unfold k2_getf
  simp only [hp_at (o := (12, k, 0)) (by simp [oko, hk])]
  rfl
theorem pf_1_4 {v : Int32} (hk : k < 13) : k2_putf 1 4 (hp s0 S) (.int v :: .ref (adr s0 (12, k, 0)) :: st) = some (hp s0 (upI S (12, k, 0) 4 v), st) := by
  refine pf_gen (o := (12, k, 0)) (by simp [oko, hk]) rfl (Nat.le_of_ble_eq_true rfl) rfl ?_ celI
  simp [cel, upI]
theorem gf_1_5 (hk : k < 13) : k2_getf 1 5 (hp s0 S) (.ref (adr s0 (12, k, 0)) :: st) = some (hp s0 S, .int (S.1 (12, k, 0) 5) :: st) := by
  unfold k2_getf
  simp only [hp_at (o := (12, k, 0)) (by simp [oko, hk])]
  rfl
theorem pf_1_5 {v : Int32} (hk : k < 13) : k2_putf 1 5 (hp s0 S) (.int v :: .ref (adr s0 (12, k, 0)) :: st) = some (hp s0 (upI S (12, k, 0) 5 v), st) := by
  refine pf_gen (o := (12, k, 0)) (by simp [oko, hk]) rfl (Nat.le_of_ble_eq_true rfl) rfl ?_ celI
  simp [cel, upI]
theorem gf_1_6 (hk : k < 13) : k2_getf 1 6 (hp s0 S) (.ref (adr s0 (12, k, 0)) :: st) = some (hp s0 S, .int (S.1 (12, k, 0) 6) :: st) := by
  unfold k2_getf
  simp only [hp_at (o := (12, k, 0)) (by simp [oko, hk])]
  rfl
theorem pf_1_6 {v : Int32} (hk : k < 13) : k2_putf 1 6 (hp s0 S) (.int v :: .ref (adr s0 (12, k, 0)) :: st) = some (hp s0 (upI S (12, k, 0) 6 v), st) := by
  refine pf_gen (o := (12, k, 0)) (by simp [oko, hk]) rfl (Nat.le_of_ble_eq_true rfl) rfl ?_ celI
  simp [cel, upI]
theorem gf_1_7 (hk : k < 13) : k2_getf 1 7 (hp s0 S) (.ref (adr s0 (12, k, 0)) :: st) = some (hp s0 S, .int (S.1 (12, k, 0) 7) :: st) := by
  unfold k2_getf
  simp only [hp_at (o := (12, k, 0)) (by simp [oko, hk])]
  rfl
theorem pf_1_7 {v : Int32} (hk : k < 13) : k2_putf 1 7 (hp s0 S) (.int v :: .ref (adr s0 (12, k, 0)) :: st) = some (hp s0 (upI S (12, k, 0) 7 v), st) := by
  refine pf_gen (o := (12, k, 0)) (by simp [oko, hk]) rfl (Nat.le_of_ble_eq_true rfl) rfl ?_ celI
  simp [cel, upI]
theorem gf_1_8 (hk : k < 13) : k2_getf 1 8 (hp s0 S) (.ref (adr s0 (12, k, 0)) :: st) = some (hp s0 S, .int (S.1 (12, k, 0) 8) :: st) := by
  unfold k2_getf
  simp only [hp_at (o := (12, k, 0)) (by simp [oko, hk])]
  rfl
theorem pf_1_8 {v : Int32} (hk : k < 13) (hv : v = 0 ∨ v = 1) : k2_putf 1 8 (hp s0 S) (.int v :: .ref (adr s0 (12, k, 0)) :: st) = some (hp s0 (upI S (12, k, 0) 8 v), st) := by
  refine pf_gen (o := (12, k, 0)) (by simp [oko, hk]) rfl (Nat.le_of_ble_eq_true rfl) (by rcases hv with rfl | rfl <;> rfl) ?_ celI
  simp [cel, upI]
theorem gf_1_9 (hk : k < 13) : k2_getf 1 9 (hp s0 S) (.ref (adr s0 (12, k, 0)) :: st) = some (hp s0 S, .int (S.1 (12, k, 0) 9) :: st) := by
  unfold k2_getf
  simp only [hp_at (o := (12, k, 0)) (by simp [oko, hk])]
  rfl
theorem pf_1_9 {v : Int32} (hk : k < 13) : k2_putf 1 9 (hp s0 S) (.int v :: .ref (adr s0 (12, k, 0)) :: st) = some (hp s0 (upI S (12, k, 0) 9 v), st) := by
  refine pf_gen (o := (12, k, 0)) (by simp [oko, hk]) rfl (Nat.le_of_ble_eq_true rfl) rfl ?_ celI
  simp [cel, upI]
theorem gf_1_10 (hk : k < 13) : k2_getf 1 10 (hp s0 S) (.ref (adr s0 (12, k, 0)) :: st) = some (hp s0 S, .int (S.1 (12, k, 0) 10) :: st) := by
  unfold k2_getf
  simp only [hp_at (o := (12, k, 0)) (by simp [oko, hk])]
  rfl
theorem pf_1_10 {v : Int32} (hk : k < 13) : k2_putf 1 10 (hp s0 S) (.int v :: .ref (adr s0 (12, k, 0)) :: st) = some (hp s0 (upI S (12, k, 0) 10 v), st) := by
  refine pf_gen (o := (12, k, 0)) (by simp [oko, hk]) rfl (Nat.le_of_ble_eq_true rfl) rfl ?_ celI
  simp [cel, upI]
theorem gf_1_11 (hk : k < 13) : k2_getf 1 11 (hp s0 S) (.ref (adr s0 (12, k, 0)) :: st) = some (hp s0 S, .ref (adr s0 (13, k, 0)) :: st) := by
  unfold k2_getf
  simp only [hp_at (o := (12, k, 0)) (by simp [oko, hk])]
  rfl
theorem gf_1_12 (hk : k < 13) : k2_getf 1 12 (hp s0 S) (.ref (adr s0 (12, k, 0)) :: st) = some (hp s0 S, .ref (adr s0 (14, k, 0)) :: st) := by
  unfold k2_getf
  simp only [hp_at (o := (12, k, 0)) (by simp [oko, hk])]
  rfl
theorem gf_1_13 (hk : k < 13) : k2_getf 1 13 (hp s0 S) (.ref (adr s0 (12, k, 0)) :: st) = some (hp s0 S, .ref (adr s0 (15, k, 0)) :: st) := by
  unfold k2_getf
  simp only [hp_at (o := (12, k, 0)) (by simp [oko, hk])]
  rfl
theorem al_sl {j : Int32} (hk : k < 13) (hp9 : p < 12) : k2_iald 0 0 (hp s0 S) (.int j :: .ref (adr s0 (18, k, p)) :: st) = if ¬ (j < 0 ∨ 6 ≤ j.toNatClampNeg) then some (hp s0 S, .int (S.1 (18, k, p) j.toNatClampNeg) :: st) else none := by
  unfold k2_iald
  simp only [ld_gen (o := (18, k, p)) (by simp [oko, hk, hp9]) rfl]
theorem as_sl {j : Int32} {v : Int32} (hk : k < 13) (hp9 : p < 12) : k2_iast 0 0 (hp s0 S) (.int v :: .int j :: .ref (adr s0 (18, k, p)) :: st) = if ¬ (j < 0 ∨ 6 ≤ j.toNatClampNeg) then some (hp s0 (upI S (18, k, p) j.toNatClampNeg v), st) else none := by
  unfold k2_iast
  simp only [ld_gen (o := (18, k, p)) (by simp [oko, hk, hp9]) rfl]
  by_cases hb : ¬ (j < 0 ∨ 6 ≤ j.toNatClampNeg)
  · rw [if_pos hb, if_pos hb]
    refine congrArg (fun h => some (h, st)) (hp_up (by simp [oko, hk, hp9]) ?_ celI)
    simp only [cel, upI_fun]
  · rw [if_neg hb, if_neg hb]
theorem al_ct {j : Int32} (hk : k < 13) (hp9 : p < 12) : k2_lald 0 0 (hp s0 S) (.int j :: .ref (adr s0 (19, k, p)) :: st) = if ¬ (j < 0 ∨ 8 ≤ j.toNatClampNeg) then some (hp s0 S, .long (S.2.1 (19, k, p) j.toNatClampNeg) :: st) else none := by
  unfold k2_lald
  simp only [ld_gen (o := (19, k, p)) (by simp [oko, hk, hp9]) rfl]
theorem as_ct {j : Int32} {v : Int64} (hk : k < 13) (hp9 : p < 12) : k2_last 0 0 (hp s0 S) (.long v :: .int j :: .ref (adr s0 (19, k, p)) :: st) = if ¬ (j < 0 ∨ 8 ≤ j.toNatClampNeg) then some (hp s0 (upJ S (19, k, p) j.toNatClampNeg v), st) else none := by
  unfold k2_last
  simp only [ld_gen (o := (19, k, p)) (by simp [oko, hk, hp9]) rfl]
  by_cases hb : ¬ (j < 0 ∨ 8 ≤ j.toNatClampNeg)
  · rw [if_pos hb, if_pos hb]
    refine congrArg (fun h => some (h, st)) (hp_up (by simp [oko, hk, hp9]) ?_ celJ)
    simp only [cel, upJ_fun]
  · rw [if_neg hb, if_neg hb]
theorem al_hr {j : Int32} (hk : k < 13) : k2_iald 0 0 (hp s0 S) (.int j :: .ref (adr s0 (15, k, 0)) :: st) = if ¬ (j < 0 ∨ 144 ≤ j.toNatClampNeg) then some (hp s0 S, .int (S.1 (15, k, 0) j.toNatClampNeg) :: st) else none := by
  unfold k2_iald
  simp only [ld_gen (o := (15, k, 0)) (by simp [oko, hk]) rfl]
theorem as_hr {j : Int32} {v : Int32} (hk : k < 13) : k2_iast 0 0 (hp s0 S) (.int v :: .int j :: .ref (adr s0 (15, k, 0)) :: st) = if ¬ (j < 0 ∨ 144 ≤ j.toNatClampNeg) then some (hp s0 (upI S (15, k, 0) j.toNatClampNeg v), st) else none := by
  unfold k2_iast
  simp only [ld_gen (o := (15, k, 0)) (by simp [oko, hk]) rfl]
  by_cases hb : ¬ (j < 0 ∨ 144 ≤ j.toNatClampNeg)
  · rw [if_pos hb, if_pos hb]
    refine congrArg (fun h => some (h, st)) (hp_up (by simp [oko, hk]) ?_ celI)
    simp only [cel, upI_fun]
  · rw [if_neg hb, if_neg hb]
theorem al_tx {j : Int32}  : k2_bald 0 0 (hp s0 S) (.int j :: .ref (adr s0 (2, 0, 0)) :: st) = if ¬ (j < 0 ∨ 700 ≤ j.toNatClampNeg) then some (hp s0 S, .int (S.1 (2, 0, 0) j.toNatClampNeg) :: st) else none := by
  unfold k2_bald
  simp only [ld_gen (o := (2, 0, 0)) (by simp [oko]) rfl]
theorem as_tx {j : Int32} {v : Int32}  : k2_bast 0 0 (hp s0 S) (.int v :: .int j :: .ref (adr s0 (2, 0, 0)) :: st) = if ¬ (j < 0 ∨ 700 ≤ j.toNatClampNeg) then some (hp s0 (upI S (2, 0, 0) j.toNatClampNeg (vp_nar .byte v)), st) else none := by
  unfold k2_bast
  simp only [ld_gen (o := (2, 0, 0)) (by simp [oko]) rfl]
  by_cases hb : ¬ (j < 0 ∨ 700 ≤ j.toNatClampNeg)
  · rw [if_pos hb, if_pos hb]
    refine congrArg (fun h => some (h, st)) (hp_up (by simp [oko]) ?_ celI)
    simp only [cel, upI_fun]
  · rw [if_neg hb, if_neg hb]
theorem al_rb {j : Int32}  : k2_bald 0 0 (hp s0 S) (.int j :: .ref (adr s0 (4, 0, 0)) :: st) = if ¬ (j < 0 ∨ 500 ≤ j.toNatClampNeg) then some (hp s0 S, .int (S.1 (4, 0, 0) j.toNatClampNeg) :: st) else none := by
  unfold k2_bald
  simp only [ld_gen (o := (4, 0, 0)) (by simp [oko]) rfl]
theorem as_rb {j : Int32} {v : Int32}  : k2_bast 0 0 (hp s0 S) (.int v :: .int j :: .ref (adr s0 (4, 0, 0)) :: st) = if ¬ (j < 0 ∨ 500 ≤ j.toNatClampNeg) then some (hp s0 (upI S (4, 0, 0) j.toNatClampNeg (vp_nar .byte v)), st) else none := by
  unfold k2_bast
  simp only [ld_gen (o := (4, 0, 0)) (by simp [oko]) rfl]
  by_cases hb : ¬ (j < 0 ∨ 500 ≤ j.toNatClampNeg)
  · rw [if_pos hb, if_pos hb]
    refine congrArg (fun h => some (h, st)) (hp_up (by simp [oko]) ?_ celI)
    simp only [cel, upI_fun]
  · rw [if_neg hb, if_neg hb]
theorem al_sv {j : Int32}  : k2_zald 0 0 (hp s0 S) (.int j :: .ref (adr s0 (7, 0, 0)) :: st) = if ¬ (j < 0 ∨ 2 ≤ j.toNatClampNeg) then some (hp s0 S, .int (S.1 (7, 0, 0) j.toNatClampNeg) :: st) else none := by
  unfold k2_zald
  simp only [ld_gen (o := (7, 0, 0)) (by simp [oko]) rfl]
theorem as_sv {j : Int32} {v : Int32}  : k2_zast 0 0 (hp s0 S) (.int v :: .int j :: .ref (adr s0 (7, 0, 0)) :: st) = if ¬ (j < 0 ∨ 2 ≤ j.toNatClampNeg) then some (hp s0 (upI S (7, 0, 0) j.toNatClampNeg (vp_nar .boolean v)), st) else none := by
  unfold k2_zast
  simp only [ld_gen (o := (7, 0, 0)) (by simp [oko]) rfl]
  by_cases hb : ¬ (j < 0 ∨ 2 ≤ j.toNatClampNeg)
  · rw [if_pos hb, if_pos hb]
    refine congrArg (fun h => some (h, st)) (hp_up (by simp [oko]) ?_ celI)
    simp only [cel, upI_fun]
  · rw [if_neg hb, if_neg hb]
theorem al_out {j : Int32}  : k2_lald 0 0 (hp s0 S) (.int j :: .ref (adr s0 (9, 0, 0)) :: st) = if ¬ (j < 0 ∨ 1 ≤ j.toNatClampNeg) then some (hp s0 S, .long (S.2.1 (9, 0, 0) j.toNatClampNeg) :: st) else none := by
  unfold k2_lald
  simp only [ld_gen (o := (9, 0, 0)) (by simp [oko]) rfl]
theorem as_out {j : Int32} {v : Int64}  : k2_last 0 0 (hp s0 S) (.long v :: .int j :: .ref (adr s0 (9, 0, 0)) :: st) = if ¬ (j < 0 ∨ 1 ≤ j.toNatClampNeg) then some (hp s0 (upJ S (9, 0, 0) j.toNatClampNeg v), st) else none := by
  unfold k2_last
  simp only [ld_gen (o := (9, 0, 0)) (by simp [oko]) rfl]
  by_cases hb : ¬ (j < 0 ∨ 1 ≤ j.toNatClampNeg)
  · rw [if_pos hb, if_pos hb]
    refine congrArg (fun h => some (h, st)) (hp_up (by simp [oko]) ?_ celJ)
    simp only [cel, upJ_fun]
  · rw [if_neg hb, if_neg hb]
theorem al_od {j : Int32}  : k2_dald 0 0 (hp s0 S) (.int j :: .ref (adr s0 (10, 0, 0)) :: st) = if ¬ (j < 0 ∨ 1 ≤ j.toNatClampNeg) then some (hp s0 S, .double (S.2.2 j.toNatClampNeg) :: st) else none := by
  unfold k2_dald
  simp only [ld_gen (o := (10, 0, 0)) (by simp [oko]) rfl]
theorem al_ha {j : Int32} (hk : k < 13) : k2_aald5 0 0 (hp s0 S) (.int j :: .ref (adr s0 (13, k, 0)) :: st) = if ¬ (j < 0 ∨ 6 ≤ j.toNatClampNeg) then some (hp s0 S, .ref (adr s0 (16, k, j.toNatClampNeg)) :: st) else none := by
  unfold k2_aald5
  simp only [ld_gen (o := (13, k, 0)) (by simp [oko, hk]) rfl]
  by_cases hb : ¬ (j < 0 ∨ 6 ≤ j.toNatClampNeg)
  · rw [if_pos hb, if_pos hb]
    have hl : j.toNatClampNeg < 6 := Nat.not_le.mp fun q => hb (Or.inr q)
    simp only [if_pos hl, va_rf]
  · rw [if_neg hb, if_neg hb]
theorem al_pa {j : Int32} (hk : k < 13) : k2_aald6 0 0 (hp s0 S) (.int j :: .ref (adr s0 (14, k, 0)) :: st) = if ¬ (j < 0 ∨ 12 ≤ j.toNatClampNeg) then some (hp s0 S, .ref (adr s0 (17, k, j.toNatClampNeg)) :: st) else none := by
  unfold k2_aald6
  simp only [ld_gen (o := (14, k, 0)) (by simp [oko, hk]) rfl]
  by_cases hb : ¬ (j < 0 ∨ 12 ≤ j.toNatClampNeg)
  · rw [if_pos hb, if_pos hb]
    have hl : j.toNatClampNeg < 12 := Nat.not_le.mp fun q => hb (Or.inr q)
    simp only [if_pos hl, va_rf]
  · rw [if_neg hb, if_neg hb]
theorem al_ps {j : Int32}  : k2_aald7 0 0 (hp s0 S) (.int j :: .ref (adr s0 (5, 0, 0)) :: st) = if ¬ (j < 0 ∨ 8 ≤ j.toNatClampNeg) then some (hp s0 S, .ref (adr s0 (12, 3 + j.toNatClampNeg, 0)) :: st) else none := by
  unfold k2_aald7
  simp only [ld_gen (o := (5, 0, 0)) (by simp [oko]) rfl]
  by_cases hb : ¬ (j < 0 ∨ 8 ≤ j.toNatClampNeg)
  · rw [if_pos hb, if_pos hb]
    have hl : j.toNatClampNeg < 8 := Nat.not_le.mp fun q => hb (Or.inr q)
    simp only [if_pos hl, va_rf]
  · rw [if_neg hb, if_neg hb]
theorem al_sn {j : Int32}  : k2_aald7 0 0 (hp s0 S) (.int j :: .ref (adr s0 (6, 0, 0)) :: st) = if ¬ (j < 0 ∨ 2 ≤ j.toNatClampNeg) then some (hp s0 S, .ref (adr s0 (12, 11 + j.toNatClampNeg, 0)) :: st) else none := by
  unfold k2_aald7
  simp only [ld_gen (o := (6, 0, 0)) (by simp [oko]) rfl]
  by_cases hb : ¬ (j < 0 ∨ 2 ≤ j.toNatClampNeg)
  · rw [if_pos hb, if_pos hb]
    have hl : j.toNatClampNeg < 2 := Nat.not_le.mp fun q => hb (Or.inr q)
    simp only [if_pos hl, va_rf]
  · rw [if_neg hb, if_neg hb]
theorem al_ai {j : Int32} (hi : i < 16) (ht : (arL.getD i (0, 0)).1 = 0) : k2_iald 0 0 (hp s0 S) (.int j :: .ref (adr s0 (11, i, 0)) :: st) = if ¬ (j < 0 ∨ (arL.getD i (0, 0)).2 ≤ j.toNatClampNeg) then some (hp s0 S, .int (S.1 (11, i, 0) j.toNatClampNeg) :: st) else none := by
  unfold k2_iald
  simp only [ld_gen (o := (11, i, 0)) (by simp [oko, hi]) (t := 0) (n := (arL.getD i (0, 0)).2) (x := .inl (S.1 (11, i, 0))) (by simp only [cel]; rw [if_neg (by rw [ht]; decide), ht])]
theorem as_ai {j : Int32} {v : Int32} (hi : i < 16) (ht : (arL.getD i (0, 0)).1 = 0) : k2_iast 0 0 (hp s0 S) (.int v :: .int j :: .ref (adr s0 (11, i, 0)) :: st) = if ¬ (j < 0 ∨ (arL.getD i (0, 0)).2 ≤ j.toNatClampNeg) then some (hp s0 (upI S (11, i, 0) j.toNatClampNeg v), st) else none := by
  unfold k2_iast
  simp only [ld_gen (o := (11, i, 0)) (by simp [oko, hi]) (t := 0) (n := (arL.getD i (0, 0)).2) (x := .inl (S.1 (11, i, 0))) (by simp only [cel]; rw [if_neg (by rw [ht]; decide), ht])]
  by_cases hb : ¬ (j < 0 ∨ (arL.getD i (0, 0)).2 ≤ j.toNatClampNeg)
  · rw [if_pos hb, if_pos hb]
    refine congrArg (fun h => some (h, st)) (hp_up (by simp [oko, hi]) ?_ celI)
    simp only [cel, upI_fun]
    rw [if_neg (by rw [ht]; decide), ht]
  · rw [if_neg hb, if_neg hb]
theorem al_az {j : Int32} (hi : i < 16) (ht : (arL.getD i (0, 0)).1 = 3) : k2_zald 0 0 (hp s0 S) (.int j :: .ref (adr s0 (11, i, 0)) :: st) = if ¬ (j < 0 ∨ (arL.getD i (0, 0)).2 ≤ j.toNatClampNeg) then some (hp s0 S, .int (S.1 (11, i, 0) j.toNatClampNeg) :: st) else none := by
  unfold k2_zald
  simp only [ld_gen (o := (11, i, 0)) (by simp [oko, hi]) (t := 3) (n := (arL.getD i (0, 0)).2) (x := .inl (S.1 (11, i, 0))) (by simp only [cel]; rw [if_neg (by rw [ht]; decide), ht])]
theorem as_az {j : Int32} {v : Int32} (hi : i < 16) (ht : (arL.getD i (0, 0)).1 = 3) : k2_zast 0 0 (hp s0 S) (.int v :: .int j :: .ref (adr s0 (11, i, 0)) :: st) = if ¬ (j < 0 ∨ (arL.getD i (0, 0)).2 ≤ j.toNatClampNeg) then some (hp s0 (upI S (11, i, 0) j.toNatClampNeg (vp_nar .boolean v)), st) else none := by
  unfold k2_zast
  simp only [ld_gen (o := (11, i, 0)) (by simp [oko, hi]) (t := 3) (n := (arL.getD i (0, 0)).2) (x := .inl (S.1 (11, i, 0))) (by simp only [cel]; rw [if_neg (by rw [ht]; decide), ht])]
  by_cases hb : ¬ (j < 0 ∨ (arL.getD i (0, 0)).2 ≤ j.toNatClampNeg)
  · rw [if_pos hb, if_pos hb]
    refine congrArg (fun h => some (h, st)) (hp_up (by simp [oko, hi]) ?_ celI)
    simp only [cel, upI_fun]
    rw [if_neg (by rw [ht]; decide), ht]
  · rw [if_neg hb, if_neg hb]
theorem al_aj {j : Int32} (hi : i < 16) (ht : (arL.getD i (0, 0)).1 = 1) : k2_lald 0 0 (hp s0 S) (.int j :: .ref (adr s0 (11, i, 0)) :: st) = if ¬ (j < 0 ∨ (arL.getD i (0, 0)).2 ≤ j.toNatClampNeg) then some (hp s0 S, .long (S.2.1 (11, i, 0) j.toNatClampNeg) :: st) else none := by
  unfold k2_lald
  simp only [ld_gen (o := (11, i, 0)) (by simp [oko, hi]) (t := 1) (n := (arL.getD i (0, 0)).2) (x := .inr (.inl (S.2.1 (11, i, 0)))) (by simp only [cel]; rw [if_pos ht])]
theorem as_aj {j : Int32} {v : Int64} (hi : i < 16) (ht : (arL.getD i (0, 0)).1 = 1) : k2_last 0 0 (hp s0 S) (.long v :: .int j :: .ref (adr s0 (11, i, 0)) :: st) = if ¬ (j < 0 ∨ (arL.getD i (0, 0)).2 ≤ j.toNatClampNeg) then some (hp s0 (upJ S (11, i, 0) j.toNatClampNeg v), st) else none := by
  unfold k2_last
  simp only [ld_gen (o := (11, i, 0)) (by simp [oko, hi]) (t := 1) (n := (arL.getD i (0, 0)).2) (x := .inr (.inl (S.2.1 (11, i, 0)))) (by simp only [cel]; rw [if_pos ht])]
  by_cases hb : ¬ (j < 0 ∨ (arL.getD i (0, 0)).2 ≤ j.toNatClampNeg)
  · rw [if_pos hb, if_pos hb]
    refine congrArg (fun h => some (h, st)) (hp_up (by simp [oko, hi]) ?_ celJ)
    simp only [cel, upJ_fun]
    rw [if_pos ht]
  · rw [if_neg hb, if_neg hb]
theorem ln_hr (hk : k < 13) : k2_alen 0 0 (hp s0 S) (.ref (adr s0 (15, k, 0)) :: st) = some (hp s0 S, .int (Int32.ofNat 144) :: st) := by
  unfold k2_alen
  simp only [ld_gen (o := (15, k, 0)) (by simp [oko, hk]) rfl]
  rfl
theorem kv_rs {q : Option xR}  : kV (hp s0 S) (adr s0 (0, 0, 0)) 5 q = q := by
  unfold kV
  rw [hp_at (o := (0, 0, 0)) (by simp [oko])]
  rfl
theorem kv_tr {q : Option xR}  : kV (hp s0 S) (adr s0 (1, 0, 0)) 4 q = q := by
  unfold kV
  rw [hp_at (o := (1, 0, 0)) (by simp [oko])]
  rfl
theorem kv_rp {q : Option xR}  : kV (hp s0 S) (adr s0 (3, 0, 0)) 3 q = q := by
  unfold kV
  rw [hp_at (o := (3, 0, 0)) (by simp [oko])]
  rfl
theorem kv_md {q : Option xR}  : kV (hp s0 S) (adr s0 (8, 0, 0)) 6 q = q := by
  unfold kV
  rw [hp_at (o := (8, 0, 0)) (by simp [oko])]
  rfl
theorem kv_lk {q : Option xR} (hk : k < 13) : kV (hp s0 S) (adr s0 (12, k, 0)) 1 q = q := by
  unfold kV
  rw [hp_at (o := (12, k, 0)) (by simp [oko, hk])]
  rfl
theorem kv_hh {q : Option xR} (hk : k < 13) (hi : i < 6) : kV (hp s0 S) (adr s0 (16, k, i)) 0 q = q := by
  unfold kV
  rw [hp_at (o := (16, k, i)) (by simp [oko, hk, hi])]
  rfl
theorem kv_pg {q : Option xR} (hk : k < 13) (hp9 : p < 12) : kV (hp s0 S) (adr s0 (17, k, p)) 2 q = q := by
  unfold kV
  rw [hp_at (o := (17, k, p)) (by simp [oko, hk, hp9])]
  rfl
end GF
