/-! THE HEAP'S SHAPE: cells 0 .. 24 are EvenSteps and what it makes at once, 25 .. 49 the model; D: what is made later. XI, MI: ints; XA, MA: rows of ints; ML: rows of longs; XP: rows of references; XC: the circle's slope. Written by wip/whole/shp.py. -/
-- XI: 0 slopeCount, 1 rowCount, 2 latestStatus, 3 trace.size, 4 clashLength, 5 clashFirst, 6 clashOther, 7 lowAbove, 8 lowBelow, 9 highAbove, 10 highBelow, 11 size, 12 least, 13 most, 14 sorts, 15 sheet0.sort, 16 sheet0.size, 17 sheet1.sort, 18 sheet1.size, 19 sheet2.sort, 20 sheet2.size, 21 sheet3.sort, 22 sheet3.size
-- XA: 0 trace numbers, 1 sums, 2 next, 3 counts, 4 wholes, 5 times, 6 order, 7 turns, 8 partSteps, 9 partStarts, 10 .. 13 the numbers of the sheets; XP: 0 slopes, 1 rows
-- MI: 0 slopes, 1 rows, 2 status, 3 bodies, 4 quotientN, 5 lineN, 6 nearerN, 7 sorts, 8 paired; MA: 0 sA, 1 sB, 2 sC, 3 sD, 4 kind, 5 size, 6 slopeOf, 7 steps, 8 sheetSort, 9 sheetSize, 10 sheetCell, 11 traced, 12 nearers, 13 ring, 14 whole, 15 gapX, 16 gapY, 17 sortX, 18 sortY, 19 sortN, 20 sortLow, 21 partner; ML: 0 quotients, 1 lines
def hp_sh : Nat → Option Nat
  | 0 => some 18
  | 1 => some 20
  | 2 => some 22
  | 3 => some 24
  | _ => none
def hp (XI : Nat → Int32) (XA : Nat → Nat → Int32) (XP : Nat → Nat → Option Nat) (XC : Value) (MI : Nat → Int32) (MA : Nat → Nat → Int32) (ML : Nat → Nat → Int64) (D : en_H) : en_H :=
  .inr (10, [.ref 2, .ref 3, .ref 4, .ref 5, .ref 7, .ref 9, .ref 16, .ref 17, .int (XI 0), .int (XI 1), .int (XI 2)]) ::
  .inl (2, 8, .inr (.inr (.inr (.inr (XP 0))))) ::
  .inl (3, 10, .inr (.inr (.inr (.inr (XP 1))))) ::
  .inl (4, 4, .inr (.inr (.inr (.inr hp_sh)))) ::
  .inr (9, [.ref 6, .int (XI 3)]) ::
  .inl (0, 50, .inl (XA 0)) ::
  .inr (7, [.int (XI 4), .int (XI 5), .int (XI 6), .int (XI 7), .int (XI 8), .int (XI 9), .int (XI 10), .ref 8, .int (XI 11), .int (XI 12), .int (XI 13)]) ::
  .inl (0, 41, .inl (XA 1)) ::
  .inr (0, [.ref 10, .ref 11, .ref 12, .ref 13, .int (XI 14), .ref 14, .ref 15, XC]) ::
  .inl (0, 60, .inl (XA 2)) ::
  .inl (0, 60, .inl (XA 3)) ::
  .inl (0, 60, .inl (XA 4)) ::
  .inl (0, 60, .inl (XA 5)) ::
  .inl (0, 60, .inl (XA 6)) ::
  .inl (0, 60, .inl (XA 7)) ::
  .inl (0, 212, .inl (XA 8)) ::
  .inl (0, 200, .inl (XA 9)) ::
  .inr (5, [.ref 19, .int (XI 15), .int (XI 16)]) ::
  .inl (0, 40, .inl (XA 10)) ::
  .inr (5, [.ref 21, .int (XI 17), .int (XI 18)]) ::
  .inl (0, 40, .inl (XA 11)) ::
  .inr (5, [.ref 23, .int (XI 19), .int (XI 20)]) ::
  .inl (0, 40, .inl (XA 12)) ::
  .inr (5, [.ref 25, .int (XI 21), .int (XI 22)]) ::
  .inl (0, 40, .inl (XA 13)) ::
  .inr (11, [.int (MI 0), .int (MI 1), .int (MI 2), .ref 27, .ref 28, .ref 29, .ref 30, .ref 31, .ref 32, .ref 33, .ref 34, .ref 35, .ref 36, .ref 37, .ref 38, .int (MI 3), .ref 39, .ref 40, .int (MI 4), .int (MI 5), .ref 41, .int (MI 6), .ref 42, .ref 43, .ref 44, .ref 45, .ref 46, .ref 47, .ref 48, .ref 49, .int (MI 7), .ref 50, .int (MI 8)]) ::
  .inl (0, 8, .inl (MA 0)) ::
  .inl (0, 8, .inl (MA 1)) ::
  .inl (0, 8, .inl (MA 2)) ::
  .inl (0, 8, .inl (MA 3)) ::
  .inl (0, 10, .inl (MA 4)) ::
  .inl (0, 10, .inl (MA 5)) ::
  .inl (0, 10, .inl (MA 6)) ::
  .inl (0, 100010, .inl (MA 7)) ::
  .inl (0, 4, .inl (MA 8)) ::
  .inl (0, 4, .inl (MA 9)) ::
  .inl (0, 160, .inl (MA 10)) ::
  .inl (0, 60, .inl (MA 11)) ::
  .inl (1, 20, .inr (.inl (ML 0))) ::
  .inl (1, 24, .inr (.inl (ML 1))) ::
  .inl (0, 2001, .inl (MA 12)) ::
  .inl (0, 60, .inl (MA 13)) ::
  .inl (0, 60, .inl (MA 14)) ::
  .inl (0, 60, .inl (MA 15)) ::
  .inl (0, 60, .inl (MA 16)) ::
  .inl (0, 60, .inl (MA 17)) ::
  .inl (0, 60, .inl (MA 18)) ::
  .inl (0, 60, .inl (MA 19)) ::
  .inl (0, 60, .inl (MA 20)) ::
  .inl (0, 2001, .inl (MA 21)) :: D
def en_mq {ρ : Type} (o : Option Nat) (f0 : Option ρ) (f : Nat → Option ρ) : Option ρ := match o with
  | some q => f q
  | none => f0
theorem en_if3 {α : Type} {t : Nat} {c : Prop} [Decidable c] (ht : t < 3) (a b : α) : (if t < 3 ∧ c then a else b) = if c then a else b := by simp [ht]
section HP
variable {ρ : Type} (sc : en_S) (XI : Nat → Int32) (XA : Nat → Nat → Int32) (XP : Nat → Nat → Option Nat) (XC : Value) (MI : Nat → Int32) (MA : Nat → Nat → Int32) (ML : Nat → Nat → Int64) (D : en_H)
theorem hp_cc_1 (g : Nat → Option ρ) : en_cc (hp XI XA XP XC MI MA ML D) 1 g = g 10 := rfl
theorem hp_g_1_0 (f0 : Option ρ) (f : Nat → Option ρ) : en_gA (hp XI XA XP XC MI MA ML D) 1 [(10, 0)] 0 f0 f = f 2 := rfl
theorem hp_g_1_1 (f0 : Option ρ) (f : Nat → Option ρ) : en_gA (hp XI XA XP XC MI MA ML D) 1 [(10, 0)] 1 f0 f = f 3 := rfl
theorem hp_g_1_2 (f0 : Option ρ) (f : Nat → Option ρ) : en_gA (hp XI XA XP XC MI MA ML D) 1 [(10, 0)] 2 f0 f = f 4 := rfl
theorem hp_g_1_3 (f0 : Option ρ) (f : Nat → Option ρ) : en_gA (hp XI XA XP XC MI MA ML D) 1 [(10, 0)] 3 f0 f = f 5 := rfl
theorem hp_g_1_4 (f0 : Option ρ) (f : Nat → Option ρ) : en_gA (hp XI XA XP XC MI MA ML D) 1 [(10, 0)] 4 f0 f = f 7 := rfl
theorem hp_g_1_5 (f0 : Option ρ) (f : Nat → Option ρ) : en_gA (hp XI XA XP XC MI MA ML D) 1 [(10, 0)] 5 f0 f = f 9 := rfl
theorem hp_g_1_6 (f0 : Option ρ) (f : Nat → Option ρ) : en_gA (hp XI XA XP XC MI MA ML D) 1 [(10, 0)] 6 f0 f = f 16 := rfl
theorem hp_g_1_7 (f0 : Option ρ) (f : Nat → Option ρ) : en_gA (hp XI XA XP XC MI MA ML D) 1 [(10, 0)] 7 f0 f = f 17 := rfl
theorem hp_g_1_8 (f : Int32 → Option ρ) : en_gI (hp XI XA XP XC MI MA ML D) 1 [(10, 0)] 8 f = f (XI 0) := rfl
theorem hp_p_1_8 (v : Int32) (f : en_H → Option ρ) : en_pf (hp XI XA XP XC MI MA ML D) 1 [(10, 0)] 8 (.int v) f = f (hp (va_up XI 0 v) XA XP XC MI MA ML D) := rfl
theorem hp_g_1_9 (f : Int32 → Option ρ) : en_gI (hp XI XA XP XC MI MA ML D) 1 [(10, 0)] 9 f = f (XI 1) := rfl
theorem hp_p_1_9 (v : Int32) (f : en_H → Option ρ) : en_pf (hp XI XA XP XC MI MA ML D) 1 [(10, 0)] 9 (.int v) f = f (hp (va_up XI 1 v) XA XP XC MI MA ML D) := rfl
theorem hp_g_1_10 (f : Int32 → Option ρ) : en_gI (hp XI XA XP XC MI MA ML D) 1 [(10, 0)] 10 f = f (XI 2) := rfl
theorem hp_p_1_10 (v : Int32) (f : en_H → Option ρ) : en_pf (hp XI XA XP XC MI MA ML D) 1 [(10, 0)] 10 (.int v) f = f (hp (va_up XI 2 v) XA XP XC MI MA ML D) := rfl
theorem hp_a_2 (i : Int32) (f0 : Option ρ) (f : Nat → Option ρ) : en_aA (hp XI XA XP XC MI MA ML D) 2 i f0 f = if en_ix i 8 then en_mq (XP 0 i.toNatClampNeg) f0 f else none := en_if3 (t := 0) (by decide) _ _
theorem hp_n_2 (i : Int32) (f : en_H → Option ρ) : en_sN (hp XI XA XP XC MI MA ML D) 2 i f = if en_ix i 8 then f (hp XI XA (va_up XP 0 (va_up (XP 0) i.toNatClampNeg none)) XC MI MA ML D) else none := en_if3 (t := 0) (by decide) _ _
theorem hp_a_3 (i : Int32) (f0 : Option ρ) (f : Nat → Option ρ) : en_aA (hp XI XA XP XC MI MA ML D) 3 i f0 f = if en_ix i 10 then en_mq (XP 1 i.toNatClampNeg) f0 f else none := en_if3 (t := 1) (by decide) _ _
theorem hp_n_3 (i : Int32) (f : en_H → Option ρ) : en_sN (hp XI XA XP XC MI MA ML D) 3 i f = if en_ix i 10 then f (hp XI XA (va_up XP 1 (va_up (XP 1) i.toNatClampNeg none)) XC MI MA ML D) else none := en_if3 (t := 1) (by decide) _ _
theorem hp_a_4 (i : Int32) (f0 : Option ρ) (f : Nat → Option ρ) : en_aA (hp XI XA XP XC MI MA ML D) 4 i f0 f = if en_ix i 4 then en_mq (hp_sh i.toNatClampNeg) f0 f else none := en_if3 (t := 2) (by decide) _ _
theorem hp_cc_5 (g : Nat → Option ρ) : en_cc (hp XI XA XP XC MI MA ML D) 5 g = g 9 := rfl
theorem hp_g_5_0 (f0 : Option ρ) (f : Nat → Option ρ) : en_gA (hp XI XA XP XC MI MA ML D) 5 [(9, 0)] 0 f0 f = f 6 := rfl
theorem hp_g_5_1 (f : Int32 → Option ρ) : en_gI (hp XI XA XP XC MI MA ML D) 5 [(9, 0)] 1 f = f (XI 3) := rfl
theorem hp_p_5_1 (v : Int32) (f : en_H → Option ρ) : en_pf (hp XI XA XP XC MI MA ML D) 5 [(9, 0)] 1 (.int v) f = f (hp (va_up XI 3 v) XA XP XC MI MA ML D) := rfl
theorem hp_a_6 (i : Int32) (f : Int32 → Option ρ) : en_aI sc (hp XI XA XP XC MI MA ML D) 6 i f = if en_ix i 50 then f (XA 0 i.toNatClampNeg) else none := rfl
theorem hp_s_6 (i x : Int32) (f : en_H → Option ρ) : en_sI (hp XI XA XP XC MI MA ML D) 6 i x f = if en_ix i 50 then f (hp XI (va_up XA 0 (upd (XA 0) i.toNatClampNeg x)) XP XC MI MA ML D) else none := rfl
theorem hp_l_6 (f : Int32 → Option ρ) : en_ln sc (hp XI XA XP XC MI MA ML D) 6 f = f (Int32.ofNat 50) := rfl
theorem hp_cc_7 (g : Nat → Option ρ) : en_cc (hp XI XA XP XC MI MA ML D) 7 g = g 7 := rfl
theorem hp_g_7_0 (f : Int32 → Option ρ) : en_gI (hp XI XA XP XC MI MA ML D) 7 [(7, 0)] 0 f = f (XI 4) := rfl
theorem hp_p_7_0 (v : Int32) (f : en_H → Option ρ) : en_pf (hp XI XA XP XC MI MA ML D) 7 [(7, 0)] 0 (.int v) f = f (hp (va_up XI 4 v) XA XP XC MI MA ML D) := rfl
theorem hp_g_7_1 (f : Int32 → Option ρ) : en_gI (hp XI XA XP XC MI MA ML D) 7 [(7, 0)] 1 f = f (XI 5) := rfl
theorem hp_p_7_1 (v : Int32) (f : en_H → Option ρ) : en_pf (hp XI XA XP XC MI MA ML D) 7 [(7, 0)] 1 (.int v) f = f (hp (va_up XI 5 v) XA XP XC MI MA ML D) := rfl
theorem hp_g_7_2 (f : Int32 → Option ρ) : en_gI (hp XI XA XP XC MI MA ML D) 7 [(7, 0)] 2 f = f (XI 6) := rfl
theorem hp_p_7_2 (v : Int32) (f : en_H → Option ρ) : en_pf (hp XI XA XP XC MI MA ML D) 7 [(7, 0)] 2 (.int v) f = f (hp (va_up XI 6 v) XA XP XC MI MA ML D) := rfl
theorem hp_g_7_3 (f : Int32 → Option ρ) : en_gI (hp XI XA XP XC MI MA ML D) 7 [(7, 0)] 3 f = f (XI 7) := rfl
theorem hp_p_7_3 (v : Int32) (f : en_H → Option ρ) : en_pf (hp XI XA XP XC MI MA ML D) 7 [(7, 0)] 3 (.int v) f = f (hp (va_up XI 7 v) XA XP XC MI MA ML D) := rfl
theorem hp_g_7_4 (f : Int32 → Option ρ) : en_gI (hp XI XA XP XC MI MA ML D) 7 [(7, 0)] 4 f = f (XI 8) := rfl
theorem hp_p_7_4 (v : Int32) (f : en_H → Option ρ) : en_pf (hp XI XA XP XC MI MA ML D) 7 [(7, 0)] 4 (.int v) f = f (hp (va_up XI 8 v) XA XP XC MI MA ML D) := rfl
theorem hp_g_7_5 (f : Int32 → Option ρ) : en_gI (hp XI XA XP XC MI MA ML D) 7 [(7, 0)] 5 f = f (XI 9) := rfl
theorem hp_p_7_5 (v : Int32) (f : en_H → Option ρ) : en_pf (hp XI XA XP XC MI MA ML D) 7 [(7, 0)] 5 (.int v) f = f (hp (va_up XI 9 v) XA XP XC MI MA ML D) := rfl
theorem hp_g_7_6 (f : Int32 → Option ρ) : en_gI (hp XI XA XP XC MI MA ML D) 7 [(7, 0)] 6 f = f (XI 10) := rfl
theorem hp_p_7_6 (v : Int32) (f : en_H → Option ρ) : en_pf (hp XI XA XP XC MI MA ML D) 7 [(7, 0)] 6 (.int v) f = f (hp (va_up XI 10 v) XA XP XC MI MA ML D) := rfl
theorem hp_g_7_7 (f0 : Option ρ) (f : Nat → Option ρ) : en_gA (hp XI XA XP XC MI MA ML D) 7 [(7, 0)] 7 f0 f = f 8 := rfl
theorem hp_g_7_8 (f : Int32 → Option ρ) : en_gI (hp XI XA XP XC MI MA ML D) 7 [(7, 0)] 8 f = f (XI 11) := rfl
theorem hp_p_7_8 (v : Int32) (f : en_H → Option ρ) : en_pf (hp XI XA XP XC MI MA ML D) 7 [(7, 0)] 8 (.int v) f = f (hp (va_up XI 11 v) XA XP XC MI MA ML D) := rfl
theorem hp_g_7_9 (f : Int32 → Option ρ) : en_gI (hp XI XA XP XC MI MA ML D) 7 [(7, 0)] 9 f = f (XI 12) := rfl
theorem hp_p_7_9 (v : Int32) (f : en_H → Option ρ) : en_pf (hp XI XA XP XC MI MA ML D) 7 [(7, 0)] 9 (.int v) f = f (hp (va_up XI 12 v) XA XP XC MI MA ML D) := rfl
theorem hp_g_7_10 (f : Int32 → Option ρ) : en_gI (hp XI XA XP XC MI MA ML D) 7 [(7, 0)] 10 f = f (XI 13) := rfl
theorem hp_p_7_10 (v : Int32) (f : en_H → Option ρ) : en_pf (hp XI XA XP XC MI MA ML D) 7 [(7, 0)] 10 (.int v) f = f (hp (va_up XI 13 v) XA XP XC MI MA ML D) := rfl
theorem hp_a_8 (i : Int32) (f : Int32 → Option ρ) : en_aI sc (hp XI XA XP XC MI MA ML D) 8 i f = if en_ix i 41 then f (XA 1 i.toNatClampNeg) else none := rfl
theorem hp_s_8 (i x : Int32) (f : en_H → Option ρ) : en_sI (hp XI XA XP XC MI MA ML D) 8 i x f = if en_ix i 41 then f (hp XI (va_up XA 1 (upd (XA 1) i.toNatClampNeg x)) XP XC MI MA ML D) else none := rfl
theorem hp_l_8 (f : Int32 → Option ρ) : en_ln sc (hp XI XA XP XC MI MA ML D) 8 f = f (Int32.ofNat 41) := rfl
theorem hp_cc_9 (g : Nat → Option ρ) : en_cc (hp XI XA XP XC MI MA ML D) 9 g = g 0 := rfl
theorem hp_g_9_0 (f0 : Option ρ) (f : Nat → Option ρ) : en_gA (hp XI XA XP XC MI MA ML D) 9 [(0, 0)] 0 f0 f = f 10 := rfl
theorem hp_g_9_1 (f0 : Option ρ) (f : Nat → Option ρ) : en_gA (hp XI XA XP XC MI MA ML D) 9 [(0, 0)] 1 f0 f = f 11 := rfl
theorem hp_g_9_2 (f0 : Option ρ) (f : Nat → Option ρ) : en_gA (hp XI XA XP XC MI MA ML D) 9 [(0, 0)] 2 f0 f = f 12 := rfl
theorem hp_g_9_3 (f0 : Option ρ) (f : Nat → Option ρ) : en_gA (hp XI XA XP XC MI MA ML D) 9 [(0, 0)] 3 f0 f = f 13 := rfl
theorem hp_g_9_4 (f : Int32 → Option ρ) : en_gI (hp XI XA XP XC MI MA ML D) 9 [(0, 0)] 4 f = f (XI 14) := rfl
theorem hp_p_9_4 (v : Int32) (f : en_H → Option ρ) : en_pf (hp XI XA XP XC MI MA ML D) 9 [(0, 0)] 4 (.int v) f = f (hp (va_up XI 14 v) XA XP XC MI MA ML D) := rfl
theorem hp_g_9_5 (f0 : Option ρ) (f : Nat → Option ρ) : en_gA (hp XI XA XP XC MI MA ML D) 9 [(0, 0)] 5 f0 f = f 14 := rfl
theorem hp_g_9_6 (f0 : Option ρ) (f : Nat → Option ρ) : en_gA (hp XI XA XP XC MI MA ML D) 9 [(0, 0)] 6 f0 f = f 15 := rfl
theorem hp_p_9_7 (v : Value) (f : en_H → Option ρ) : en_pf (hp XI XA XP XC MI MA ML D) 9 [(0, 0)] 7 v f = f (hp XI XA XP v MI MA ML D) := rfl
theorem hp_g_9_7 (q : Nat) (f0 : Option ρ) (f : Nat → Option ρ) : en_gA (hp XI XA XP (.ref q) MI MA ML D) 9 [(0, 0)] 7 f0 f = f q := rfl
theorem hp_a_10 (i : Int32) (f : Int32 → Option ρ) : en_aI sc (hp XI XA XP XC MI MA ML D) 10 i f = if en_ix i 60 then f (XA 2 i.toNatClampNeg) else none := rfl
theorem hp_s_10 (i x : Int32) (f : en_H → Option ρ) : en_sI (hp XI XA XP XC MI MA ML D) 10 i x f = if en_ix i 60 then f (hp XI (va_up XA 2 (upd (XA 2) i.toNatClampNeg x)) XP XC MI MA ML D) else none := rfl
theorem hp_l_10 (f : Int32 → Option ρ) : en_ln sc (hp XI XA XP XC MI MA ML D) 10 f = f (Int32.ofNat 60) := rfl
theorem hp_a_11 (i : Int32) (f : Int32 → Option ρ) : en_aI sc (hp XI XA XP XC MI MA ML D) 11 i f = if en_ix i 60 then f (XA 3 i.toNatClampNeg) else none := rfl
theorem hp_s_11 (i x : Int32) (f : en_H → Option ρ) : en_sI (hp XI XA XP XC MI MA ML D) 11 i x f = if en_ix i 60 then f (hp XI (va_up XA 3 (upd (XA 3) i.toNatClampNeg x)) XP XC MI MA ML D) else none := rfl
theorem hp_l_11 (f : Int32 → Option ρ) : en_ln sc (hp XI XA XP XC MI MA ML D) 11 f = f (Int32.ofNat 60) := rfl
theorem hp_a_12 (i : Int32) (f : Int32 → Option ρ) : en_aI sc (hp XI XA XP XC MI MA ML D) 12 i f = if en_ix i 60 then f (XA 4 i.toNatClampNeg) else none := rfl
theorem hp_s_12 (i x : Int32) (f : en_H → Option ρ) : en_sI (hp XI XA XP XC MI MA ML D) 12 i x f = if en_ix i 60 then f (hp XI (va_up XA 4 (upd (XA 4) i.toNatClampNeg x)) XP XC MI MA ML D) else none := rfl
theorem hp_l_12 (f : Int32 → Option ρ) : en_ln sc (hp XI XA XP XC MI MA ML D) 12 f = f (Int32.ofNat 60) := rfl
theorem hp_a_13 (i : Int32) (f : Int32 → Option ρ) : en_aI sc (hp XI XA XP XC MI MA ML D) 13 i f = if en_ix i 60 then f (XA 5 i.toNatClampNeg) else none := rfl
theorem hp_s_13 (i x : Int32) (f : en_H → Option ρ) : en_sI (hp XI XA XP XC MI MA ML D) 13 i x f = if en_ix i 60 then f (hp XI (va_up XA 5 (upd (XA 5) i.toNatClampNeg x)) XP XC MI MA ML D) else none := rfl
theorem hp_l_13 (f : Int32 → Option ρ) : en_ln sc (hp XI XA XP XC MI MA ML D) 13 f = f (Int32.ofNat 60) := rfl
theorem hp_a_14 (i : Int32) (f : Int32 → Option ρ) : en_aI sc (hp XI XA XP XC MI MA ML D) 14 i f = if en_ix i 60 then f (XA 6 i.toNatClampNeg) else none := rfl
theorem hp_s_14 (i x : Int32) (f : en_H → Option ρ) : en_sI (hp XI XA XP XC MI MA ML D) 14 i x f = if en_ix i 60 then f (hp XI (va_up XA 6 (upd (XA 6) i.toNatClampNeg x)) XP XC MI MA ML D) else none := rfl
theorem hp_l_14 (f : Int32 → Option ρ) : en_ln sc (hp XI XA XP XC MI MA ML D) 14 f = f (Int32.ofNat 60) := rfl
theorem hp_a_15 (i : Int32) (f : Int32 → Option ρ) : en_aI sc (hp XI XA XP XC MI MA ML D) 15 i f = if en_ix i 60 then f (XA 7 i.toNatClampNeg) else none := rfl
theorem hp_s_15 (i x : Int32) (f : en_H → Option ρ) : en_sI (hp XI XA XP XC MI MA ML D) 15 i x f = if en_ix i 60 then f (hp XI (va_up XA 7 (upd (XA 7) i.toNatClampNeg x)) XP XC MI MA ML D) else none := rfl
theorem hp_l_15 (f : Int32 → Option ρ) : en_ln sc (hp XI XA XP XC MI MA ML D) 15 f = f (Int32.ofNat 60) := rfl
theorem hp_a_16 (i : Int32) (f : Int32 → Option ρ) : en_aI sc (hp XI XA XP XC MI MA ML D) 16 i f = if en_ix i 212 then f (XA 8 i.toNatClampNeg) else none := rfl
theorem hp_s_16 (i x : Int32) (f : en_H → Option ρ) : en_sI (hp XI XA XP XC MI MA ML D) 16 i x f = if en_ix i 212 then f (hp XI (va_up XA 8 (upd (XA 8) i.toNatClampNeg x)) XP XC MI MA ML D) else none := rfl
theorem hp_l_16 (f : Int32 → Option ρ) : en_ln sc (hp XI XA XP XC MI MA ML D) 16 f = f (Int32.ofNat 212) := rfl
theorem hp_a_17 (i : Int32) (f : Int32 → Option ρ) : en_aI sc (hp XI XA XP XC MI MA ML D) 17 i f = if en_ix i 200 then f (XA 9 i.toNatClampNeg) else none := rfl
theorem hp_s_17 (i x : Int32) (f : en_H → Option ρ) : en_sI (hp XI XA XP XC MI MA ML D) 17 i x f = if en_ix i 200 then f (hp XI (va_up XA 9 (upd (XA 9) i.toNatClampNeg x)) XP XC MI MA ML D) else none := rfl
theorem hp_l_17 (f : Int32 → Option ρ) : en_ln sc (hp XI XA XP XC MI MA ML D) 17 f = f (Int32.ofNat 200) := rfl
theorem hp_cc_18 (g : Nat → Option ρ) : en_cc (hp XI XA XP XC MI MA ML D) 18 g = g 5 := rfl
theorem hp_g_18_0 (f0 : Option ρ) (f : Nat → Option ρ) : en_gA (hp XI XA XP XC MI MA ML D) 18 [(5, 0)] 0 f0 f = f 19 := rfl
theorem hp_g_18_1 (f : Int32 → Option ρ) : en_gI (hp XI XA XP XC MI MA ML D) 18 [(5, 0)] 1 f = f (XI 15) := rfl
theorem hp_p_18_1 (v : Int32) (f : en_H → Option ρ) : en_pf (hp XI XA XP XC MI MA ML D) 18 [(5, 0)] 1 (.int v) f = f (hp (va_up XI 15 v) XA XP XC MI MA ML D) := rfl
theorem hp_g_18_2 (f : Int32 → Option ρ) : en_gI (hp XI XA XP XC MI MA ML D) 18 [(5, 0)] 2 f = f (XI 16) := rfl
theorem hp_p_18_2 (v : Int32) (f : en_H → Option ρ) : en_pf (hp XI XA XP XC MI MA ML D) 18 [(5, 0)] 2 (.int v) f = f (hp (va_up XI 16 v) XA XP XC MI MA ML D) := rfl
theorem hp_a_19 (i : Int32) (f : Int32 → Option ρ) : en_aI sc (hp XI XA XP XC MI MA ML D) 19 i f = if en_ix i 40 then f (XA 10 i.toNatClampNeg) else none := rfl
theorem hp_s_19 (i x : Int32) (f : en_H → Option ρ) : en_sI (hp XI XA XP XC MI MA ML D) 19 i x f = if en_ix i 40 then f (hp XI (va_up XA 10 (upd (XA 10) i.toNatClampNeg x)) XP XC MI MA ML D) else none := rfl
theorem hp_l_19 (f : Int32 → Option ρ) : en_ln sc (hp XI XA XP XC MI MA ML D) 19 f = f (Int32.ofNat 40) := rfl
theorem hp_cc_20 (g : Nat → Option ρ) : en_cc (hp XI XA XP XC MI MA ML D) 20 g = g 5 := rfl
theorem hp_g_20_0 (f0 : Option ρ) (f : Nat → Option ρ) : en_gA (hp XI XA XP XC MI MA ML D) 20 [(5, 0)] 0 f0 f = f 21 := rfl
theorem hp_g_20_1 (f : Int32 → Option ρ) : en_gI (hp XI XA XP XC MI MA ML D) 20 [(5, 0)] 1 f = f (XI 17) := rfl
theorem hp_p_20_1 (v : Int32) (f : en_H → Option ρ) : en_pf (hp XI XA XP XC MI MA ML D) 20 [(5, 0)] 1 (.int v) f = f (hp (va_up XI 17 v) XA XP XC MI MA ML D) := rfl
theorem hp_g_20_2 (f : Int32 → Option ρ) : en_gI (hp XI XA XP XC MI MA ML D) 20 [(5, 0)] 2 f = f (XI 18) := rfl
theorem hp_p_20_2 (v : Int32) (f : en_H → Option ρ) : en_pf (hp XI XA XP XC MI MA ML D) 20 [(5, 0)] 2 (.int v) f = f (hp (va_up XI 18 v) XA XP XC MI MA ML D) := rfl
theorem hp_a_21 (i : Int32) (f : Int32 → Option ρ) : en_aI sc (hp XI XA XP XC MI MA ML D) 21 i f = if en_ix i 40 then f (XA 11 i.toNatClampNeg) else none := rfl
theorem hp_s_21 (i x : Int32) (f : en_H → Option ρ) : en_sI (hp XI XA XP XC MI MA ML D) 21 i x f = if en_ix i 40 then f (hp XI (va_up XA 11 (upd (XA 11) i.toNatClampNeg x)) XP XC MI MA ML D) else none := rfl
theorem hp_l_21 (f : Int32 → Option ρ) : en_ln sc (hp XI XA XP XC MI MA ML D) 21 f = f (Int32.ofNat 40) := rfl
theorem hp_cc_22 (g : Nat → Option ρ) : en_cc (hp XI XA XP XC MI MA ML D) 22 g = g 5 := rfl
theorem hp_g_22_0 (f0 : Option ρ) (f : Nat → Option ρ) : en_gA (hp XI XA XP XC MI MA ML D) 22 [(5, 0)] 0 f0 f = f 23 := rfl
theorem hp_g_22_1 (f : Int32 → Option ρ) : en_gI (hp XI XA XP XC MI MA ML D) 22 [(5, 0)] 1 f = f (XI 19) := rfl
theorem hp_p_22_1 (v : Int32) (f : en_H → Option ρ) : en_pf (hp XI XA XP XC MI MA ML D) 22 [(5, 0)] 1 (.int v) f = f (hp (va_up XI 19 v) XA XP XC MI MA ML D) := rfl
theorem hp_g_22_2 (f : Int32 → Option ρ) : en_gI (hp XI XA XP XC MI MA ML D) 22 [(5, 0)] 2 f = f (XI 20) := rfl
theorem hp_p_22_2 (v : Int32) (f : en_H → Option ρ) : en_pf (hp XI XA XP XC MI MA ML D) 22 [(5, 0)] 2 (.int v) f = f (hp (va_up XI 20 v) XA XP XC MI MA ML D) := rfl
theorem hp_a_23 (i : Int32) (f : Int32 → Option ρ) : en_aI sc (hp XI XA XP XC MI MA ML D) 23 i f = if en_ix i 40 then f (XA 12 i.toNatClampNeg) else none := rfl
theorem hp_s_23 (i x : Int32) (f : en_H → Option ρ) : en_sI (hp XI XA XP XC MI MA ML D) 23 i x f = if en_ix i 40 then f (hp XI (va_up XA 12 (upd (XA 12) i.toNatClampNeg x)) XP XC MI MA ML D) else none := rfl
theorem hp_l_23 (f : Int32 → Option ρ) : en_ln sc (hp XI XA XP XC MI MA ML D) 23 f = f (Int32.ofNat 40) := rfl
theorem hp_cc_24 (g : Nat → Option ρ) : en_cc (hp XI XA XP XC MI MA ML D) 24 g = g 5 := rfl
theorem hp_g_24_0 (f0 : Option ρ) (f : Nat → Option ρ) : en_gA (hp XI XA XP XC MI MA ML D) 24 [(5, 0)] 0 f0 f = f 25 := rfl
theorem hp_g_24_1 (f : Int32 → Option ρ) : en_gI (hp XI XA XP XC MI MA ML D) 24 [(5, 0)] 1 f = f (XI 21) := rfl
theorem hp_p_24_1 (v : Int32) (f : en_H → Option ρ) : en_pf (hp XI XA XP XC MI MA ML D) 24 [(5, 0)] 1 (.int v) f = f (hp (va_up XI 21 v) XA XP XC MI MA ML D) := rfl
theorem hp_g_24_2 (f : Int32 → Option ρ) : en_gI (hp XI XA XP XC MI MA ML D) 24 [(5, 0)] 2 f = f (XI 22) := rfl
theorem hp_p_24_2 (v : Int32) (f : en_H → Option ρ) : en_pf (hp XI XA XP XC MI MA ML D) 24 [(5, 0)] 2 (.int v) f = f (hp (va_up XI 22 v) XA XP XC MI MA ML D) := rfl
theorem hp_a_25 (i : Int32) (f : Int32 → Option ρ) : en_aI sc (hp XI XA XP XC MI MA ML D) 25 i f = if en_ix i 40 then f (XA 13 i.toNatClampNeg) else none := rfl
theorem hp_s_25 (i x : Int32) (f : en_H → Option ρ) : en_sI (hp XI XA XP XC MI MA ML D) 25 i x f = if en_ix i 40 then f (hp XI (va_up XA 13 (upd (XA 13) i.toNatClampNeg x)) XP XC MI MA ML D) else none := rfl
theorem hp_l_25 (f : Int32 → Option ρ) : en_ln sc (hp XI XA XP XC MI MA ML D) 25 f = f (Int32.ofNat 40) := rfl
theorem hp_cc_26 (g : Nat → Option ρ) : en_cc (hp XI XA XP XC MI MA ML D) 26 g = g 11 := rfl
theorem hp_g_26_0 (f : Int32 → Option ρ) : en_gI (hp XI XA XP XC MI MA ML D) 26 [(11, 0)] 0 f = f (MI 0) := rfl
theorem hp_p_26_0 (v : Int32) (f : en_H → Option ρ) : en_pf (hp XI XA XP XC MI MA ML D) 26 [(11, 0)] 0 (.int v) f = f (hp XI XA XP XC (va_up MI 0 v) MA ML D) := rfl
theorem hp_g_26_1 (f : Int32 → Option ρ) : en_gI (hp XI XA XP XC MI MA ML D) 26 [(11, 0)] 1 f = f (MI 1) := rfl
theorem hp_p_26_1 (v : Int32) (f : en_H → Option ρ) : en_pf (hp XI XA XP XC MI MA ML D) 26 [(11, 0)] 1 (.int v) f = f (hp XI XA XP XC (va_up MI 1 v) MA ML D) := rfl
theorem hp_g_26_2 (f : Int32 → Option ρ) : en_gI (hp XI XA XP XC MI MA ML D) 26 [(11, 0)] 2 f = f (MI 2) := rfl
theorem hp_p_26_2 (v : Int32) (f : en_H → Option ρ) : en_pf (hp XI XA XP XC MI MA ML D) 26 [(11, 0)] 2 (.int v) f = f (hp XI XA XP XC (va_up MI 2 v) MA ML D) := rfl
theorem hp_g_26_3 (f0 : Option ρ) (f : Nat → Option ρ) : en_gA (hp XI XA XP XC MI MA ML D) 26 [(11, 0)] 3 f0 f = f 27 := rfl
theorem hp_g_26_4 (f0 : Option ρ) (f : Nat → Option ρ) : en_gA (hp XI XA XP XC MI MA ML D) 26 [(11, 0)] 4 f0 f = f 28 := rfl
theorem hp_g_26_5 (f0 : Option ρ) (f : Nat → Option ρ) : en_gA (hp XI XA XP XC MI MA ML D) 26 [(11, 0)] 5 f0 f = f 29 := rfl
theorem hp_g_26_6 (f0 : Option ρ) (f : Nat → Option ρ) : en_gA (hp XI XA XP XC MI MA ML D) 26 [(11, 0)] 6 f0 f = f 30 := rfl
theorem hp_g_26_7 (f0 : Option ρ) (f : Nat → Option ρ) : en_gA (hp XI XA XP XC MI MA ML D) 26 [(11, 0)] 7 f0 f = f 31 := rfl
theorem hp_g_26_8 (f0 : Option ρ) (f : Nat → Option ρ) : en_gA (hp XI XA XP XC MI MA ML D) 26 [(11, 0)] 8 f0 f = f 32 := rfl
theorem hp_g_26_9 (f0 : Option ρ) (f : Nat → Option ρ) : en_gA (hp XI XA XP XC MI MA ML D) 26 [(11, 0)] 9 f0 f = f 33 := rfl
theorem hp_g_26_10 (f0 : Option ρ) (f : Nat → Option ρ) : en_gA (hp XI XA XP XC MI MA ML D) 26 [(11, 0)] 10 f0 f = f 34 := rfl
theorem hp_g_26_11 (f0 : Option ρ) (f : Nat → Option ρ) : en_gA (hp XI XA XP XC MI MA ML D) 26 [(11, 0)] 11 f0 f = f 35 := rfl
theorem hp_g_26_12 (f0 : Option ρ) (f : Nat → Option ρ) : en_gA (hp XI XA XP XC MI MA ML D) 26 [(11, 0)] 12 f0 f = f 36 := rfl
theorem hp_g_26_13 (f0 : Option ρ) (f : Nat → Option ρ) : en_gA (hp XI XA XP XC MI MA ML D) 26 [(11, 0)] 13 f0 f = f 37 := rfl
theorem hp_g_26_14 (f0 : Option ρ) (f : Nat → Option ρ) : en_gA (hp XI XA XP XC MI MA ML D) 26 [(11, 0)] 14 f0 f = f 38 := rfl
theorem hp_g_26_15 (f : Int32 → Option ρ) : en_gI (hp XI XA XP XC MI MA ML D) 26 [(11, 0)] 15 f = f (MI 3) := rfl
theorem hp_p_26_15 (v : Int32) (f : en_H → Option ρ) : en_pf (hp XI XA XP XC MI MA ML D) 26 [(11, 0)] 15 (.int v) f = f (hp XI XA XP XC (va_up MI 3 v) MA ML D) := rfl
theorem hp_g_26_16 (f0 : Option ρ) (f : Nat → Option ρ) : en_gA (hp XI XA XP XC MI MA ML D) 26 [(11, 0)] 16 f0 f = f 39 := rfl
theorem hp_g_26_17 (f0 : Option ρ) (f : Nat → Option ρ) : en_gA (hp XI XA XP XC MI MA ML D) 26 [(11, 0)] 17 f0 f = f 40 := rfl
theorem hp_g_26_18 (f : Int32 → Option ρ) : en_gI (hp XI XA XP XC MI MA ML D) 26 [(11, 0)] 18 f = f (MI 4) := rfl
theorem hp_p_26_18 (v : Int32) (f : en_H → Option ρ) : en_pf (hp XI XA XP XC MI MA ML D) 26 [(11, 0)] 18 (.int v) f = f (hp XI XA XP XC (va_up MI 4 v) MA ML D) := rfl
theorem hp_g_26_19 (f : Int32 → Option ρ) : en_gI (hp XI XA XP XC MI MA ML D) 26 [(11, 0)] 19 f = f (MI 5) := rfl
theorem hp_p_26_19 (v : Int32) (f : en_H → Option ρ) : en_pf (hp XI XA XP XC MI MA ML D) 26 [(11, 0)] 19 (.int v) f = f (hp XI XA XP XC (va_up MI 5 v) MA ML D) := rfl
theorem hp_g_26_20 (f0 : Option ρ) (f : Nat → Option ρ) : en_gA (hp XI XA XP XC MI MA ML D) 26 [(11, 0)] 20 f0 f = f 41 := rfl
theorem hp_g_26_21 (f : Int32 → Option ρ) : en_gI (hp XI XA XP XC MI MA ML D) 26 [(11, 0)] 21 f = f (MI 6) := rfl
theorem hp_p_26_21 (v : Int32) (f : en_H → Option ρ) : en_pf (hp XI XA XP XC MI MA ML D) 26 [(11, 0)] 21 (.int v) f = f (hp XI XA XP XC (va_up MI 6 v) MA ML D) := rfl
theorem hp_g_26_22 (f0 : Option ρ) (f : Nat → Option ρ) : en_gA (hp XI XA XP XC MI MA ML D) 26 [(11, 0)] 22 f0 f = f 42 := rfl
theorem hp_g_26_23 (f0 : Option ρ) (f : Nat → Option ρ) : en_gA (hp XI XA XP XC MI MA ML D) 26 [(11, 0)] 23 f0 f = f 43 := rfl
theorem hp_g_26_24 (f0 : Option ρ) (f : Nat → Option ρ) : en_gA (hp XI XA XP XC MI MA ML D) 26 [(11, 0)] 24 f0 f = f 44 := rfl
theorem hp_g_26_25 (f0 : Option ρ) (f : Nat → Option ρ) : en_gA (hp XI XA XP XC MI MA ML D) 26 [(11, 0)] 25 f0 f = f 45 := rfl
theorem hp_g_26_26 (f0 : Option ρ) (f : Nat → Option ρ) : en_gA (hp XI XA XP XC MI MA ML D) 26 [(11, 0)] 26 f0 f = f 46 := rfl
theorem hp_g_26_27 (f0 : Option ρ) (f : Nat → Option ρ) : en_gA (hp XI XA XP XC MI MA ML D) 26 [(11, 0)] 27 f0 f = f 47 := rfl
theorem hp_g_26_28 (f0 : Option ρ) (f : Nat → Option ρ) : en_gA (hp XI XA XP XC MI MA ML D) 26 [(11, 0)] 28 f0 f = f 48 := rfl
theorem hp_g_26_29 (f0 : Option ρ) (f : Nat → Option ρ) : en_gA (hp XI XA XP XC MI MA ML D) 26 [(11, 0)] 29 f0 f = f 49 := rfl
theorem hp_g_26_30 (f : Int32 → Option ρ) : en_gI (hp XI XA XP XC MI MA ML D) 26 [(11, 0)] 30 f = f (MI 7) := rfl
theorem hp_p_26_30 (v : Int32) (f : en_H → Option ρ) : en_pf (hp XI XA XP XC MI MA ML D) 26 [(11, 0)] 30 (.int v) f = f (hp XI XA XP XC (va_up MI 7 v) MA ML D) := rfl
theorem hp_g_26_31 (f0 : Option ρ) (f : Nat → Option ρ) : en_gA (hp XI XA XP XC MI MA ML D) 26 [(11, 0)] 31 f0 f = f 50 := rfl
theorem hp_g_26_32 (f : Int32 → Option ρ) : en_gI (hp XI XA XP XC MI MA ML D) 26 [(11, 0)] 32 f = f (MI 8) := rfl
theorem hp_p_26_32 (v : Int32) (f : en_H → Option ρ) : en_pf (hp XI XA XP XC MI MA ML D) 26 [(11, 0)] 32 (.int v) f = f (hp XI XA XP XC (va_up MI 8 v) MA ML D) := rfl
theorem hp_a_27 (i : Int32) (f : Int32 → Option ρ) : en_aI sc (hp XI XA XP XC MI MA ML D) 27 i f = if en_ix i 8 then f (MA 0 i.toNatClampNeg) else none := rfl
theorem hp_s_27 (i x : Int32) (f : en_H → Option ρ) : en_sI (hp XI XA XP XC MI MA ML D) 27 i x f = if en_ix i 8 then f (hp XI XA XP XC MI (va_up MA 0 (upd (MA 0) i.toNatClampNeg x)) ML D) else none := rfl
theorem hp_l_27 (f : Int32 → Option ρ) : en_ln sc (hp XI XA XP XC MI MA ML D) 27 f = f (Int32.ofNat 8) := rfl
theorem hp_a_28 (i : Int32) (f : Int32 → Option ρ) : en_aI sc (hp XI XA XP XC MI MA ML D) 28 i f = if en_ix i 8 then f (MA 1 i.toNatClampNeg) else none := rfl
theorem hp_s_28 (i x : Int32) (f : en_H → Option ρ) : en_sI (hp XI XA XP XC MI MA ML D) 28 i x f = if en_ix i 8 then f (hp XI XA XP XC MI (va_up MA 1 (upd (MA 1) i.toNatClampNeg x)) ML D) else none := rfl
theorem hp_l_28 (f : Int32 → Option ρ) : en_ln sc (hp XI XA XP XC MI MA ML D) 28 f = f (Int32.ofNat 8) := rfl
theorem hp_a_29 (i : Int32) (f : Int32 → Option ρ) : en_aI sc (hp XI XA XP XC MI MA ML D) 29 i f = if en_ix i 8 then f (MA 2 i.toNatClampNeg) else none := rfl
theorem hp_s_29 (i x : Int32) (f : en_H → Option ρ) : en_sI (hp XI XA XP XC MI MA ML D) 29 i x f = if en_ix i 8 then f (hp XI XA XP XC MI (va_up MA 2 (upd (MA 2) i.toNatClampNeg x)) ML D) else none := rfl
theorem hp_l_29 (f : Int32 → Option ρ) : en_ln sc (hp XI XA XP XC MI MA ML D) 29 f = f (Int32.ofNat 8) := rfl
theorem hp_a_30 (i : Int32) (f : Int32 → Option ρ) : en_aI sc (hp XI XA XP XC MI MA ML D) 30 i f = if en_ix i 8 then f (MA 3 i.toNatClampNeg) else none := rfl
theorem hp_s_30 (i x : Int32) (f : en_H → Option ρ) : en_sI (hp XI XA XP XC MI MA ML D) 30 i x f = if en_ix i 8 then f (hp XI XA XP XC MI (va_up MA 3 (upd (MA 3) i.toNatClampNeg x)) ML D) else none := rfl
theorem hp_l_30 (f : Int32 → Option ρ) : en_ln sc (hp XI XA XP XC MI MA ML D) 30 f = f (Int32.ofNat 8) := rfl
theorem hp_a_31 (i : Int32) (f : Int32 → Option ρ) : en_aI sc (hp XI XA XP XC MI MA ML D) 31 i f = if en_ix i 10 then f (MA 4 i.toNatClampNeg) else none := rfl
theorem hp_s_31 (i x : Int32) (f : en_H → Option ρ) : en_sI (hp XI XA XP XC MI MA ML D) 31 i x f = if en_ix i 10 then f (hp XI XA XP XC MI (va_up MA 4 (upd (MA 4) i.toNatClampNeg x)) ML D) else none := rfl
theorem hp_l_31 (f : Int32 → Option ρ) : en_ln sc (hp XI XA XP XC MI MA ML D) 31 f = f (Int32.ofNat 10) := rfl
theorem hp_a_32 (i : Int32) (f : Int32 → Option ρ) : en_aI sc (hp XI XA XP XC MI MA ML D) 32 i f = if en_ix i 10 then f (MA 5 i.toNatClampNeg) else none := rfl
theorem hp_s_32 (i x : Int32) (f : en_H → Option ρ) : en_sI (hp XI XA XP XC MI MA ML D) 32 i x f = if en_ix i 10 then f (hp XI XA XP XC MI (va_up MA 5 (upd (MA 5) i.toNatClampNeg x)) ML D) else none := rfl
theorem hp_l_32 (f : Int32 → Option ρ) : en_ln sc (hp XI XA XP XC MI MA ML D) 32 f = f (Int32.ofNat 10) := rfl
theorem hp_a_33 (i : Int32) (f : Int32 → Option ρ) : en_aI sc (hp XI XA XP XC MI MA ML D) 33 i f = if en_ix i 10 then f (MA 6 i.toNatClampNeg) else none := rfl
theorem hp_s_33 (i x : Int32) (f : en_H → Option ρ) : en_sI (hp XI XA XP XC MI MA ML D) 33 i x f = if en_ix i 10 then f (hp XI XA XP XC MI (va_up MA 6 (upd (MA 6) i.toNatClampNeg x)) ML D) else none := rfl
theorem hp_l_33 (f : Int32 → Option ρ) : en_ln sc (hp XI XA XP XC MI MA ML D) 33 f = f (Int32.ofNat 10) := rfl
theorem hp_a_34 (i : Int32) (f : Int32 → Option ρ) : en_aI sc (hp XI XA XP XC MI MA ML D) 34 i f = if en_ix i 100010 then f (MA 7 i.toNatClampNeg) else none := rfl
theorem hp_s_34 (i x : Int32) (f : en_H → Option ρ) : en_sI (hp XI XA XP XC MI MA ML D) 34 i x f = if en_ix i 100010 then f (hp XI XA XP XC MI (va_up MA 7 (upd (MA 7) i.toNatClampNeg x)) ML D) else none := rfl
theorem hp_l_34 (f : Int32 → Option ρ) : en_ln sc (hp XI XA XP XC MI MA ML D) 34 f = f (Int32.ofNat 100010) := rfl
theorem hp_a_35 (i : Int32) (f : Int32 → Option ρ) : en_aI sc (hp XI XA XP XC MI MA ML D) 35 i f = if en_ix i 4 then f (MA 8 i.toNatClampNeg) else none := rfl
theorem hp_s_35 (i x : Int32) (f : en_H → Option ρ) : en_sI (hp XI XA XP XC MI MA ML D) 35 i x f = if en_ix i 4 then f (hp XI XA XP XC MI (va_up MA 8 (upd (MA 8) i.toNatClampNeg x)) ML D) else none := rfl
theorem hp_l_35 (f : Int32 → Option ρ) : en_ln sc (hp XI XA XP XC MI MA ML D) 35 f = f (Int32.ofNat 4) := rfl
theorem hp_a_36 (i : Int32) (f : Int32 → Option ρ) : en_aI sc (hp XI XA XP XC MI MA ML D) 36 i f = if en_ix i 4 then f (MA 9 i.toNatClampNeg) else none := rfl
theorem hp_s_36 (i x : Int32) (f : en_H → Option ρ) : en_sI (hp XI XA XP XC MI MA ML D) 36 i x f = if en_ix i 4 then f (hp XI XA XP XC MI (va_up MA 9 (upd (MA 9) i.toNatClampNeg x)) ML D) else none := rfl
theorem hp_l_36 (f : Int32 → Option ρ) : en_ln sc (hp XI XA XP XC MI MA ML D) 36 f = f (Int32.ofNat 4) := rfl
theorem hp_a_37 (i : Int32) (f : Int32 → Option ρ) : en_aI sc (hp XI XA XP XC MI MA ML D) 37 i f = if en_ix i 160 then f (MA 10 i.toNatClampNeg) else none := rfl
theorem hp_s_37 (i x : Int32) (f : en_H → Option ρ) : en_sI (hp XI XA XP XC MI MA ML D) 37 i x f = if en_ix i 160 then f (hp XI XA XP XC MI (va_up MA 10 (upd (MA 10) i.toNatClampNeg x)) ML D) else none := rfl
theorem hp_l_37 (f : Int32 → Option ρ) : en_ln sc (hp XI XA XP XC MI MA ML D) 37 f = f (Int32.ofNat 160) := rfl
theorem hp_a_38 (i : Int32) (f : Int32 → Option ρ) : en_aI sc (hp XI XA XP XC MI MA ML D) 38 i f = if en_ix i 60 then f (MA 11 i.toNatClampNeg) else none := rfl
theorem hp_s_38 (i x : Int32) (f : en_H → Option ρ) : en_sI (hp XI XA XP XC MI MA ML D) 38 i x f = if en_ix i 60 then f (hp XI XA XP XC MI (va_up MA 11 (upd (MA 11) i.toNatClampNeg x)) ML D) else none := rfl
theorem hp_l_38 (f : Int32 → Option ρ) : en_ln sc (hp XI XA XP XC MI MA ML D) 38 f = f (Int32.ofNat 60) := rfl
theorem hp_a_39 (i : Int32) (f : Int64 → Option ρ) : en_aL (hp XI XA XP XC MI MA ML D) 39 i f = if en_ix i 20 then f (ML 0 i.toNatClampNeg) else none := rfl
theorem hp_s_39 (i : Int32) (x : Int64) (f : en_H → Option ρ) : en_sL (hp XI XA XP XC MI MA ML D) 39 i x f = if en_ix i 20 then f (hp XI XA XP XC MI MA (va_up ML 0 (vp_updL (ML 0) i.toNatClampNeg x)) D) else none := rfl
theorem hp_a_40 (i : Int32) (f : Int64 → Option ρ) : en_aL (hp XI XA XP XC MI MA ML D) 40 i f = if en_ix i 24 then f (ML 1 i.toNatClampNeg) else none := rfl
theorem hp_s_40 (i : Int32) (x : Int64) (f : en_H → Option ρ) : en_sL (hp XI XA XP XC MI MA ML D) 40 i x f = if en_ix i 24 then f (hp XI XA XP XC MI MA (va_up ML 1 (vp_updL (ML 1) i.toNatClampNeg x)) D) else none := rfl
theorem hp_a_41 (i : Int32) (f : Int32 → Option ρ) : en_aI sc (hp XI XA XP XC MI MA ML D) 41 i f = if en_ix i 2001 then f (MA 12 i.toNatClampNeg) else none := rfl
theorem hp_s_41 (i x : Int32) (f : en_H → Option ρ) : en_sI (hp XI XA XP XC MI MA ML D) 41 i x f = if en_ix i 2001 then f (hp XI XA XP XC MI (va_up MA 12 (upd (MA 12) i.toNatClampNeg x)) ML D) else none := rfl
theorem hp_l_41 (f : Int32 → Option ρ) : en_ln sc (hp XI XA XP XC MI MA ML D) 41 f = f (Int32.ofNat 2001) := rfl
theorem hp_a_42 (i : Int32) (f : Int32 → Option ρ) : en_aI sc (hp XI XA XP XC MI MA ML D) 42 i f = if en_ix i 60 then f (MA 13 i.toNatClampNeg) else none := rfl
theorem hp_s_42 (i x : Int32) (f : en_H → Option ρ) : en_sI (hp XI XA XP XC MI MA ML D) 42 i x f = if en_ix i 60 then f (hp XI XA XP XC MI (va_up MA 13 (upd (MA 13) i.toNatClampNeg x)) ML D) else none := rfl
theorem hp_l_42 (f : Int32 → Option ρ) : en_ln sc (hp XI XA XP XC MI MA ML D) 42 f = f (Int32.ofNat 60) := rfl
theorem hp_a_43 (i : Int32) (f : Int32 → Option ρ) : en_aI sc (hp XI XA XP XC MI MA ML D) 43 i f = if en_ix i 60 then f (MA 14 i.toNatClampNeg) else none := rfl
theorem hp_s_43 (i x : Int32) (f : en_H → Option ρ) : en_sI (hp XI XA XP XC MI MA ML D) 43 i x f = if en_ix i 60 then f (hp XI XA XP XC MI (va_up MA 14 (upd (MA 14) i.toNatClampNeg x)) ML D) else none := rfl
theorem hp_l_43 (f : Int32 → Option ρ) : en_ln sc (hp XI XA XP XC MI MA ML D) 43 f = f (Int32.ofNat 60) := rfl
theorem hp_a_44 (i : Int32) (f : Int32 → Option ρ) : en_aI sc (hp XI XA XP XC MI MA ML D) 44 i f = if en_ix i 60 then f (MA 15 i.toNatClampNeg) else none := rfl
theorem hp_s_44 (i x : Int32) (f : en_H → Option ρ) : en_sI (hp XI XA XP XC MI MA ML D) 44 i x f = if en_ix i 60 then f (hp XI XA XP XC MI (va_up MA 15 (upd (MA 15) i.toNatClampNeg x)) ML D) else none := rfl
theorem hp_l_44 (f : Int32 → Option ρ) : en_ln sc (hp XI XA XP XC MI MA ML D) 44 f = f (Int32.ofNat 60) := rfl
theorem hp_a_45 (i : Int32) (f : Int32 → Option ρ) : en_aI sc (hp XI XA XP XC MI MA ML D) 45 i f = if en_ix i 60 then f (MA 16 i.toNatClampNeg) else none := rfl
theorem hp_s_45 (i x : Int32) (f : en_H → Option ρ) : en_sI (hp XI XA XP XC MI MA ML D) 45 i x f = if en_ix i 60 then f (hp XI XA XP XC MI (va_up MA 16 (upd (MA 16) i.toNatClampNeg x)) ML D) else none := rfl
theorem hp_l_45 (f : Int32 → Option ρ) : en_ln sc (hp XI XA XP XC MI MA ML D) 45 f = f (Int32.ofNat 60) := rfl
theorem hp_a_46 (i : Int32) (f : Int32 → Option ρ) : en_aI sc (hp XI XA XP XC MI MA ML D) 46 i f = if en_ix i 60 then f (MA 17 i.toNatClampNeg) else none := rfl
theorem hp_s_46 (i x : Int32) (f : en_H → Option ρ) : en_sI (hp XI XA XP XC MI MA ML D) 46 i x f = if en_ix i 60 then f (hp XI XA XP XC MI (va_up MA 17 (upd (MA 17) i.toNatClampNeg x)) ML D) else none := rfl
theorem hp_l_46 (f : Int32 → Option ρ) : en_ln sc (hp XI XA XP XC MI MA ML D) 46 f = f (Int32.ofNat 60) := rfl
theorem hp_a_47 (i : Int32) (f : Int32 → Option ρ) : en_aI sc (hp XI XA XP XC MI MA ML D) 47 i f = if en_ix i 60 then f (MA 18 i.toNatClampNeg) else none := rfl
theorem hp_s_47 (i x : Int32) (f : en_H → Option ρ) : en_sI (hp XI XA XP XC MI MA ML D) 47 i x f = if en_ix i 60 then f (hp XI XA XP XC MI (va_up MA 18 (upd (MA 18) i.toNatClampNeg x)) ML D) else none := rfl
theorem hp_l_47 (f : Int32 → Option ρ) : en_ln sc (hp XI XA XP XC MI MA ML D) 47 f = f (Int32.ofNat 60) := rfl
theorem hp_a_48 (i : Int32) (f : Int32 → Option ρ) : en_aI sc (hp XI XA XP XC MI MA ML D) 48 i f = if en_ix i 60 then f (MA 19 i.toNatClampNeg) else none := rfl
theorem hp_s_48 (i x : Int32) (f : en_H → Option ρ) : en_sI (hp XI XA XP XC MI MA ML D) 48 i x f = if en_ix i 60 then f (hp XI XA XP XC MI (va_up MA 19 (upd (MA 19) i.toNatClampNeg x)) ML D) else none := rfl
theorem hp_l_48 (f : Int32 → Option ρ) : en_ln sc (hp XI XA XP XC MI MA ML D) 48 f = f (Int32.ofNat 60) := rfl
theorem hp_a_49 (i : Int32) (f : Int32 → Option ρ) : en_aI sc (hp XI XA XP XC MI MA ML D) 49 i f = if en_ix i 60 then f (MA 20 i.toNatClampNeg) else none := rfl
theorem hp_s_49 (i x : Int32) (f : en_H → Option ρ) : en_sI (hp XI XA XP XC MI MA ML D) 49 i x f = if en_ix i 60 then f (hp XI XA XP XC MI (va_up MA 20 (upd (MA 20) i.toNatClampNeg x)) ML D) else none := rfl
theorem hp_l_49 (f : Int32 → Option ρ) : en_ln sc (hp XI XA XP XC MI MA ML D) 49 f = f (Int32.ofNat 60) := rfl
theorem hp_a_50 (i : Int32) (f : Int32 → Option ρ) : en_aI sc (hp XI XA XP XC MI MA ML D) 50 i f = if en_ix i 2001 then f (MA 21 i.toNatClampNeg) else none := rfl
theorem hp_s_50 (i x : Int32) (f : en_H → Option ρ) : en_sI (hp XI XA XP XC MI MA ML D) 50 i x f = if en_ix i 2001 then f (hp XI XA XP XC MI (va_up MA 21 (upd (MA 21) i.toNatClampNeg x)) ML D) else none := rfl
theorem hp_l_50 (f : Int32 → Option ρ) : en_ln sc (hp XI XA XP XC MI MA ML D) 50 f = f (Int32.ofNat 2001) := rfl
theorem hp_nw (c : va_E) (f : Nat → en_H → Option ρ) : en_nw (hp XI XA XP XC MI MA ML D) c f = f (D.length + 51) (hp XI XA XP XC MI MA ML (D ++ [c])) := rfl
theorem hp_ce (q : Nat) : en_ce (hp XI XA XP XC MI MA ML D) (q + 51) = en_nt D q := rfl
theorem hp_set (q : Nat) (c : va_E) : (hp XI XA XP XC MI MA ML D).set (q + 50) c = (hp XI XA XP XC MI MA ML (D.set q c)) := rfl
end HP
