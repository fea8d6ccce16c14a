/-! HEAPS: the pairs that are lost, by the golden number -/
def r5 (k : Nat) : Nat := k * 2236067977 / 1000000000
def gw (k : Nat) : Nat := (k + r5 k) / 2
def ls (h : Nat) : Nat := (r5 h - h) / 2
/-- the heap that makes a lost pair with h -/
def lb (h : Nat) : Nat := if h = 0 then 0 else if gw (ls h + 1) = h then h + ls h + 1 else ls h
/-- how many pairs have their lesser heap below a -/
def lc (a : Nat) : Nat := if a = 0 then 0 else ls a + 1
set_option maxRecDepth 100000 in
theorem wy1 : ∀ k, k < 2003 → r5 k * r5 k ≤ 5 * k * k ∧ 5 * k * k < (r5 k + 1) * (r5 k + 1) ∧ 5 * k * k < 30000000 ∧ k ≤ r5 k ∧ r5 k ≤ 5000 := by decide +kernel
set_option maxRecDepth 100000 in
theorem wy2 : ∀ a, a < 2001 → (a ≤ lb a → lb a = a + lc a ∧ lc (a + 1) = lc a + 1 ∧ a = gw (lc a)) ∧ (lb a < a → lc (a + 1) = lc a ∧ lb a = gw (a - lb a)) ∧ (lb a < 2001 → lb (lb a) = a) ∧ lb a < 4000 ∧ lc a < 2001 ∧ ls a < 1500 := by decide +kernel
set_option maxRecDepth 100000 in
theorem wy3 : ∀ k, k < 2002 → gw k < gw (k + 1) ∧ (gw k < 2001 → lb (gw k) = gw k + k) ∧ gw k < 4000 := by decide +kernel
theorem gw_mono {j k : Nat} (hk : k < 2002) (h : j < k) : gw j < gw k := by
  induction k with
  | zero => omega
  | succ k ih =>
    have := (wy3 k (by omega)).1
    rcases Nat.lt_or_ge j k with g | g
    · have := ih (by omega) g
      omega
    · obtain rfl : j = k := by omega
      exact this
/-- what is taken, 0: nothing can be -/
def tk (a b : Nat) : Int := if lb a = b then -1 else if lb b < a then 1000000 + ((a : Int) - lb b) else if lb a < b then 2000000 + ((b : Int) - lb a) else 3000000 + ((min a b : Nat) - (gw (if a ≤ b then b - a else a - b) : Nat) : Int)
theorem lb_inj {a b : Nat} (ha : a < 2001) (hb : b < 2001) : lb a = b ↔ lb b = a := by
  constructor
  · intro h
    have := (wy2 a ha).2.2.1 (by omega)
    rwa [h] at this
  · intro h
    have := (wy2 b hb).2.2.1 (by omega)
    rwa [h] at this
/-- the lesser one of two heaps that make a lost pair, by what they differ -/
theorem lb_gw {a b : Nat} (ha : a < 2001) (hb : b < 2001) (h : lb a = b) : min a b = gw (if a ≤ b then b - a else a - b) := by
  rcases Nat.lt_or_ge b a with g | g
  · have := ((wy2 a ha).2.1 (by omega)).2
    rw [if_neg (by omega), Nat.min_eq_right (by omega), ← h]
    exact this
  · have := (wy2 a ha).1 (by omega)
    rw [if_pos g, Nat.min_eq_left g]
    rw [show b - a = lc a by omega]
    exact this.2.2
/-- if neither heap alone can be brought down to a lost pair, both can -/
theorem gw_both {a b : Nat} (ha : a < 2001) (hb : b < 2001) (h0 : lb a ≠ b) (h1 : a ≤ lb b) (h2 : b ≤ lb a) : gw (if a ≤ b then b - a else a - b) < min a b := by
  have key : ∀ a b : Nat, a < 2001 → b < 2001 → a ≤ b → lb a ≠ b → b ≤ lb a → gw (b - a) < a := by
    intro a b ha hb hab h0 h2
    have w := (wy2 a ha).1 (by omega)
    have := gw_mono (j := b - a) (k := lc a) (by have := (wy2 a ha).2.2.2.2.1; omega) (by omega)
    omega
  rcases Nat.lt_or_ge b a with g | g
  · rw [if_neg (by omega), Nat.min_eq_right (by omega)]
    exact key b a hb ha (by omega) (fun q => h0 ((lb_inj ha hb).mpr q)) h1
  · rw [if_pos g, Nat.min_eq_left g]
    exact key a b ha hb g h0 h2
section WY
variable {sc : en_S} {n : Nat}
theorem e_golden {k : Nat} (hk : k < 2003) {z : en_H} : f_X11_goldenWhole sc (n + 4) (iO k) z = some (some (.int (iO (gw k))), z) := by
  obtain ⟨w1, w2, w3, w4, w5⟩ := wy1 k hk
  have e : (5 : Int) * (k : Int) * (k : Int) = ((5 * k * k : Nat) : Int) := by simp
  have e2 : ((k : Int) + (r5 k : Int)).tdiv 2 = ((gw k : Nat) : Int) := by
    unfold gw
    generalize r5 k = r
    rw [← Int.natCast_add]
    generalize k + r = t
    rfl
  have hg : gw k ≤ 5000 := by unfold gw; omega
  rw [e_X11_goldenWhole, iO_wide (by unfold i32; omega), kl_5, lO_mul, lO_mul, e, e_rootOf (r := r5 k) (by omega) w1 w2]
  simp only [en_bL]
  rw [kl_2, lO_add, lO_div (by unfold i64; omega) (by unfold i64; omega) (by rw [e2]; unfold i64; omega), lO_narrow, e2]
theorem e_lost0 {k r l g : Nat} (hk : k < 2001) (w1 : r * r ≤ 5 * k * k) (w2 : 5 * k * k < (r + 1) * (r + 1)) (w3 : 5 * k * k < 30000000) (w4 : k ≤ r) (w5 : r ≤ 5000) (hl : l = (r - k) / 2) (hg : g < 4000) {z : en_H} (hG : f_X11_goldenWhole sc (n + 4) (iO ((l + 1 : Nat) : Int)) z = some (some (.int (iO g)), z)) : f_X11_lostBeside sc (n + 5) (iO k) z = some (some (.int (iO ((if k = 0 then 0 else if g = k then k + l + 1 else l : Nat) : Int))), z) := by
  have e : (5 : Int) * (k : Int) * (k : Int) = ((5 * k * k : Nat) : Int) := by simp
  have e2 : ((r : Int) - (k : Int)).tdiv 2 = (l : Int) := by
    subst hl
    rw [show (r : Int) - (k : Int) = ((r - k : Nat) : Int) by omega]
    generalize r - k = t
    rfl
  have c0 := iO_eq (a := k) (b := 0) (by unfold i32; omega) (by unfold i32; omega)
  have c1 := iO_eq (a := g) (b := k) (by unfold i32; omega) (by unfold i32; omega)
  rw [e_X11_lostBeside, ki_0]
  by_cases g0 : k = 0
  · rw [if_pos (c0.mpr (by omega)), if_pos g0]; rfl
  · rw [if_neg (fun q => g0 (by have := c0.mp q; omega)), if_neg g0]
    rw [iO_wide (by unfold i32; omega), kl_5, lO_mul, lO_mul, e, e_rootOf (r := r) (by omega) w1 w2]
    simp only [en_bL, en_le]
    rw [kl_2, lO_sub, lO_div (by unfold i64; omega) (by unfold i64; omega) (by rw [e2]; unfold i64; omega), lO_narrow, e2, ki_1, iO_add, iO_add, iO_add]
    rw [show (l : Int) + 1 = ((l + 1 : Nat) : Int) by omega, hG]
    simp only [en_bI]
    by_cases g2 : g = k
    · rw [if_pos (c1.mpr (by omega)), if_pos g2, show (k : Int) + (l : Int) + 1 = ((k + l + 1 : Nat) : Int) by omega]
    · rw [if_neg (fun q => g2 (by have := c1.mp q; omega)), if_neg g2]
theorem e_lost {k : Nat} (hk : k < 2001) {z : en_H} : f_X11_lostBeside sc (n + 5) (iO k) z = some (some (.int (iO (lb k))), z) := by
  obtain ⟨w1, w2, w3, w4, w5⟩ := wy1 k (by omega)
  have wl := (wy2 k hk).2.2.2.2.2
  have hg := (wy3 (ls k + 1) (by omega)).2.2
  exact e_lost0 (r := r5 k) (l := ls k) (g := gw (ls k + 1)) hk w1 w2 w3 w4 w5 rfl hg (e_golden (k := ls k + 1) (by omega))
/-- what wins answers -/
def p_wins (a b : Int) : Int := if 0 ≤ a ∧ a ≤ 2000 then (if 0 ≤ b ∧ b ≤ 2000 then (if lb a.toNat = b.toNat then 0 else 1) else -1) else -1
def p_takes (a b : Int) : Int := if 0 ≤ a ∧ a ≤ 2000 then (if 0 ≤ b ∧ b ≤ 2000 then tk a.toNat b.toNat else -1) else -1
theorem c_wins {a b : Int} (ha : i32 a) (hb : i32 b) {z : en_H} : f_X11_wins sc (n + 6) 1 (iO a) (iO b) z = some (some (.int (iO (p_wins a b))), z) := by
  obtain ⟨ha1, ha2⟩ := id ha
  obtain ⟨hb1, hb2⟩ := id hb
  rw [e_X11_wins]
  unfold p_wins
  by_cases g : 0 ≤ a ∧ a ≤ 2000
  · by_cases g2 : 0 ≤ b ∧ b ≤ 2000
    · obtain ⟨x, rfl⟩ : ∃ x : Nat, a = x := ⟨a.toNat, by omega⟩
      obtain ⟨y, rfl⟩ : ∃ y : Nat, b = y := ⟨b.toNat, by omega⟩
      have hl := (wy2 x (by omega)).2.2.2.1
      simp (disch := (first | assumption | (unfold i32; omega) | (unfold i64; omega) | omega)) only [ki_0, ki_1, ki_2, ki_3, ki_4, ki_5, ki_6, ki_7, ki_8, ki_9, ki_10, ki_11, ki_12, ki_13, ki_14, ki_15, ki_20, ki_21, ki_30, ki_31, ki_40, ki_41, ki_50, ki_51, ki_60, ki_63, ki_64, ki_65, ki_100, ki_158, ki_160, ki_200, ki_212, ki_1000, ki_2000, ki_2001, ki_5000, ki_10000, ki_10001, ki_100000, ki_200000, ki_1000000, ki_2000000, ki_3000000, iO_neg, iO_add, iO_sub, iO_mul, kn_4, kn_8, kn_10, kn_20, kn_24, kn_40, kn_41, kn_50, kn_60, kn_158, kn_160, kn_200, kn_212, kn_2001, tn_lt, fn_lt, tn_le, fn_le, tn_eq, fn_eq, x_lt, x_le, x_eq, x_ix, x_nat, t_lt, f_lt, t_le, f_le, t_eq, f_eq, eq_self, and_self, true_and, and_true, false_and, and_false, if_true, if_false, Int.toNat_natCast, bI_s, bL_s, bA_s, bA_n, bV_s, mq_s, mq_n, en_le, bl_0, bl_1, u_eq, u_ne, w_eq, w_ne, v_eq, v_ne, e_X11_isHeap]
      simp (disch := (first | assumption | (unfold i32; omega) | (unfold i64; omega) | omega)) only [ki_0, ki_1, ki_2, ki_3, ki_4, ki_5, ki_6, ki_7, ki_8, ki_9, ki_10, ki_11, ki_12, ki_13, ki_14, ki_15, ki_20, ki_21, ki_30, ki_31, ki_40, ki_41, ki_50, ki_51, ki_60, ki_63, ki_64, ki_65, ki_100, ki_158, ki_160, ki_200, ki_212, ki_1000, ki_2000, ki_2001, ki_5000, ki_10000, ki_10001, ki_100000, ki_200000, ki_1000000, ki_2000000, ki_3000000, iO_neg, iO_add, iO_sub, iO_mul, kn_4, kn_8, kn_10, kn_20, kn_24, kn_40, kn_41, kn_50, kn_60, kn_158, kn_160, kn_200, kn_212, kn_2001, tn_lt, fn_lt, tn_le, fn_le, tn_eq, fn_eq, x_lt, x_le, x_eq, x_ix, x_nat, t_lt, f_lt, t_le, f_le, t_eq, f_eq, eq_self, and_self, true_and, and_true, false_and, and_false, if_true, if_false, Int.toNat_natCast, bI_s, bL_s, bA_s, bA_n, bV_s, mq_s, mq_n, en_le, bl_0, bl_1, u_eq, u_ne, w_eq, w_ne, v_eq, v_ne, e_X11_isHeap, e_lost]
      by_cases g3 : lb x = y
      · simp (disch := (first | assumption | (unfold i32; omega) | (unfold i64; omega) | omega)) only [ki_0, ki_1, ki_2, ki_3, ki_4, ki_5, ki_6, ki_7, ki_8, ki_9, ki_10, ki_11, ki_12, ki_13, ki_14, ki_15, ki_20, ki_21, ki_30, ki_31, ki_40, ki_41, ki_50, ki_51, ki_60, ki_63, ki_64, ki_65, ki_100, ki_158, ki_160, ki_200, ki_212, ki_1000, ki_2000, ki_2001, ki_5000, ki_10000, ki_10001, ki_100000, ki_200000, ki_1000000, ki_2000000, ki_3000000, iO_neg, iO_add, iO_sub, iO_mul, kn_4, kn_8, kn_10, kn_20, kn_24, kn_40, kn_41, kn_50, kn_60, kn_158, kn_160, kn_200, kn_212, kn_2001, tn_lt, fn_lt, tn_le, fn_le, tn_eq, fn_eq, x_lt, x_le, x_eq, x_ix, x_nat, t_lt, f_lt, t_le, f_le, t_eq, f_eq, eq_self, and_self, true_and, and_true, false_and, and_false, if_true, if_false, Int.toNat_natCast, bI_s, bL_s, bA_s, bA_n, bV_s, mq_s, mq_n, en_le, bl_0, bl_1, u_eq, u_ne, w_eq, w_ne, v_eq, v_ne, e_X11_isHeap]
      · simp (disch := (first | assumption | (unfold i32; omega) | (unfold i64; omega) | omega)) only [ki_0, ki_1, ki_2, ki_3, ki_4, ki_5, ki_6, ki_7, ki_8, ki_9, ki_10, ki_11, ki_12, ki_13, ki_14, ki_15, ki_20, ki_21, ki_30, ki_31, ki_40, ki_41, ki_50, ki_51, ki_60, ki_63, ki_64, ki_65, ki_100, ki_158, ki_160, ki_200, ki_212, ki_1000, ki_2000, ki_2001, ki_5000, ki_10000, ki_10001, ki_100000, ki_200000, ki_1000000, ki_2000000, ki_3000000, iO_neg, iO_add, iO_sub, iO_mul, kn_4, kn_8, kn_10, kn_20, kn_24, kn_40, kn_41, kn_50, kn_60, kn_158, kn_160, kn_200, kn_212, kn_2001, tn_lt, fn_lt, tn_le, fn_le, tn_eq, fn_eq, x_lt, x_le, x_eq, x_ix, x_nat, t_lt, f_lt, t_le, f_le, t_eq, f_eq, eq_self, and_self, true_and, and_true, false_and, and_false, if_true, if_false, Int.toNat_natCast, bI_s, bL_s, bA_s, bA_n, bV_s, mq_s, mq_n, en_le, bl_0, bl_1, u_eq, u_ne, w_eq, w_ne, v_eq, v_ne, e_X11_isHeap]
    · rcases Int.lt_or_le b 0 with g3 | g3
      · simp (disch := (first | assumption | (unfold i32; omega) | (unfold i64; omega) | omega)) only [ki_0, ki_1, ki_2, ki_3, ki_4, ki_5, ki_6, ki_7, ki_8, ki_9, ki_10, ki_11, ki_12, ki_13, ki_14, ki_15, ki_20, ki_21, ki_30, ki_31, ki_40, ki_41, ki_50, ki_51, ki_60, ki_63, ki_64, ki_65, ki_100, ki_158, ki_160, ki_200, ki_212, ki_1000, ki_2000, ki_2001, ki_5000, ki_10000, ki_10001, ki_100000, ki_200000, ki_1000000, ki_2000000, ki_3000000, iO_neg, iO_add, iO_sub, iO_mul, kn_4, kn_8, kn_10, kn_20, kn_24, kn_40, kn_41, kn_50, kn_60, kn_158, kn_160, kn_200, kn_212, kn_2001, tn_lt, fn_lt, tn_le, fn_le, tn_eq, fn_eq, x_lt, x_le, x_eq, x_ix, x_nat, t_lt, f_lt, t_le, f_le, t_eq, f_eq, eq_self, and_self, true_and, and_true, false_and, and_false, if_true, if_false, Int.toNat_natCast, bI_s, bL_s, bA_s, bA_n, bV_s, mq_s, mq_n, en_le, bl_0, bl_1, u_eq, u_ne, w_eq, w_ne, v_eq, v_ne, e_X11_isHeap]
      · simp (disch := (first | assumption | (unfold i32; omega) | (unfold i64; omega) | omega)) only [ki_0, ki_1, ki_2, ki_3, ki_4, ki_5, ki_6, ki_7, ki_8, ki_9, ki_10, ki_11, ki_12, ki_13, ki_14, ki_15, ki_20, ki_21, ki_30, ki_31, ki_40, ki_41, ki_50, ki_51, ki_60, ki_63, ki_64, ki_65, ki_100, ki_158, ki_160, ki_200, ki_212, ki_1000, ki_2000, ki_2001, ki_5000, ki_10000, ki_10001, ki_100000, ki_200000, ki_1000000, ki_2000000, ki_3000000, iO_neg, iO_add, iO_sub, iO_mul, kn_4, kn_8, kn_10, kn_20, kn_24, kn_40, kn_41, kn_50, kn_60, kn_158, kn_160, kn_200, kn_212, kn_2001, tn_lt, fn_lt, tn_le, fn_le, tn_eq, fn_eq, x_lt, x_le, x_eq, x_ix, x_nat, t_lt, f_lt, t_le, f_le, t_eq, f_eq, eq_self, and_self, true_and, and_true, false_and, and_false, if_true, if_false, Int.toNat_natCast, bI_s, bL_s, bA_s, bA_n, bV_s, mq_s, mq_n, en_le, bl_0, bl_1, u_eq, u_ne, w_eq, w_ne, v_eq, v_ne, e_X11_isHeap]
  · rcases Int.lt_or_le a 0 with g3 | g3
    · simp (disch := (first | assumption | (unfold i32; omega) | (unfold i64; omega) | omega)) only [ki_0, ki_1, ki_2, ki_3, ki_4, ki_5, ki_6, ki_7, ki_8, ki_9, ki_10, ki_11, ki_12, ki_13, ki_14, ki_15, ki_20, ki_21, ki_30, ki_31, ki_40, ki_41, ki_50, ki_51, ki_60, ki_63, ki_64, ki_65, ki_100, ki_158, ki_160, ki_200, ki_212, ki_1000, ki_2000, ki_2001, ki_5000, ki_10000, ki_10001, ki_100000, ki_200000, ki_1000000, ki_2000000, ki_3000000, iO_neg, iO_add, iO_sub, iO_mul, kn_4, kn_8, kn_10, kn_20, kn_24, kn_40, kn_41, kn_50, kn_60, kn_158, kn_160, kn_200, kn_212, kn_2001, tn_lt, fn_lt, tn_le, fn_le, tn_eq, fn_eq, x_lt, x_le, x_eq, x_ix, x_nat, t_lt, f_lt, t_le, f_le, t_eq, f_eq, eq_self, and_self, true_and, and_true, false_and, and_false, if_true, if_false, Int.toNat_natCast, bI_s, bL_s, bA_s, bA_n, bV_s, mq_s, mq_n, en_le, bl_0, bl_1, u_eq, u_ne, w_eq, w_ne, v_eq, v_ne, e_X11_isHeap]
    · simp (disch := (first | assumption | (unfold i32; omega) | (unfold i64; omega) | omega)) only [ki_0, ki_1, ki_2, ki_3, ki_4, ki_5, ki_6, ki_7, ki_8, ki_9, ki_10, ki_11, ki_12, ki_13, ki_14, ki_15, ki_20, ki_21, ki_30, ki_31, ki_40, ki_41, ki_50, ki_51, ki_60, ki_63, ki_64, ki_65, ki_100, ki_158, ki_160, ki_200, ki_212, ki_1000, ki_2000, ki_2001, ki_5000, ki_10000, ki_10001, ki_100000, ki_200000, ki_1000000, ki_2000000, ki_3000000, iO_neg, iO_add, iO_sub, iO_mul, kn_4, kn_8, kn_10, kn_20, kn_24, kn_40, kn_41, kn_50, kn_60, kn_158, kn_160, kn_200, kn_212, kn_2001, tn_lt, fn_lt, tn_le, fn_le, tn_eq, fn_eq, x_lt, x_le, x_eq, x_ix, x_nat, t_lt, f_lt, t_le, f_le, t_eq, f_eq, eq_self, and_self, true_and, and_true, false_and, and_false, if_true, if_false, Int.toNat_natCast, bI_s, bL_s, bA_s, bA_n, bV_s, mq_s, mq_n, en_le, bl_0, bl_1, u_eq, u_ne, w_eq, w_ne, v_eq, v_ne, e_X11_isHeap]
end WY
