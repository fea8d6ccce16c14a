/-! THE GREATEST COMMON DIVISOR, both sides; the greatest square in d -/
theorem whl_0 (x d m : Int) : whl x 0 d m = x / m := by
  unfold whl fl
  rw [if_pos (Int.le_refl 0)]
  have e : ((0 : Int) * 0 * d).toNat = 0 := by simp
  rw [e]
  have h := isq_le 0
  have : isq 0 = 0 := by
    rcases Nat.eq_zero_or_pos (isq 0) with h1 | h1
    · exact h1
    · have := Nat.mul_pos h1 h1
      omega
  rw [this]
  simp
theorem gcd_step (x y : Nat) : Nat.gcd x y = Nat.gcd y (x % y) := by rw [Nat.gcd_comm, Nat.gcd_rec, Nat.gcd_comm]
theorem natAbs_if (a : Int) : (if 0 ≤ a then a else -a) = (a.natAbs : Int) := by split <;> omega
section GCD
variable {sc : en_S} {n : Nat} {z : en_H}
theorem l_mod {x y : Nat} (hx : x < 2 ^ 62) (hy : y < 2 ^ 62) : lO (x : Nat) - lO (x : Nat) / lO (y : Nat) * lO (y : Nat) = lO ((x % y : Nat) : Int) := by
  have e : ((x : Int)).tdiv (y : Int) = ((x / y : Nat) : Int) := rfl
  have : x / y < 2 ^ 62 := Nat.lt_of_le_of_lt (Nat.div_le_self x y) hx
  rw [lO_div (by unfold i64; omega) (by unfold i64; omega) (by rw [e]; generalize x / y = w at this ⊢; unfold i64; omega), e, lO_mul, lO_sub]
  congr 1
  have h := Nat.mod_add_div x y
  rw [Nat.mul_comm] at h
  have h2 : ((x / y * y : Nat) : Int) = ((x / y : Nat) : Int) * (y : Int) := Int.natCast_mul _ _
  omega
theorem e_common_loop : ∀ (j : Nat) (x y r : Nat), y ≤ x → x * y < 2 ^ j → x < 2 ^ 62 → r + j + 1 ≤ 100 → b_X11_commonOf_1 sc n (lO (x : Nat)) (lO (y : Nat)) (iO (r : Nat)) z = some (some (.long (lO (Nat.gcd x y : Nat))), z) := by
  intro j
  induction j with
  | zero =>
    intro x y r h1 h2 h3 h4
    have hy : y = 0 := by
      rcases Nat.eq_zero_or_pos y with g | g
      · exact g
      · have := Nat.mul_pos (show 0 < x by omega) g
        omega
    subst hy
    rw [eb_X11_commonOf_1, Nat.gcd_zero_right]
    simp (disch := (first | assumption | (unfold i32; omega) | (unfold i64; omega) | omega)) only [ki_0, ki_1, ki_2, ki_3, ki_4, ki_5, ki_6, ki_7, ki_8, ki_9, ki_10, ki_11, ki_12, ki_13, ki_14, ki_15, ki_20, ki_21, ki_30, ki_31, ki_40, ki_41, ki_50, ki_51, ki_60, ki_63, ki_64, ki_65, ki_100, ki_158, ki_160, ki_200, ki_212, ki_1000, ki_2000, ki_2001, ki_5000, ki_10000, ki_10001, ki_100000, ki_200000, ki_1000000, ki_2000000, ki_3000000, iO_neg, iO_add, iO_sub, iO_mul, kn_4, kn_8, kn_10, kn_20, kn_24, kn_40, kn_41, kn_50, kn_60, kn_158, kn_160, kn_200, kn_212, kn_2001, tn_lt, fn_lt, tn_le, fn_le, tn_eq, fn_eq, x_lt, x_le, x_eq, x_ix, x_nat, t_lt, f_lt, t_le, f_le, t_eq, f_eq, eq_self, and_self, true_and, and_true, false_and, and_false, if_true, if_false, Int.toNat_natCast, bI_s, bL_s, bA_s, bA_n, bV_s, mq_s, mq_n, en_le, bl_0, bl_1, u_eq, u_ne, w_eq, w_ne, v_eq, v_ne, kl_0, kl_1, kl_2, kl_5, kl_7, kl_20, kl_63, kl_10000, lO_neg, lO_add, lO_sub, lO_mul, lc_lt, lc_le, lc_gt, lc_ge, lc_eq, y_lt, y_le, y_eq]
  | succ j ih =>
    intro x y r h1 h2 h3 h4
    rw [eb_X11_commonOf_1]
    rcases Nat.eq_zero_or_pos y with g | g
    · subst g
      rw [Nat.gcd_zero_right]
      simp (disch := (first | assumption | (unfold i32; omega) | (unfold i64; omega) | omega)) only [ki_0, ki_1, ki_2, ki_3, ki_4, ki_5, ki_6, ki_7, ki_8, ki_9, ki_10, ki_11, ki_12, ki_13, ki_14, ki_15, ki_20, ki_21, ki_30, ki_31, ki_40, ki_41, ki_50, ki_51, ki_60, ki_63, ki_64, ki_65, ki_100, ki_158, ki_160, ki_200, ki_212, ki_1000, ki_2000, ki_2001, ki_5000, ki_10000, ki_10001, ki_100000, ki_200000, ki_1000000, ki_2000000, ki_3000000, iO_neg, iO_add, iO_sub, iO_mul, kn_4, kn_8, kn_10, kn_20, kn_24, kn_40, kn_41, kn_50, kn_60, kn_158, kn_160, kn_200, kn_212, kn_2001, tn_lt, fn_lt, tn_le, fn_le, tn_eq, fn_eq, x_lt, x_le, x_eq, x_ix, x_nat, t_lt, f_lt, t_le, f_le, t_eq, f_eq, eq_self, and_self, true_and, and_true, false_and, and_false, if_true, if_false, Int.toNat_natCast, bI_s, bL_s, bA_s, bA_n, bV_s, mq_s, mq_n, en_le, bl_0, bl_1, u_eq, u_ne, w_eq, w_ne, v_eq, v_ne, kl_0, kl_1, kl_2, kl_5, kl_7, kl_20, kl_63, kl_10000, lO_neg, lO_add, lO_sub, lO_mul, lc_lt, lc_le, lc_gt, lc_ge, lc_eq, y_lt, y_le, y_eq]
    · have hm : x % y < y := Nat.mod_lt x g
      have h5 : 2 * (x % y) ≤ x := by
        have := Nat.mod_add_div x y
        have h6 : 1 ≤ x / y := (Nat.le_div_iff_mul_le g).mpr (by omega)
        have h7 : y * 1 ≤ y * (x / y) := Nat.mul_le_mul_left y h6
        omega
      have h8 : y * (x % y) < 2 ^ j := by
        have h9 : y * (2 * (x % y)) ≤ y * x := Nat.mul_le_mul_left y h5
        have e : y * (2 * (x % y)) = 2 * (y * (x % y)) := by rw [Nat.mul_left_comm]
        rw [Nat.mul_comm y x] at h9
        rw [Nat.pow_succ] at h2
        omega
      have := ih y (x % y) (r + 1) (by omega) h8 (by omega) (by omega)
      rw [gcd_step, ← this]
      simp (disch := (first | assumption | (unfold i32; omega) | (unfold i64; omega) | omega)) only [ki_0, ki_1, ki_2, ki_3, ki_4, ki_5, ki_6, ki_7, ki_8, ki_9, ki_10, ki_11, ki_12, ki_13, ki_14, ki_15, ki_20, ki_21, ki_30, ki_31, ki_40, ki_41, ki_50, ki_51, ki_60, ki_63, ki_64, ki_65, ki_100, ki_158, ki_160, ki_200, ki_212, ki_1000, ki_2000, ki_2001, ki_5000, ki_10000, ki_10001, ki_100000, ki_200000, ki_1000000, ki_2000000, ki_3000000, iO_neg, iO_add, iO_sub, iO_mul, kn_4, kn_8, kn_10, kn_20, kn_24, kn_40, kn_41, kn_50, kn_60, kn_158, kn_160, kn_200, kn_212, kn_2001, tn_lt, fn_lt, tn_le, fn_le, tn_eq, fn_eq, x_lt, x_le, x_eq, x_ix, x_nat, t_lt, f_lt, t_le, f_le, t_eq, f_eq, eq_self, and_self, true_and, and_true, false_and, and_false, if_true, if_false, Int.toNat_natCast, bI_s, bL_s, bA_s, bA_n, bV_s, mq_s, mq_n, en_le, bl_0, bl_1, u_eq, u_ne, w_eq, w_ne, v_eq, v_ne, lc_lt, lc_le, lc_gt, lc_ge, lc_eq, y_lt, y_le, y_eq, kl_0]
      rw [l_mod h3 (by omega)]
      rfl
theorem e_common {a b : Int} (ha : -1000000 ≤ a) (ha2 : a ≤ 1000000) (hb : -1000000 ≤ b) (hb2 : b ≤ 1000000) : f_X11_commonOf sc (n + 2) (lO a) (lO b) z = some (some (.long (lO (Int.gcd a b : Nat))), z) := by
  rw [e_X11_commonOf, e_absL (by unfold i64; omega)]
  simp only [bL_s]
  rw [e_absL (by unfold i64; omega)]
  simp only [bL_s]
  rw [natAbs_if, natAbs_if]
  show b_X11_commonOf_1 sc (n + 1) _ _ (iO ((0 : Nat) : Int)) z = _
  have e : Int.gcd a b = Nat.gcd a.natAbs b.natAbs := rfl
  rw [e]
  have ha3 : a.natAbs ≤ 1000000 := by omega
  have hb3 : b.natAbs ≤ 1000000 := by omega
  generalize a.natAbs = x at *
  generalize b.natAbs = y at *
  have hxy : x * y ≤ 1000000 * 1000000 := Nat.mul_le_mul ha3 hb3
  rcases Nat.lt_or_ge x y with g | g
  · rw [eb_X11_commonOf_1]
    have := e_common_loop (sc := sc) (n := n + 1) (z := z) 41 y x 1 (by omega) (by rw [Nat.mul_comm]; omega) (by omega) (by omega)
    rw [Nat.gcd_comm, ← this]
    simp (disch := (first | assumption | (unfold i32; omega) | (unfold i64; omega) | omega)) only [ki_0, ki_1, ki_2, ki_3, ki_4, ki_5, ki_6, ki_7, ki_8, ki_9, ki_10, ki_11, ki_12, ki_13, ki_14, ki_15, ki_20, ki_21, ki_30, ki_31, ki_40, ki_41, ki_50, ki_51, ki_60, ki_63, ki_64, ki_65, ki_100, ki_158, ki_160, ki_200, ki_212, ki_1000, ki_2000, ki_2001, ki_5000, ki_10000, ki_10001, ki_100000, ki_200000, ki_1000000, ki_2000000, ki_3000000, iO_neg, iO_add, iO_sub, iO_mul, kn_4, kn_8, kn_10, kn_20, kn_24, kn_40, kn_41, kn_50, kn_60, kn_158, kn_160, kn_200, kn_212, kn_2001, tn_lt, fn_lt, tn_le, fn_le, tn_eq, fn_eq, x_lt, x_le, x_eq, x_ix, x_nat, t_lt, f_lt, t_le, f_le, t_eq, f_eq, eq_self, and_self, true_and, and_true, false_and, and_false, if_true, if_false, Int.toNat_natCast, bI_s, bL_s, bA_s, bA_n, bV_s, mq_s, mq_n, en_le, bl_0, bl_1, u_eq, u_ne, w_eq, w_ne, v_eq, v_ne, lc_lt, lc_le, lc_gt, lc_ge, lc_eq, y_lt, y_le, y_eq, kl_0]
    rw [l_mod (by omega) (by omega), Nat.mod_eq_of_lt g]
    rfl
  · exact e_common_loop 41 x y 0 g (by omega) (by omega) (by omega)
theorem m_common_loop : ∀ (y x : Nat), x < 2 ^ 62 → y < 2 ^ 62 → b_X12_common_5 sc n (lO (x : Nat)) (lO (y : Nat)) z = some (some (.long (lO (Nat.gcd x y : Nat))), z) := by
  intro y
  induction y using Nat.strongRecOn with
  | ind y ih =>
    intro x hx hy
    rw [eb_X12_common_5]
    rcases Nat.eq_zero_or_pos y with g | g
    · subst g
      rw [Nat.gcd_zero_right]
      simp (disch := (first | assumption | (unfold i32; omega) | (unfold i64; omega) | omega)) only [ki_0, ki_1, ki_2, ki_3, ki_4, ki_5, ki_6, ki_7, ki_8, ki_9, ki_10, ki_11, ki_12, ki_13, ki_14, ki_15, ki_20, ki_21, ki_30, ki_31, ki_40, ki_41, ki_50, ki_51, ki_60, ki_63, ki_64, ki_65, ki_100, ki_158, ki_160, ki_200, ki_212, ki_1000, ki_2000, ki_2001, ki_5000, ki_10000, ki_10001, ki_100000, ki_200000, ki_1000000, ki_2000000, ki_3000000, iO_neg, iO_add, iO_sub, iO_mul, kn_4, kn_8, kn_10, kn_20, kn_24, kn_40, kn_41, kn_50, kn_60, kn_158, kn_160, kn_200, kn_212, kn_2001, tn_lt, fn_lt, tn_le, fn_le, tn_eq, fn_eq, x_lt, x_le, x_eq, x_ix, x_nat, t_lt, f_lt, t_le, f_le, t_eq, f_eq, eq_self, and_self, true_and, and_true, false_and, and_false, if_true, if_false, Int.toNat_natCast, bI_s, bL_s, bA_s, bA_n, bV_s, mq_s, mq_n, en_le, bl_0, bl_1, u_eq, u_ne, w_eq, w_ne, v_eq, v_ne, kl_0, kl_1, kl_2, kl_5, kl_7, kl_20, kl_63, kl_10000, lO_neg, lO_add, lO_sub, lO_mul, lc_lt, lc_le, lc_gt, lc_ge, lc_eq, y_lt, y_le, y_eq]
    · have hm : x % y < y := Nat.mod_lt x g
      have := ih (x % y) hm y hy (by omega)
      rw [gcd_step, ← this]
      simp (disch := (first | assumption | (unfold i32; omega) | (unfold i64; omega) | omega)) only [ki_0, ki_1, ki_2, ki_3, ki_4, ki_5, ki_6, ki_7, ki_8, ki_9, ki_10, ki_11, ki_12, ki_13, ki_14, ki_15, ki_20, ki_21, ki_30, ki_31, ki_40, ki_41, ki_50, ki_51, ki_60, ki_63, ki_64, ki_65, ki_100, ki_158, ki_160, ki_200, ki_212, ki_1000, ki_2000, ki_2001, ki_5000, ki_10000, ki_10001, ki_100000, ki_200000, ki_1000000, ki_2000000, ki_3000000, iO_neg, iO_add, iO_sub, iO_mul, kn_4, kn_8, kn_10, kn_20, kn_24, kn_40, kn_41, kn_50, kn_60, kn_158, kn_160, kn_200, kn_212, kn_2001, tn_lt, fn_lt, tn_le, fn_le, tn_eq, fn_eq, x_lt, x_le, x_eq, x_ix, x_nat, t_lt, f_lt, t_le, f_le, t_eq, f_eq, eq_self, and_self, true_and, and_true, false_and, and_false, if_true, if_false, Int.toNat_natCast, bI_s, bL_s, bA_s, bA_n, bV_s, mq_s, mq_n, en_le, bl_0, bl_1, u_eq, u_ne, w_eq, w_ne, v_eq, v_ne, lc_lt, lc_le, lc_gt, lc_ge, lc_eq, y_lt, y_le, y_eq, kl_0]
      rw [l_mod hx hy]
theorem m_common {a b : Int} (ha : -4611686018427387904 < a) (ha2 : a < 4611686018427387904) (hb : -4611686018427387904 < b) (hb2 : b < 4611686018427387904) : f_X12_common sc (n + 1) (lO a) (lO b) z = some (some (.long (lO (Int.gcd a b : Nat))), z) := by
  have e : Int.gcd a b = Nat.gcd a.natAbs b.natAbs := rfl
  have key : ∀ x : Nat, x < 2 ^ 62 → b_X12_common_2 sc n (lO b) (lO (x : Nat)) z = some (some (.long (lO (Nat.gcd x b.natAbs : Nat))), z) := by
    intro x hx
    rw [eb_X12_common_2, ← m_common_loop (sc := sc) (n := n) (z := z) b.natAbs x hx (by omega)]
    by_cases g : 0 ≤ b
    · simp (disch := (first | assumption | (unfold i32; omega) | (unfold i64; omega) | omega)) only [ki_0, ki_1, ki_2, ki_3, ki_4, ki_5, ki_6, ki_7, ki_8, ki_9, ki_10, ki_11, ki_12, ki_13, ki_14, ki_15, ki_20, ki_21, ki_30, ki_31, ki_40, ki_41, ki_50, ki_51, ki_60, ki_63, ki_64, ki_65, ki_100, ki_158, ki_160, ki_200, ki_212, ki_1000, ki_2000, ki_2001, ki_5000, ki_10000, ki_10001, ki_100000, ki_200000, ki_1000000, ki_2000000, ki_3000000, iO_neg, iO_add, iO_sub, iO_mul, kn_4, kn_8, kn_10, kn_20, kn_24, kn_40, kn_41, kn_50, kn_60, kn_158, kn_160, kn_200, kn_212, kn_2001, tn_lt, fn_lt, tn_le, fn_le, tn_eq, fn_eq, x_lt, x_le, x_eq, x_ix, x_nat, t_lt, f_lt, t_le, f_le, t_eq, f_eq, eq_self, and_self, true_and, and_true, false_and, and_false, if_true, if_false, Int.toNat_natCast, bI_s, bL_s, bA_s, bA_n, bV_s, mq_s, mq_n, en_le, bl_0, bl_1, u_eq, u_ne, w_eq, w_ne, v_eq, v_ne, lc_lt, lc_le, lc_gt, lc_ge, lc_eq, y_lt, y_le, y_eq, kl_0]
      rw [show ((b.natAbs : Nat) : Int) = b by omega]
    · simp (disch := (first | assumption | (unfold i32; omega) | (unfold i64; omega) | omega)) only [ki_0, ki_1, ki_2, ki_3, ki_4, ki_5, ki_6, ki_7, ki_8, ki_9, ki_10, ki_11, ki_12, ki_13, ki_14, ki_15, ki_20, ki_21, ki_30, ki_31, ki_40, ki_41, ki_50, ki_51, ki_60, ki_63, ki_64, ki_65, ki_100, ki_158, ki_160, ki_200, ki_212, ki_1000, ki_2000, ki_2001, ki_5000, ki_10000, ki_10001, ki_100000, ki_200000, ki_1000000, ki_2000000, ki_3000000, iO_neg, iO_add, iO_sub, iO_mul, kn_4, kn_8, kn_10, kn_20, kn_24, kn_40, kn_41, kn_50, kn_60, kn_158, kn_160, kn_200, kn_212, kn_2001, tn_lt, fn_lt, tn_le, fn_le, tn_eq, fn_eq, x_lt, x_le, x_eq, x_ix, x_nat, t_lt, f_lt, t_le, f_le, t_eq, f_eq, eq_self, and_self, true_and, and_true, false_and, and_false, if_true, if_false, Int.toNat_natCast, bI_s, bL_s, bA_s, bA_n, bV_s, mq_s, mq_n, en_le, bl_0, bl_1, u_eq, u_ne, w_eq, w_ne, v_eq, v_ne, lc_lt, lc_le, lc_gt, lc_ge, lc_eq, y_lt, y_le, y_eq, kl_0, lO_neg]
      rw [show ((b.natAbs : Nat) : Int) = -b by omega]
  rw [e_X12_common, e, ← key a.natAbs (by omega)]
  by_cases g : 0 ≤ a
  · simp (disch := (first | assumption | (unfold i32; omega) | (unfold i64; omega) | omega)) only [ki_0, ki_1, ki_2, ki_3, ki_4, ki_5, ki_6, ki_7, ki_8, ki_9, ki_10, ki_11, ki_12, ki_13, ki_14, ki_15, ki_20, ki_21, ki_30, ki_31, ki_40, ki_41, ki_50, ki_51, ki_60, ki_63, ki_64, ki_65, ki_100, ki_158, ki_160, ki_200, ki_212, ki_1000, ki_2000, ki_2001, ki_5000, ki_10000, ki_10001, ki_100000, ki_200000, ki_1000000, ki_2000000, ki_3000000, iO_neg, iO_add, iO_sub, iO_mul, kn_4, kn_8, kn_10, kn_20, kn_24, kn_40, kn_41, kn_50, kn_60, kn_158, kn_160, kn_200, kn_212, kn_2001, tn_lt, fn_lt, tn_le, fn_le, tn_eq, fn_eq, x_lt, x_le, x_eq, x_ix, x_nat, t_lt, f_lt, t_le, f_le, t_eq, f_eq, eq_self, and_self, true_and, and_true, false_and, and_false, if_true, if_false, Int.toNat_natCast, bI_s, bL_s, bA_s, bA_n, bV_s, mq_s, mq_n, en_le, bl_0, bl_1, u_eq, u_ne, w_eq, w_ne, v_eq, v_ne, lc_lt, lc_le, lc_gt, lc_ge, lc_eq, y_lt, y_le, y_eq, kl_0]
    rw [show ((a.natAbs : Nat) : Int) = a by omega]
  · simp (disch := (first | assumption | (unfold i32; omega) | (unfold i64; omega) | omega)) only [ki_0, ki_1, ki_2, ki_3, ki_4, ki_5, ki_6, ki_7, ki_8, ki_9, ki_10, ki_11, ki_12, ki_13, ki_14, ki_15, ki_20, ki_21, ki_30, ki_31, ki_40, ki_41, ki_50, ki_51, ki_60, ki_63, ki_64, ki_65, ki_100, ki_158, ki_160, ki_200, ki_212, ki_1000, ki_2000, ki_2001, ki_5000, ki_10000, ki_10001, ki_100000, ki_200000, ki_1000000, ki_2000000, ki_3000000, iO_neg, iO_add, iO_sub, iO_mul, kn_4, kn_8, kn_10, kn_20, kn_24, kn_40, kn_41, kn_50, kn_60, kn_158, kn_160, kn_200, kn_212, kn_2001, tn_lt, fn_lt, tn_le, fn_le, tn_eq, fn_eq, x_lt, x_le, x_eq, x_ix, x_nat, t_lt, f_lt, t_le, f_le, t_eq, f_eq, eq_self, and_self, true_and, and_true, false_and, and_false, if_true, if_false, Int.toNat_natCast, bI_s, bL_s, bA_s, bA_n, bV_s, mq_s, mq_n, en_le, bl_0, bl_1, u_eq, u_ne, w_eq, w_ne, v_eq, v_ne, lc_lt, lc_le, lc_gt, lc_ge, lc_eq, y_lt, y_le, y_eq, kl_0, lO_neg]
    rw [show ((a.natAbs : Nat) : Int) = -a by omega]
/-- the greatest number up to t whose square divides d -/
def sqn : Nat → Int → Int
  | 0, _ => 1
  | 1, _ => 1
  | t + 2, d => if d % (((t + 2 : Nat) : Int) * ((t + 2 : Nat) : Int)) = 0 then ((t + 2 : Nat) : Int) else sqn (t + 1) d
theorem sqn_d : ∀ d : Nat, d < 51 → 2 ≤ d → (1 ≤ sqn 7 d ∧ sqn 7 d ≤ 7 ∧ (d : Int) = (d : Int) / (sqn 7 d * sqn 7 d) * (sqn 7 d * sqn 7 d)) ∧ ((∀ k : Nat, k < 8 → k * k ≠ d) → (d : Int) / (sqn 7 d * sqn 7 d) ∈ sqfl) := by decide +kernel
theorem sqfl_ok : ∀ d ∈ sqfl, 2 ≤ d ∧ d ≤ 47 := by decide
theorem sqfl_nsq : ∀ d ∈ sqfl, nsq d := by
  intro d hd
  unfold sqfl at hd
  simp only [List.mem_cons, List.mem_nil_iff, or_false] at hd
  have key : ∃ k : Nat, k < 8 ∧ ((k : Int) * k < d ∧ d < (k + 1) * (k + 1)) := by
    rcases hd with h | h | h | h | h | h | h | h | h | h | h | h | h | h | h | h | h | h | h | h | h | h | h | h | h | h | h | h | h | h <;> subst h <;> decide
  obtain ⟨k, -, h1, h2⟩ := key
  exact ⟨k, by omega, h1, h2⟩
theorem e_square_loop {d : Int} (hd : 0 ≤ d) (hd2 : d ≤ 1000) : ∀ t : Nat, 1 ≤ t → t ≤ 7 → b_X7_squareIn_1 sc n (lO d) (lO (t : Nat)) z = some (some (.long (lO (sqn t d))), z)
  | 0, h, _ => by omega
  | 1, _, _ => by
    rw [eb_X7_squareIn_1, sqn]
    simp (disch := (first | assumption | (unfold i32; omega) | (unfold i64; omega) | omega)) only [ki_0, ki_1, ki_2, ki_3, ki_4, ki_5, ki_6, ki_7, ki_8, ki_9, ki_10, ki_11, ki_12, ki_13, ki_14, ki_15, ki_20, ki_21, ki_30, ki_31, ki_40, ki_41, ki_50, ki_51, ki_60, ki_63, ki_64, ki_65, ki_100, ki_158, ki_160, ki_200, ki_212, ki_1000, ki_2000, ki_2001, ki_5000, ki_10000, ki_10001, ki_100000, ki_200000, ki_1000000, ki_2000000, ki_3000000, iO_neg, iO_add, iO_sub, iO_mul, kn_4, kn_8, kn_10, kn_20, kn_24, kn_40, kn_41, kn_50, kn_60, kn_158, kn_160, kn_200, kn_212, kn_2001, tn_lt, fn_lt, tn_le, fn_le, tn_eq, fn_eq, x_lt, x_le, x_eq, x_ix, x_nat, t_lt, f_lt, t_le, f_le, t_eq, f_eq, eq_self, and_self, true_and, and_true, false_and, and_false, if_true, if_false, Int.toNat_natCast, bI_s, bL_s, bA_s, bA_n, bV_s, mq_s, mq_n, en_le, bl_0, bl_1, u_eq, u_ne, w_eq, w_ne, v_eq, v_ne, kl_0, kl_1, kl_2, kl_5, kl_7, kl_20, kl_63, kl_10000, lO_neg, lO_add, lO_sub, lO_mul, lc_lt, lc_le, lc_gt, lc_ge, lc_eq, y_lt, y_le, y_eq]
  | t + 2, _, h => by
    have ht : ((t + 2 : Nat) : Int) * ((t + 2 : Nat) : Int) = (((t + 2) * (t + 2) : Nat) : Int) := (Int.natCast_mul _ _).symm
    have ht2 : (t + 2) * (t + 2) ≤ 49 := Nat.mul_le_mul (show t + 2 ≤ 7 by omega) (show t + 2 ≤ 7 by omega)
    have ht3 : 0 < (t + 2) * (t + 2) := Nat.mul_pos (by omega) (by omega)
    obtain ⟨x, rfl⟩ : ∃ x : Nat, d = x := ⟨d.toNat, by omega⟩
    have ih := e_square_loop (d := (x : Int)) hd hd2 (t + 1) (by omega) (by omega)
    rw [eb_X7_squareIn_1, sqn, ht]
    simp (disch := (first | assumption | (unfold i32; omega) | (unfold i64; omega) | omega)) only [ki_0, ki_1, ki_2, ki_3, ki_4, ki_5, ki_6, ki_7, ki_8, ki_9, ki_10, ki_11, ki_12, ki_13, ki_14, ki_15, ki_20, ki_21, ki_30, ki_31, ki_40, ki_41, ki_50, ki_51, ki_60, ki_63, ki_64, ki_65, ki_100, ki_158, ki_160, ki_200, ki_212, ki_1000, ki_2000, ki_2001, ki_5000, ki_10000, ki_10001, ki_100000, ki_200000, ki_1000000, ki_2000000, ki_3000000, iO_neg, iO_add, iO_sub, iO_mul, kn_4, kn_8, kn_10, kn_20, kn_24, kn_40, kn_41, kn_50, kn_60, kn_158, kn_160, kn_200, kn_212, kn_2001, tn_lt, fn_lt, tn_le, fn_le, tn_eq, fn_eq, x_lt, x_le, x_eq, x_ix, x_nat, t_lt, f_lt, t_le, f_le, t_eq, f_eq, eq_self, and_self, true_and, and_true, false_and, and_false, if_true, if_false, Int.toNat_natCast, bI_s, bL_s, bA_s, bA_n, bV_s, mq_s, mq_n, en_le, bl_0, bl_1, u_eq, u_ne, w_eq, w_ne, v_eq, v_ne, lc_lt, lc_le, lc_gt, lc_ge, lc_eq, y_lt, y_le, y_eq, kl_1]
    rw [lO_mul, ht, l_mod (by omega) (by omega)]
    have hmod : x % ((t + 2) * (t + 2)) < (t + 2) * (t + 2) := Nat.mod_lt x ht3
    rw [show ((x : Int) % (((t + 2) * (t + 2) : Nat) : Int)) = ((x % ((t + 2) * (t + 2)) : Nat) : Int) from rfl]
    generalize hM : x % ((t + 2) * (t + 2)) = M at *
    generalize (t + 2) * (t + 2) = Q at *
    by_cases g : M = 0
    · rw [if_pos (show ((M : Nat) : Int) = 0 by omega)]
      simp (disch := (first | assumption | (unfold i32; omega) | (unfold i64; omega) | omega)) only [ki_0, ki_1, ki_2, ki_3, ki_4, ki_5, ki_6, ki_7, ki_8, ki_9, ki_10, ki_11, ki_12, ki_13, ki_14, ki_15, ki_20, ki_21, ki_30, ki_31, ki_40, ki_41, ki_50, ki_51, ki_60, ki_63, ki_64, ki_65, ki_100, ki_158, ki_160, ki_200, ki_212, ki_1000, ki_2000, ki_2001, ki_5000, ki_10000, ki_10001, ki_100000, ki_200000, ki_1000000, ki_2000000, ki_3000000, iO_neg, iO_add, iO_sub, iO_mul, kn_4, kn_8, kn_10, kn_20, kn_24, kn_40, kn_41, kn_50, kn_60, kn_158, kn_160, kn_200, kn_212, kn_2001, tn_lt, fn_lt, tn_le, fn_le, tn_eq, fn_eq, x_lt, x_le, x_eq, x_ix, x_nat, t_lt, f_lt, t_le, f_le, t_eq, f_eq, eq_self, and_self, true_and, and_true, false_and, and_false, if_true, if_false, Int.toNat_natCast, bI_s, bL_s, bA_s, bA_n, bV_s, mq_s, mq_n, en_le, bl_0, bl_1, u_eq, u_ne, w_eq, w_ne, v_eq, v_ne, lc_lt, lc_le, lc_gt, lc_ge, lc_eq, y_lt, y_le, y_eq, kl_0]
    · rw [if_neg (show ¬ ((M : Nat) : Int) = 0 by omega), ← ih]
      simp (disch := (first | assumption | (unfold i32; omega) | (unfold i64; omega) | omega)) only [ki_0, ki_1, ki_2, ki_3, ki_4, ki_5, ki_6, ki_7, ki_8, ki_9, ki_10, ki_11, ki_12, ki_13, ki_14, ki_15, ki_20, ki_21, ki_30, ki_31, ki_40, ki_41, ki_50, ki_51, ki_60, ki_63, ki_64, ki_65, ki_100, ki_158, ki_160, ki_200, ki_212, ki_1000, ki_2000, ki_2001, ki_5000, ki_10000, ki_10001, ki_100000, ki_200000, ki_1000000, ki_2000000, ki_3000000, iO_neg, iO_add, iO_sub, iO_mul, kn_4, kn_8, kn_10, kn_20, kn_24, kn_40, kn_41, kn_50, kn_60, kn_158, kn_160, kn_200, kn_212, kn_2001, tn_lt, fn_lt, tn_le, fn_le, tn_eq, fn_eq, x_lt, x_le, x_eq, x_ix, x_nat, t_lt, f_lt, t_le, f_le, t_eq, f_eq, eq_self, and_self, true_and, and_true, false_and, and_false, if_true, if_false, Int.toNat_natCast, bI_s, bL_s, bA_s, bA_n, bV_s, mq_s, mq_n, en_le, bl_0, bl_1, u_eq, u_ne, w_eq, w_ne, v_eq, v_ne, lc_lt, lc_le, lc_gt, lc_ge, lc_eq, y_lt, y_le, y_eq, kl_0, kl_0, kl_1, kl_2, kl_5, kl_7, kl_20, kl_63, kl_10000, lO_neg, lO_add, lO_sub, lO_mul]
      rw [show ((t + 2 : Nat) : Int) - 1 = ((t + 1 : Nat) : Int) by omega]
end GCD
