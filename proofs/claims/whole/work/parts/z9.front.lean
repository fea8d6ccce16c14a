-- FILE 99f
/-! share: the model -/
section SHM
variable {sc : en_S} {n : Nat} {XI : Nat → Int32} {XA : Nat → Nat → Int32} {XP : Nat → Nat → Option Nat} {XC : Value} {MI : Nat → Int32} {MA : Nat → Nat → Int32} {ML : Nat → Nat → Int64} {D : en_H} {k k' : Nat} {l m : SL4}
theorem m_areOne (hk : k < 8) (hk' : k' < 8) (hM : MS MA k l.1 l.2.1 l.2.2.1 l.2.2.2) (hM' : MS MA k' m.1 m.2.1 m.2.2.1 m.2.2.2) (hS : SL l.1 l.2.1 l.2.2.1 l.2.2.2) (hS' : SL m.1 m.2.1 m.2.2.1 m.2.2.2) : ∃ w : Int, (w = 1 ↔ oneP l m) ∧ (w = 0 ∨ w = 1) ∧ f_X12_areOne sc (n + 1) 26 (iO (k : Int)) (iO (k' : Int)) (hp XI XA XP XC MI MA ML D) = some (some (.int (iO w)), hp XI XA XP XC MI MA ML D) := by
  obtain ⟨a, b, c, d⟩ := l
  obtain ⟨a', b', c', d'⟩ := m
  obtain ⟨m0, m1, m2, m3⟩ := hM
  obtain ⟨n0, n1, n2, n3⟩ := hM'
  obtain ⟨x1, x2, x3, x4, x5, x6, x7, x8, -⟩ := hS
  obtain ⟨y1, y2, y3, y4, y5, y6, y7, y8, -⟩ := hS'
  dsimp only at *
  have pr : ∀ (x y : Int), -2000 ≤ x → x ≤ 2000 → -2000 ≤ y → y ≤ 2000 → -12000000 ≤ x * y ∧ x * y ≤ 12000000 := by
    intro x y a1 a2 a3 a4
    have := mul_bd (x := x) (y := y + 2000) (a := 2000) (b := 4000) (by omega) (by omega) (by omega) (by omega)
    rw [Int.mul_add] at this
    omega
  have q1 := sq_bd (x := a - c) (K := 1100) (by omega) (by omega)
  have q2 := sq_bd (x := b) (K := 20) (by omega) (by omega)
  have q3 := mul_bd (x := b * b) (y := d) (a := 400) (b := 50) (by omega) (by omega) (by omega) (by omega)
  have q4 := pr a (a - c) (by omega) (by omega) (by omega) (by omega)
  have hN : -20000 ≤ (a - c) * (a - c) - b * b * d ∧ (a - c) * (a - c) - b * b * d ≤ 1230000 := by omega
  have hU : -12020000 ≤ a * (a - c) - b * b * d ∧ a * (a - c) - b * b * d ≤ 12020000 := by omega
  have u1 := mul_bd (x := a * (a - c) - b * b * d) (y := c') (a := 12020000) (b := 100) (by omega) (by omega) (by omega) (by omega)
  have u2 := mul_bd (x := (a - c) * (a - c) - b * b * d) (y := a' + 1000) (a := 1230000) (b := 2000) (by omega) (by omega) (by omega) (by omega)
  rw [Int.mul_add] at u2
  have u3 : a' * ((a - c) * (a - c) - b * b * d) = ((a - c) * (a - c) - b * b * d) * a' := Int.mul_comm _ _
  have v1 := mul_bd (x := -b) (y := c) (a := 20) (b := 100) (by omega) (by omega) (by omega) (by omega)
  have v2 := sq_bd (x := -b * c) (K := 2000) (by omega) (by omega)
  have v3 := mul_bd (x := -b * c * (-b * c)) (y := d) (a := 4000000) (b := 50) (by omega) (by omega) (by omega) (by omega)
  have v4 := mul_bd (x := -b * c * (-b * c) * d) (y := c') (a := 200000000) (b := 100) (by omega) (by omega) (by omega) (by omega)
  have v5 := mul_bd (x := -b * c * (-b * c) * d * c') (y := c') (a := 20000000000) (b := 100) (by omega) (by omega) (by omega) (by omega)
  have w1 := sq_bd (x := b') (K := 20) (by omega) (by omega)
  have w2 := mul_bd (x := b' * b') (y := d') (a := 400) (b := 50) (by omega) (by omega) (by omega) (by omega)
  have w3 := mul_bd (x := b' * b' * d') (y := (a - c) * (a - c) - b * b * d + 20000) (a := 20000) (b := 1250000) (by omega) (by omega) (by omega) (by omega)
  rw [Int.mul_add] at w3
  have w4 := mul_bd (x := b' * b' * d' * ((a - c) * (a - c) - b * b * d)) (y := (a - c) * (a - c) - b * b * d + 20000) (a := 26000000000) (b := 1250000) (by omega) (by omega) (by omega) (by omega)
  rw [Int.mul_add] at w4
  rw [e_X12_areOne]
  unfold oneP
  show ∃ w : Int, (w = 1 ↔ (b ≠ 0 ∧ b' ≠ 0 ∧ (a * (a - c) - b * b * d) * c' = a' * ((a - c) * (a - c) - b * b * d) ∧ ((0 < -b * c ↔ 0 < (a - c) * (a - c) - b * b * d) ↔ 0 < b') ∧ -b * c * (-b * c) * d * c' * c' = b' * b' * d' * ((a - c) * (a - c) - b * b * d) * ((a - c) * (a - c) - b * b * d))) ∧ _
  by_cases g1 : b = 0
  · refine ⟨0, ⟨fun h => by omega, fun h => absurd g1 h.1⟩, Or.inl rfl, ?_⟩
    clear u1 u2 u3 v1 v2 v3 v4 v5 w1 w2 w3 w4 hN hU q1 q2 q3 q4 pr
    simp (disch := (first | assumption | (unfold i32; omega) | (unfold i64; omega) | omega)) only [↓reduceIte, ki_0, ki_1, ki_2, ki_3, ki_4, ki_5, ki_6, ki_7, ki_8, ki_9, ki_10, ki_11, ki_12, ki_13, ki_14, ki_15, ki_20, ki_21, ki_30, ki_31, ki_40, ki_41, ki_50, ki_51, ki_60, ki_63, ki_64, ki_65, ki_100, ki_158, ki_160, ki_200, ki_212, ki_1000, ki_2000, ki_2001, ki_5000, ki_10000, ki_10001, ki_100000, ki_200000, ki_1000000, ki_2000000, ki_3000000, iO_neg, iO_add, iO_sub, iO_mul, kn_4, kn_8, kn_10, kn_20, kn_24, kn_40, kn_41, kn_50, kn_60, kn_158, kn_160, kn_200, kn_212, kn_2001, tn_lt, fn_lt, tn_le, fn_le, tn_eq, fn_eq, x_lt, x_le, x_eq, x_ix, x_nat, t_lt, f_lt, t_le, f_le, t_eq, f_eq, eq_self, and_self, true_and, and_true, false_and, and_false, if_true, if_false, Int.toNat_natCast, bI_s, bL_s, bA_s, bA_n, bV_s, mq_s, mq_n, en_le, bl_0, bl_1, u_eq, u_ne, w_eq, w_ne, v_eq, v_ne, ↓hp_cc_26, ↓hp_g_26_0, ↓hp_p_26_0, ↓hp_g_26_1, ↓hp_p_26_1, ↓hp_g_26_2, ↓hp_p_26_2, ↓hp_g_26_3, ↓hp_g_26_4, ↓hp_g_26_5, ↓hp_g_26_6, ↓hp_g_26_7, ↓hp_g_26_8, ↓hp_g_26_9, ↓hp_g_26_10, ↓hp_g_26_11, ↓hp_g_26_12, ↓hp_g_26_13, ↓hp_g_26_14, ↓hp_g_26_15, ↓hp_p_26_15, ↓hp_g_26_16, ↓hp_g_26_17, ↓hp_g_26_18, ↓hp_p_26_18, ↓hp_g_26_19, ↓hp_p_26_19, ↓hp_g_26_20, ↓hp_g_26_21, ↓hp_p_26_21, ↓hp_g_26_22, ↓hp_g_26_23, ↓hp_g_26_24, ↓hp_g_26_25, ↓hp_g_26_26, ↓hp_g_26_27, ↓hp_g_26_28, ↓hp_g_26_29, ↓hp_g_26_30, ↓hp_p_26_30, ↓hp_g_26_31, ↓hp_g_26_32, ↓hp_p_26_32, ↓hp_a_27, ↓hp_s_27, ↓hp_l_27, ↓hp_a_28, ↓hp_s_28, ↓hp_l_28, ↓hp_a_29, ↓hp_s_29, ↓hp_l_29, ↓hp_a_30, ↓hp_s_30, ↓hp_l_30, ↓hp_a_31, ↓hp_s_31, ↓hp_l_31, ↓hp_a_32, ↓hp_s_32, ↓hp_l_32, ↓hp_a_33, ↓hp_s_33, ↓hp_l_33, ↓hp_a_34, ↓hp_s_34, ↓hp_l_34, ↓hp_a_35, ↓hp_s_35, ↓hp_l_35, ↓hp_a_36, ↓hp_s_36, ↓hp_l_36, ↓hp_a_37, ↓hp_s_37, ↓hp_l_37, ↓hp_a_38, ↓hp_s_38, ↓hp_l_38, ↓hp_a_39, ↓hp_s_39, ↓hp_a_40, ↓hp_s_40, ↓hp_a_41, ↓hp_s_41, ↓hp_l_41, ↓hp_a_42, ↓hp_s_42, ↓hp_l_42, ↓hp_a_43, ↓hp_s_43, ↓hp_l_43, ↓hp_a_44, ↓hp_s_44, ↓hp_l_44, ↓hp_a_45, ↓hp_s_45, ↓hp_l_45, ↓hp_a_46, ↓hp_s_46, ↓hp_l_46, ↓hp_a_47, ↓hp_s_47, ↓hp_l_47, ↓hp_a_48, ↓hp_s_48, ↓hp_l_48, ↓hp_a_49, ↓hp_s_49, ↓hp_l_49, ↓hp_a_50, ↓hp_s_50, ↓hp_l_50, m1]
  by_cases g2 : b' = 0
  · refine ⟨0, ⟨fun h => by omega, fun h => absurd g2 h.2.1⟩, Or.inl rfl, ?_⟩
    clear u1 u2 u3 v1 v2 v3 v4 v5 w1 w2 w3 w4 hN hU q1 q2 q3 q4 pr
    simp (disch := (first | assumption | (unfold i32; omega) | (unfold i64; omega) | omega)) only [↓reduceIte, ki_0, ki_1, ki_2, ki_3, ki_4, ki_5, ki_6, ki_7, ki_8, ki_9, ki_10, ki_11, ki_12, ki_13, ki_14, ki_15, ki_20, ki_21, ki_30, ki_31, ki_40, ki_41, ki_50, ki_51, ki_60, ki_63, ki_64, ki_65, ki_100, ki_158, ki_160, ki_200, ki_212, ki_1000, ki_2000, ki_2001, ki_5000, ki_10000, ki_10001, ki_100000, ki_200000, ki_1000000, ki_2000000, ki_3000000, iO_neg, iO_add, iO_sub, iO_mul, kn_4, kn_8, kn_10, kn_20, kn_24, kn_40, kn_41, kn_50, kn_60, kn_158, kn_160, kn_200, kn_212, kn_2001, tn_lt, fn_lt, tn_le, fn_le, tn_eq, fn_eq, x_lt, x_le, x_eq, x_ix, x_nat, t_lt, f_lt, t_le, f_le, t_eq, f_eq, eq_self, and_self, true_and, and_true, false_and, and_false, if_true, if_false, Int.toNat_natCast, bI_s, bL_s, bA_s, bA_n, bV_s, mq_s, mq_n, en_le, bl_0, bl_1, u_eq, u_ne, w_eq, w_ne, v_eq, v_ne, ↓hp_cc_26, ↓hp_g_26_0, ↓hp_p_26_0, ↓hp_g_26_1, ↓hp_p_26_1, ↓hp_g_26_2, ↓hp_p_26_2, ↓hp_g_26_3, ↓hp_g_26_4, ↓hp_g_26_5, ↓hp_g_26_6, ↓hp_g_26_7, ↓hp_g_26_8, ↓hp_g_26_9, ↓hp_g_26_10, ↓hp_g_26_11, ↓hp_g_26_12, ↓hp_g_26_13, ↓hp_g_26_14, ↓hp_g_26_15, ↓hp_p_26_15, ↓hp_g_26_16, ↓hp_g_26_17, ↓hp_g_26_18, ↓hp_p_26_18, ↓hp_g_26_19, ↓hp_p_26_19, ↓hp_g_26_20, ↓hp_g_26_21, ↓hp_p_26_21, ↓hp_g_26_22, ↓hp_g_26_23, ↓hp_g_26_24, ↓hp_g_26_25, ↓hp_g_26_26, ↓hp_g_26_27, ↓hp_g_26_28, ↓hp_g_26_29, ↓hp_g_26_30, ↓hp_p_26_30, ↓hp_g_26_31, ↓hp_g_26_32, ↓hp_p_26_32, ↓hp_a_27, ↓hp_s_27, ↓hp_l_27, ↓hp_a_28, ↓hp_s_28, ↓hp_l_28, ↓hp_a_29, ↓hp_s_29, ↓hp_l_29, ↓hp_a_30, ↓hp_s_30, ↓hp_l_30, ↓hp_a_31, ↓hp_s_31, ↓hp_l_31, ↓hp_a_32, ↓hp_s_32, ↓hp_l_32, ↓hp_a_33, ↓hp_s_33, ↓hp_l_33, ↓hp_a_34, ↓hp_s_34, ↓hp_l_34, ↓hp_a_35, ↓hp_s_35, ↓hp_l_35, ↓hp_a_36, ↓hp_s_36, ↓hp_l_36, ↓hp_a_37, ↓hp_s_37, ↓hp_l_37, ↓hp_a_38, ↓hp_s_38, ↓hp_l_38, ↓hp_a_39, ↓hp_s_39, ↓hp_a_40, ↓hp_s_40, ↓hp_a_41, ↓hp_s_41, ↓hp_l_41, ↓hp_a_42, ↓hp_s_42, ↓hp_l_42, ↓hp_a_43, ↓hp_s_43, ↓hp_l_43, ↓hp_a_44, ↓hp_s_44, ↓hp_l_44, ↓hp_a_45, ↓hp_s_45, ↓hp_l_45, ↓hp_a_46, ↓hp_s_46, ↓hp_l_46, ↓hp_a_47, ↓hp_s_47, ↓hp_l_47, ↓hp_a_48, ↓hp_s_48, ↓hp_l_48, ↓hp_a_49, ↓hp_s_49, ↓hp_l_49, ↓hp_a_50, ↓hp_s_50, ↓hp_l_50, m1, n1]
  have huI : i64 ((a * (a - c) - b * b * d) * c') := by unfold i64; omega
  have huJ : i64 (a' * ((a - c) * (a - c) - b * b * d)) := by unfold i64; omega
  have hvI : i64 (-b * c * (-b * c) * d * c' * c') := by unfold i64; omega
  have hvJ : i64 (b' * b' * d' * ((a - c) * (a - c) - b * b * d) * ((a - c) * (a - c) - b * b * d)) := by unfold i64; omega
  have hmI : i64 (-b * c) := by unfold i64; omega
  have hnI : i64 ((a - c) * (a - c) - b * b * d) := by unfold i64; omega
  have hm0 : -b * c ≠ 0 := fun h => by rcases Int.mul_eq_zero.mp h with z | z <;> omega
  clear u1 u2 u3 v1 v2 v3 v4 v5 w1 w2 w3 w4 q1 q2 q3 q4 pr hN hU
  by_cases g3 : (a * (a - c) - b * b * d) * c' = a' * ((a - c) * (a - c) - b * b * d)
  · by_cases g5 : -b * c * (-b * c) * d * c' * c' = b' * b' * d' * ((a - c) * (a - c) - b * b * d) * ((a - c) * (a - c) - b * b * d)
    · rcases Int.lt_or_le 0 (-b * c) with hM | hM
      · skip
        rcases Int.lt_or_le 0 ((a - c) * (a - c) - b * b * d) with hN | hN
        · skip
          rcases Int.lt_or_le 0 (b') with hB | hB
          · skip
            refine ⟨1, ⟨fun _ => ⟨g1, g2, g3, by omega, g5⟩, fun _ => rfl⟩, Or.inr rfl, ?_⟩
            simp (disch := (first | assumption | (unfold i32; omega) | (unfold i64; omega) | omega)) only [↓reduceIte, ki_0, ki_1, ki_2, ki_3, ki_4, ki_5, ki_6, ki_7, ki_8, ki_9, ki_10, ki_11, ki_12, ki_13, ki_14, ki_15, ki_20, ki_21, ki_30, ki_31, ki_40, ki_41, ki_50, ki_51, ki_60, ki_63, ki_64, ki_65, ki_100, ki_158, ki_160, ki_200, ki_212, ki_1000, ki_2000, ki_2001, ki_5000, ki_10000, ki_10001, ki_100000, ki_200000, ki_1000000, ki_2000000, ki_3000000, iO_neg, iO_add, iO_sub, iO_mul, kn_4, kn_8, kn_10, kn_20, kn_24, kn_40, kn_41, kn_50, kn_60, kn_158, kn_160, kn_200, kn_212, kn_2001, tn_lt, fn_lt, tn_le, fn_le, tn_eq, fn_eq, x_lt, x_le, x_eq, x_ix, x_nat, t_lt, f_lt, t_le, f_le, t_eq, f_eq, eq_self, and_self, true_and, and_true, false_and, and_false, if_true, if_false, Int.toNat_natCast, bI_s, bL_s, bA_s, bA_n, bV_s, mq_s, mq_n, en_le, bl_0, bl_1, u_eq, u_ne, w_eq, w_ne, v_eq, v_ne, ↓hp_cc_26, ↓hp_g_26_0, ↓hp_p_26_0, ↓hp_g_26_1, ↓hp_p_26_1, ↓hp_g_26_2, ↓hp_p_26_2, ↓hp_g_26_3, ↓hp_g_26_4, ↓hp_g_26_5, ↓hp_g_26_6, ↓hp_g_26_7, ↓hp_g_26_8, ↓hp_g_26_9, ↓hp_g_26_10, ↓hp_g_26_11, ↓hp_g_26_12, ↓hp_g_26_13, ↓hp_g_26_14, ↓hp_g_26_15, ↓hp_p_26_15, ↓hp_g_26_16, ↓hp_g_26_17, ↓hp_g_26_18, ↓hp_p_26_18, ↓hp_g_26_19, ↓hp_p_26_19, ↓hp_g_26_20, ↓hp_g_26_21, ↓hp_p_26_21, ↓hp_g_26_22, ↓hp_g_26_23, ↓hp_g_26_24, ↓hp_g_26_25, ↓hp_g_26_26, ↓hp_g_26_27, ↓hp_g_26_28, ↓hp_g_26_29, ↓hp_g_26_30, ↓hp_p_26_30, ↓hp_g_26_31, ↓hp_g_26_32, ↓hp_p_26_32, ↓hp_a_27, ↓hp_s_27, ↓hp_l_27, ↓hp_a_28, ↓hp_s_28, ↓hp_l_28, ↓hp_a_29, ↓hp_s_29, ↓hp_l_29, ↓hp_a_30, ↓hp_s_30, ↓hp_l_30, ↓hp_a_31, ↓hp_s_31, ↓hp_l_31, ↓hp_a_32, ↓hp_s_32, ↓hp_l_32, ↓hp_a_33, ↓hp_s_33, ↓hp_l_33, ↓hp_a_34, ↓hp_s_34, ↓hp_l_34, ↓hp_a_35, ↓hp_s_35, ↓hp_l_35, ↓hp_a_36, ↓hp_s_36, ↓hp_l_36, ↓hp_a_37, ↓hp_s_37, ↓hp_l_37, ↓hp_a_38, ↓hp_s_38, ↓hp_l_38, ↓hp_a_39, ↓hp_s_39, ↓hp_a_40, ↓hp_s_40, ↓hp_a_41, ↓hp_s_41, ↓hp_l_41, ↓hp_a_42, ↓hp_s_42, ↓hp_l_42, ↓hp_a_43, ↓hp_s_43, ↓hp_l_43, ↓hp_a_44, ↓hp_s_44, ↓hp_l_44, ↓hp_a_45, ↓hp_s_45, ↓hp_l_45, ↓hp_a_46, ↓hp_s_46, ↓hp_l_46, ↓hp_a_47, ↓hp_s_47, ↓hp_l_47, ↓hp_a_48, ↓hp_s_48, ↓hp_l_48, ↓hp_a_49, ↓hp_s_49, ↓hp_l_49, ↓hp_a_50, ↓hp_s_50, ↓hp_l_50, m0, m1, m2, m3, n0, n1, n2, n3, iO_wide, lO_sub, lO_mul, lO_neg, lO_add, kl_0, lc_lt, lc_le, lc_gt, lc_ge, lc_eq, y_lt, y_le, y_eq, eb_X12_areOne_7, eb_X12_areOne_11]
          · skip
            refine ⟨0, ⟨fun h => by omega, fun h => by have := h.2.2.2.1; omega⟩, Or.inl rfl, ?_⟩
            simp (disch := (first | assumption | (unfold i32; omega) | (unfold i64; omega) | omega)) only [↓reduceIte, ki_0, ki_1, ki_2, ki_3, ki_4, ki_5, ki_6, ki_7, ki_8, ki_9, ki_10, ki_11, ki_12, ki_13, ki_14, ki_15, ki_20, ki_21, ki_30, ki_31, ki_40, ki_41, ki_50, ki_51, ki_60, ki_63, ki_64, ki_65, ki_100, ki_158, ki_160, ki_200, ki_212, ki_1000, ki_2000, ki_2001, ki_5000, ki_10000, ki_10001, ki_100000, ki_200000, ki_1000000, ki_2000000, ki_3000000, iO_neg, iO_add, iO_sub, iO_mul, kn_4, kn_8, kn_10, kn_20, kn_24, kn_40, kn_41, kn_50, kn_60, kn_158, kn_160, kn_200, kn_212, kn_2001, tn_lt, fn_lt, tn_le, fn_le, tn_eq, fn_eq, x_lt, x_le, x_eq, x_ix, x_nat, t_lt, f_lt, t_le, f_le, t_eq, f_eq, eq_self, and_self, true_and, and_true, false_and, and_false, if_true, if_false, Int.toNat_natCast, bI_s, bL_s, bA_s, bA_n, bV_s, mq_s, mq_n, en_le, bl_0, bl_1, u_eq, u_ne, w_eq, w_ne, v_eq, v_ne, ↓hp_cc_26, ↓hp_g_26_0, ↓hp_p_26_0, ↓hp_g_26_1, ↓hp_p_26_1, ↓hp_g_26_2, ↓hp_p_26_2, ↓hp_g_26_3, ↓hp_g_26_4, ↓hp_g_26_5, ↓hp_g_26_6, ↓hp_g_26_7, ↓hp_g_26_8, ↓hp_g_26_9, ↓hp_g_26_10, ↓hp_g_26_11, ↓hp_g_26_12, ↓hp_g_26_13, ↓hp_g_26_14, ↓hp_g_26_15, ↓hp_p_26_15, ↓hp_g_26_16, ↓hp_g_26_17, ↓hp_g_26_18, ↓hp_p_26_18, ↓hp_g_26_19, ↓hp_p_26_19, ↓hp_g_26_20, ↓hp_g_26_21, ↓hp_p_26_21, ↓hp_g_26_22, ↓hp_g_26_23, ↓hp_g_26_24, ↓hp_g_26_25, ↓hp_g_26_26, ↓hp_g_26_27, ↓hp_g_26_28, ↓hp_g_26_29, ↓hp_g_26_30, ↓hp_p_26_30, ↓hp_g_26_31, ↓hp_g_26_32, ↓hp_p_26_32, ↓hp_a_27, ↓hp_s_27, ↓hp_l_27, ↓hp_a_28, ↓hp_s_28, ↓hp_l_28, ↓hp_a_29, ↓hp_s_29, ↓hp_l_29, ↓hp_a_30, ↓hp_s_30, ↓hp_l_30, ↓hp_a_31, ↓hp_s_31, ↓hp_l_31, ↓hp_a_32, ↓hp_s_32, ↓hp_l_32, ↓hp_a_33, ↓hp_s_33, ↓hp_l_33, ↓hp_a_34, ↓hp_s_34, ↓hp_l_34, ↓hp_a_35, ↓hp_s_35, ↓hp_l_35, ↓hp_a_36, ↓hp_s_36, ↓hp_l_36, ↓hp_a_37, ↓hp_s_37, ↓hp_l_37, ↓hp_a_38, ↓hp_s_38, ↓hp_l_38, ↓hp_a_39, ↓hp_s_39, ↓hp_a_40, ↓hp_s_40, ↓hp_a_41, ↓hp_s_41, ↓hp_l_41, ↓hp_a_42, ↓hp_s_42, ↓hp_l_42, ↓hp_a_43, ↓hp_s_43, ↓hp_l_43, ↓hp_a_44, ↓hp_s_44, ↓hp_l_44, ↓hp_a_45, ↓hp_s_45, ↓hp_l_45, ↓hp_a_46, ↓hp_s_46, ↓hp_l_46, ↓hp_a_47, ↓hp_s_47, ↓hp_l_47, ↓hp_a_48, ↓hp_s_48, ↓hp_l_48, ↓hp_a_49, ↓hp_s_49, ↓hp_l_49, ↓hp_a_50, ↓hp_s_50, ↓hp_l_50, m0, m1, m2, m3, n0, n1, n2, n3, iO_wide, lO_sub, lO_mul, lO_neg, lO_add, kl_0, lc_lt, lc_le, lc_gt, lc_ge, lc_eq, y_lt, y_le, y_eq, eb_X12_areOne_7, eb_X12_areOne_11]
        · skip
          rcases Int.lt_or_le 0 (b') with hB | hB
          · skip
            refine ⟨0, ⟨fun h => by omega, fun h => by have := h.2.2.2.1; omega⟩, Or.inl rfl, ?_⟩
            simp (disch := (first | assumption | (unfold i32; omega) | (unfold i64; omega) | omega)) only [↓reduceIte, ki_0, ki_1, ki_2, ki_3, ki_4, ki_5, ki_6, ki_7, ki_8, ki_9, ki_10, ki_11, ki_12, ki_13, ki_14, ki_15, ki_20, ki_21, ki_30, ki_31, ki_40, ki_41, ki_50, ki_51, ki_60, ki_63, ki_64, ki_65, ki_100, ki_158, ki_160, ki_200, ki_212, ki_1000, ki_2000, ki_2001, ki_5000, ki_10000, ki_10001, ki_100000, ki_200000, ki_1000000, ki_2000000, ki_3000000, iO_neg, iO_add, iO_sub, iO_mul, kn_4, kn_8, kn_10, kn_20, kn_24, kn_40, kn_41, kn_50, kn_60, kn_158, kn_160, kn_200, kn_212, kn_2001, tn_lt, fn_lt, tn_le, fn_le, tn_eq, fn_eq, x_lt, x_le, x_eq, x_ix, x_nat, t_lt, f_lt, t_le, f_le, t_eq, f_eq, eq_self, and_self, true_and, and_true, false_and, and_false, if_true, if_false, Int.toNat_natCast, bI_s, bL_s, bA_s, bA_n, bV_s, mq_s, mq_n, en_le, bl_0, bl_1, u_eq, u_ne, w_eq, w_ne, v_eq, v_ne, ↓hp_cc_26, ↓hp_g_26_0, ↓hp_p_26_0, ↓hp_g_26_1, ↓hp_p_26_1, ↓hp_g_26_2, ↓hp_p_26_2, ↓hp_g_26_3, ↓hp_g_26_4, ↓hp_g_26_5, ↓hp_g_26_6, ↓hp_g_26_7, ↓hp_g_26_8, ↓hp_g_26_9, ↓hp_g_26_10, ↓hp_g_26_11, ↓hp_g_26_12, ↓hp_g_26_13, ↓hp_g_26_14, ↓hp_g_26_15, ↓hp_p_26_15, ↓hp_g_26_16, ↓hp_g_26_17, ↓hp_g_26_18, ↓hp_p_26_18, ↓hp_g_26_19, ↓hp_p_26_19, ↓hp_g_26_20, ↓hp_g_26_21, ↓hp_p_26_21, ↓hp_g_26_22, ↓hp_g_26_23, ↓hp_g_26_24, ↓hp_g_26_25, ↓hp_g_26_26, ↓hp_g_26_27, ↓hp_g_26_28, ↓hp_g_26_29, ↓hp_g_26_30, ↓hp_p_26_30, ↓hp_g_26_31, ↓hp_g_26_32, ↓hp_p_26_32, ↓hp_a_27, ↓hp_s_27, ↓hp_l_27, ↓hp_a_28, ↓hp_s_28, ↓hp_l_28, ↓hp_a_29, ↓hp_s_29, ↓hp_l_29, ↓hp_a_30, ↓hp_s_30, ↓hp_l_30, ↓hp_a_31, ↓hp_s_31, ↓hp_l_31, ↓hp_a_32, ↓hp_s_32, ↓hp_l_32, ↓hp_a_33, ↓hp_s_33, ↓hp_l_33, ↓hp_a_34, ↓hp_s_34, ↓hp_l_34, ↓hp_a_35, ↓hp_s_35, ↓hp_l_35, ↓hp_a_36, ↓hp_s_36, ↓hp_l_36, ↓hp_a_37, ↓hp_s_37, ↓hp_l_37, ↓hp_a_38, ↓hp_s_38, ↓hp_l_38, ↓hp_a_39, ↓hp_s_39, ↓hp_a_40, ↓hp_s_40, ↓hp_a_41, ↓hp_s_41, ↓hp_l_41, ↓hp_a_42, ↓hp_s_42, ↓hp_l_42, ↓hp_a_43, ↓hp_s_43, ↓hp_l_43, ↓hp_a_44, ↓hp_s_44, ↓hp_l_44, ↓hp_a_45, ↓hp_s_45, ↓hp_l_45, ↓hp_a_46, ↓hp_s_46, ↓hp_l_46, ↓hp_a_47, ↓hp_s_47, ↓hp_l_47, ↓hp_a_48, ↓hp_s_48, ↓hp_l_48, ↓hp_a_49, ↓hp_s_49, ↓hp_l_49, ↓hp_a_50, ↓hp_s_50, ↓hp_l_50, m0, m1, m2, m3, n0, n1, n2, n3, iO_wide, lO_sub, lO_mul, lO_neg, lO_add, kl_0, lc_lt, lc_le, lc_gt, lc_ge, lc_eq, y_lt, y_le, y_eq, eb_X12_areOne_7, eb_X12_areOne_11]
          · skip
            refine ⟨1, ⟨fun _ => ⟨g1, g2, g3, by omega, g5⟩, fun _ => rfl⟩, Or.inr rfl, ?_⟩
            simp (disch := (first | assumption | (unfold i32; omega) | (unfold i64; omega) | omega)) only [↓reduceIte, ki_0, ki_1, ki_2, ki_3, ki_4, ki_5, ki_6, ki_7, ki_8, ki_9, ki_10, ki_11, ki_12, ki_13, ki_14, ki_15, ki_20, ki_21, ki_30, ki_31, ki_40, ki_41, ki_50, ki_51, ki_60, ki_63, ki_64, ki_65, ki_100, ki_158, ki_160, ki_200, ki_212, ki_1000, ki_2000, ki_2001, ki_5000, ki_10000, ki_10001, ki_100000, ki_200000, ki_1000000, ki_2000000, ki_3000000, iO_neg, iO_add, iO_sub, iO_mul, kn_4, kn_8, kn_10, kn_20, kn_24, kn_40, kn_41, kn_50, kn_60, kn_158, kn_160, kn_200, kn_212, kn_2001, tn_lt, fn_lt, tn_le, fn_le, tn_eq, fn_eq, x_lt, x_le, x_eq, x_ix, x_nat, t_lt, f_lt, t_le, f_le, t_eq, f_eq, eq_self, and_self, true_and, and_true, false_and, and_false, if_true, if_false, Int.toNat_natCast, bI_s, bL_s, bA_s, bA_n, bV_s, mq_s, mq_n, en_le, bl_0, bl_1, u_eq, u_ne, w_eq, w_ne, v_eq, v_ne, ↓hp_cc_26, ↓hp_g_26_0, ↓hp_p_26_0, ↓hp_g_26_1, ↓hp_p_26_1, ↓hp_g_26_2, ↓hp_p_26_2, ↓hp_g_26_3, ↓hp_g_26_4, ↓hp_g_26_5, ↓hp_g_26_6, ↓hp_g_26_7, ↓hp_g_26_8, ↓hp_g_26_9, ↓hp_g_26_10, ↓hp_g_26_11, ↓hp_g_26_12, ↓hp_g_26_13, ↓hp_g_26_14, ↓hp_g_26_15, ↓hp_p_26_15, ↓hp_g_26_16, ↓hp_g_26_17, ↓hp_g_26_18, ↓hp_p_26_18, ↓hp_g_26_19, ↓hp_p_26_19, ↓hp_g_26_20, ↓hp_g_26_21, ↓hp_p_26_21, ↓hp_g_26_22, ↓hp_g_26_23, ↓hp_g_26_24, ↓hp_g_26_25, ↓hp_g_26_26, ↓hp_g_26_27, ↓hp_g_26_28, ↓hp_g_26_29, ↓hp_g_26_30, ↓hp_p_26_30, ↓hp_g_26_31, ↓hp_g_26_32, ↓hp_p_26_32, ↓hp_a_27, ↓hp_s_27, ↓hp_l_27, ↓hp_a_28, ↓hp_s_28, ↓hp_l_28, ↓hp_a_29, ↓hp_s_29, ↓hp_l_29, ↓hp_a_30, ↓hp_s_30, ↓hp_l_30, ↓hp_a_31, ↓hp_s_31, ↓hp_l_31, ↓hp_a_32, ↓hp_s_32, ↓hp_l_32, ↓hp_a_33, ↓hp_s_33, ↓hp_l_33, ↓hp_a_34, ↓hp_s_34, ↓hp_l_34, ↓hp_a_35, ↓hp_s_35, ↓hp_l_35, ↓hp_a_36, ↓hp_s_36, ↓hp_l_36, ↓hp_a_37, ↓hp_s_37, ↓hp_l_37, ↓hp_a_38, ↓hp_s_38, ↓hp_l_38, ↓hp_a_39, ↓hp_s_39, ↓hp_a_40, ↓hp_s_40, ↓hp_a_41, ↓hp_s_41, ↓hp_l_41, ↓hp_a_42, ↓hp_s_42, ↓hp_l_42, ↓hp_a_43, ↓hp_s_43, ↓hp_l_43, ↓hp_a_44, ↓hp_s_44, ↓hp_l_44, ↓hp_a_45, ↓hp_s_45, ↓hp_l_45, ↓hp_a_46, ↓hp_s_46, ↓hp_l_46, ↓hp_a_47, ↓hp_s_47, ↓hp_l_47, ↓hp_a_48, ↓hp_s_48, ↓hp_l_48, ↓hp_a_49, ↓hp_s_49, ↓hp_l_49, ↓hp_a_50, ↓hp_s_50, ↓hp_l_50, m0, m1, m2, m3, n0, n1, n2, n3, iO_wide, lO_sub, lO_mul, lO_neg, lO_add, kl_0, lc_lt, lc_le, lc_gt, lc_ge, lc_eq, y_lt, y_le, y_eq, eb_X12_areOne_7, eb_X12_areOne_11]
      · skip
        rcases Int.lt_or_le 0 ((a - c) * (a - c) - b * b * d) with hN | hN
        · skip
          rcases Int.lt_or_le 0 (b') with hB | hB
          · skip
            refine ⟨0, ⟨fun h => by omega, fun h => by have := h.2.2.2.1; omega⟩, Or.inl rfl, ?_⟩
            simp (disch := (first | assumption | (unfold i32; omega) | (unfold i64; omega) | omega)) only [↓reduceIte, ki_0, ki_1, ki_2, ki_3, ki_4, ki_5, ki_6, ki_7, ki_8, ki_9, ki_10, ki_11, ki_12, ki_13, ki_14, ki_15, ki_20, ki_21, ki_30, ki_31, ki_40, ki_41, ki_50, ki_51, ki_60, ki_63, ki_64, ki_65, ki_100, ki_158, ki_160, ki_200, ki_212, ki_1000, ki_2000, ki_2001, ki_5000, ki_10000, ki_10001, ki_100000, ki_200000, ki_1000000, ki_2000000, ki_3000000, iO_neg, iO_add, iO_sub, iO_mul, kn_4, kn_8, kn_10, kn_20, kn_24, kn_40, kn_41, kn_50, kn_60, kn_158, kn_160, kn_200, kn_212, kn_2001, tn_lt, fn_lt, tn_le, fn_le, tn_eq, fn_eq, x_lt, x_le, x_eq, x_ix, x_nat, t_lt, f_lt, t_le, f_le, t_eq, f_eq, eq_self, and_self, true_and, and_true, false_and, and_false, if_true, if_false, Int.toNat_natCast, bI_s, bL_s, bA_s, bA_n, bV_s, mq_s, mq_n, en_le, bl_0, bl_1, u_eq, u_ne, w_eq, w_ne, v_eq, v_ne, ↓hp_cc_26, ↓hp_g_26_0, ↓hp_p_26_0, ↓hp_g_26_1, ↓hp_p_26_1, ↓hp_g_26_2, ↓hp_p_26_2, ↓hp_g_26_3, ↓hp_g_26_4, ↓hp_g_26_5, ↓hp_g_26_6, ↓hp_g_26_7, ↓hp_g_26_8, ↓hp_g_26_9, ↓hp_g_26_10, ↓hp_g_26_11, ↓hp_g_26_12, ↓hp_g_26_13, ↓hp_g_26_14, ↓hp_g_26_15, ↓hp_p_26_15, ↓hp_g_26_16, ↓hp_g_26_17, ↓hp_g_26_18, ↓hp_p_26_18, ↓hp_g_26_19, ↓hp_p_26_19, ↓hp_g_26_20, ↓hp_g_26_21, ↓hp_p_26_21, ↓hp_g_26_22, ↓hp_g_26_23, ↓hp_g_26_24, ↓hp_g_26_25, ↓hp_g_26_26, ↓hp_g_26_27, ↓hp_g_26_28, ↓hp_g_26_29, ↓hp_g_26_30, ↓hp_p_26_30, ↓hp_g_26_31, ↓hp_g_26_32, ↓hp_p_26_32, ↓hp_a_27, ↓hp_s_27, ↓hp_l_27, ↓hp_a_28, ↓hp_s_28, ↓hp_l_28, ↓hp_a_29, ↓hp_s_29, ↓hp_l_29, ↓hp_a_30, ↓hp_s_30, ↓hp_l_30, ↓hp_a_31, ↓hp_s_31, ↓hp_l_31, ↓hp_a_32, ↓hp_s_32, ↓hp_l_32, ↓hp_a_33, ↓hp_s_33, ↓hp_l_33, ↓hp_a_34, ↓hp_s_34, ↓hp_l_34, ↓hp_a_35, ↓hp_s_35, ↓hp_l_35, ↓hp_a_36, ↓hp_s_36, ↓hp_l_36, ↓hp_a_37, ↓hp_s_37, ↓hp_l_37, ↓hp_a_38, ↓hp_s_38, ↓hp_l_38, ↓hp_a_39, ↓hp_s_39, ↓hp_a_40, ↓hp_s_40, ↓hp_a_41, ↓hp_s_41, ↓hp_l_41, ↓hp_a_42, ↓hp_s_42, ↓hp_l_42, ↓hp_a_43, ↓hp_s_43, ↓hp_l_43, ↓hp_a_44, ↓hp_s_44, ↓hp_l_44, ↓hp_a_45, ↓hp_s_45, ↓hp_l_45, ↓hp_a_46, ↓hp_s_46, ↓hp_l_46, ↓hp_a_47, ↓hp_s_47, ↓hp_l_47, ↓hp_a_48, ↓hp_s_48, ↓hp_l_48, ↓hp_a_49, ↓hp_s_49, ↓hp_l_49, ↓hp_a_50, ↓hp_s_50, ↓hp_l_50, m0, m1, m2, m3, n0, n1, n2, n3, iO_wide, lO_sub, lO_mul, lO_neg, lO_add, kl_0, lc_lt, lc_le, lc_gt, lc_ge, lc_eq, y_lt, y_le, y_eq, eb_X12_areOne_7, eb_X12_areOne_11]
          · skip
            refine ⟨1, ⟨fun _ => ⟨g1, g2, g3, by omega, g5⟩, fun _ => rfl⟩, Or.inr rfl, ?_⟩
            simp (disch := (first | assumption | (unfold i32; omega) | (unfold i64; omega) | omega)) only [↓reduceIte, ki_0, ki_1, ki_2, ki_3, ki_4, ki_5, ki_6, ki_7, ki_8, ki_9, ki_10, ki_11, ki_12, ki_13, ki_14, ki_15, ki_20, ki_21, ki_30, ki_31, ki_40, ki_41, ki_50, ki_51, ki_60, ki_63, ki_64, ki_65, ki_100, ki_158, ki_160, ki_200, ki_212, ki_1000, ki_2000, ki_2001, ki_5000, ki_10000, ki_10001, ki_100000, ki_200000, ki_1000000, ki_2000000, ki_3000000, iO_neg, iO_add, iO_sub, iO_mul, kn_4, kn_8, kn_10, kn_20, kn_24, kn_40, kn_41, kn_50, kn_60, kn_158, kn_160, kn_200, kn_212, kn_2001, tn_lt, fn_lt, tn_le, fn_le, tn_eq, fn_eq, x_lt, x_le, x_eq, x_ix, x_nat, t_lt, f_lt, t_le, f_le, t_eq, f_eq, eq_self, and_self, true_and, and_true, false_and, and_false, if_true, if_false, Int.toNat_natCast, bI_s, bL_s, bA_s, bA_n, bV_s, mq_s, mq_n, en_le, bl_0, bl_1, u_eq, u_ne, w_eq, w_ne, v_eq, v_ne, ↓hp_cc_26, ↓hp_g_26_0, ↓hp_p_26_0, ↓hp_g_26_1, ↓hp_p_26_1, ↓hp_g_26_2, ↓hp_p_26_2, ↓hp_g_26_3, ↓hp_g_26_4, ↓hp_g_26_5, ↓hp_g_26_6, ↓hp_g_26_7, ↓hp_g_26_8, ↓hp_g_26_9, ↓hp_g_26_10, ↓hp_g_26_11, ↓hp_g_26_12, ↓hp_g_26_13, ↓hp_g_26_14, ↓hp_g_26_15, ↓hp_p_26_15, ↓hp_g_26_16, ↓hp_g_26_17, ↓hp_g_26_18, ↓hp_p_26_18, ↓hp_g_26_19, ↓hp_p_26_19, ↓hp_g_26_20, ↓hp_g_26_21, ↓hp_p_26_21, ↓hp_g_26_22, ↓hp_g_26_23, ↓hp_g_26_24, ↓hp_g_26_25, ↓hp_g_26_26, ↓hp_g_26_27, ↓hp_g_26_28, ↓hp_g_26_29, ↓hp_g_26_30, ↓hp_p_26_30, ↓hp_g_26_31, ↓hp_g_26_32, ↓hp_p_26_32, ↓hp_a_27, ↓hp_s_27, ↓hp_l_27, ↓hp_a_28, ↓hp_s_28, ↓hp_l_28, ↓hp_a_29, ↓hp_s_29, ↓hp_l_29, ↓hp_a_30, ↓hp_s_30, ↓hp_l_30, ↓hp_a_31, ↓hp_s_31, ↓hp_l_31, ↓hp_a_32, ↓hp_s_32, ↓hp_l_32, ↓hp_a_33, ↓hp_s_33, ↓hp_l_33, ↓hp_a_34, ↓hp_s_34, ↓hp_l_34, ↓hp_a_35, ↓hp_s_35, ↓hp_l_35, ↓hp_a_36, ↓hp_s_36, ↓hp_l_36, ↓hp_a_37, ↓hp_s_37, ↓hp_l_37, ↓hp_a_38, ↓hp_s_38, ↓hp_l_38, ↓hp_a_39, ↓hp_s_39, ↓hp_a_40, ↓hp_s_40, ↓hp_a_41, ↓hp_s_41, ↓hp_l_41, ↓hp_a_42, ↓hp_s_42, ↓hp_l_42, ↓hp_a_43, ↓hp_s_43, ↓hp_l_43, ↓hp_a_44, ↓hp_s_44, ↓hp_l_44, ↓hp_a_45, ↓hp_s_45, ↓hp_l_45, ↓hp_a_46, ↓hp_s_46, ↓hp_l_46, ↓hp_a_47, ↓hp_s_47, ↓hp_l_47, ↓hp_a_48, ↓hp_s_48, ↓hp_l_48, ↓hp_a_49, ↓hp_s_49, ↓hp_l_49, ↓hp_a_50, ↓hp_s_50, ↓hp_l_50, m0, m1, m2, m3, n0, n1, n2, n3, iO_wide, lO_sub, lO_mul, lO_neg, lO_add, kl_0, lc_lt, lc_le, lc_gt, lc_ge, lc_eq, y_lt, y_le, y_eq, eb_X12_areOne_7, eb_X12_areOne_11]
        · skip
          rcases Int.lt_or_le 0 (b') with hB | hB
          · skip
            refine ⟨1, ⟨fun _ => ⟨g1, g2, g3, by omega, g5⟩, fun _ => rfl⟩, Or.inr rfl, ?_⟩
            simp (disch := (first | assumption | (unfold i32; omega) | (unfold i64; omega) | omega)) only [↓reduceIte, ki_0, ki_1, ki_2, ki_3, ki_4, ki_5, ki_6, ki_7, ki_8, ki_9, ki_10, ki_11, ki_12, ki_13, ki_14, ki_15, ki_20, ki_21, ki_30, ki_31, ki_40, ki_41, ki_50, ki_51, ki_60, ki_63, ki_64, ki_65, ki_100, ki_158, ki_160, ki_200, ki_212, ki_1000, ki_2000, ki_2001, ki_5000, ki_10000, ki_10001, ki_100000, ki_200000, ki_1000000, ki_2000000, ki_3000000, iO_neg, iO_add, iO_sub, iO_mul, kn_4, kn_8, kn_10, kn_20, kn_24, kn_40, kn_41, kn_50, kn_60, kn_158, kn_160, kn_200, kn_212, kn_2001, tn_lt, fn_lt, tn_le, fn_le, tn_eq, fn_eq, x_lt, x_le, x_eq, x_ix, x_nat, t_lt, f_lt, t_le, f_le, t_eq, f_eq, eq_self, and_self, true_and, and_true, false_and, and_false, if_true, if_false, Int.toNat_natCast, bI_s, bL_s, bA_s, bA_n, bV_s, mq_s, mq_n, en_le, bl_0, bl_1, u_eq, u_ne, w_eq, w_ne, v_eq, v_ne, ↓hp_cc_26, ↓hp_g_26_0, ↓hp_p_26_0, ↓hp_g_26_1, ↓hp_p_26_1, ↓hp_g_26_2, ↓hp_p_26_2, ↓hp_g_26_3, ↓hp_g_26_4, ↓hp_g_26_5, ↓hp_g_26_6, ↓hp_g_26_7, ↓hp_g_26_8, ↓hp_g_26_9, ↓hp_g_26_10, ↓hp_g_26_11, ↓hp_g_26_12, ↓hp_g_26_13, ↓hp_g_26_14, ↓hp_g_26_15, ↓hp_p_26_15, ↓hp_g_26_16, ↓hp_g_26_17, ↓hp_g_26_18, ↓hp_p_26_18, ↓hp_g_26_19, ↓hp_p_26_19, ↓hp_g_26_20, ↓hp_g_26_21, ↓hp_p_26_21, ↓hp_g_26_22, ↓hp_g_26_23, ↓hp_g_26_24, ↓hp_g_26_25, ↓hp_g_26_26, ↓hp_g_26_27, ↓hp_g_26_28, ↓hp_g_26_29, ↓hp_g_26_30, ↓hp_p_26_30, ↓hp_g_26_31, ↓hp_g_26_32, ↓hp_p_26_32, ↓hp_a_27, ↓hp_s_27, ↓hp_l_27, ↓hp_a_28, ↓hp_s_28, ↓hp_l_28, ↓hp_a_29, ↓hp_s_29, ↓hp_l_29, ↓hp_a_30, ↓hp_s_30, ↓hp_l_30, ↓hp_a_31, ↓hp_s_31, ↓hp_l_31, ↓hp_a_32, ↓hp_s_32, ↓hp_l_32, ↓hp_a_33, ↓hp_s_33, ↓hp_l_33, ↓hp_a_34, ↓hp_s_34, ↓hp_l_34, ↓hp_a_35, ↓hp_s_35, ↓hp_l_35, ↓hp_a_36, ↓hp_s_36, ↓hp_l_36, ↓hp_a_37, ↓hp_s_37, ↓hp_l_37, ↓hp_a_38, ↓hp_s_38, ↓hp_l_38, ↓hp_a_39, ↓hp_s_39, ↓hp_a_40, ↓hp_s_40, ↓hp_a_41, ↓hp_s_41, ↓hp_l_41, ↓hp_a_42, ↓hp_s_42, ↓hp_l_42, ↓hp_a_43, ↓hp_s_43, ↓hp_l_43, ↓hp_a_44, ↓hp_s_44, ↓hp_l_44, ↓hp_a_45, ↓hp_s_45, ↓hp_l_45, ↓hp_a_46, ↓hp_s_46, ↓hp_l_46, ↓hp_a_47, ↓hp_s_47, ↓hp_l_47, ↓hp_a_48, ↓hp_s_48, ↓hp_l_48, ↓hp_a_49, ↓hp_s_49, ↓hp_l_49, ↓hp_a_50, ↓hp_s_50, ↓hp_l_50, m0, m1, m2, m3, n0, n1, n2, n3, iO_wide, lO_sub, lO_mul, lO_neg, lO_add, kl_0, lc_lt, lc_le, lc_gt, lc_ge, lc_eq, y_lt, y_le, y_eq, eb_X12_areOne_7, eb_X12_areOne_11]
          · skip
            refine ⟨0, ⟨fun h => by omega, fun h => by have := h.2.2.2.1; omega⟩, Or.inl rfl, ?_⟩
            simp (disch := (first | assumption | (unfold i32; omega) | (unfold i64; omega) | omega)) only [↓reduceIte, ki_0, ki_1, ki_2, ki_3, ki_4, ki_5, ki_6, ki_7, ki_8, ki_9, ki_10, ki_11, ki_12, ki_13, ki_14, ki_15, ki_20, ki_21, ki_30, ki_31, ki_40, ki_41, ki_50, ki_51, ki_60, ki_63, ki_64, ki_65, ki_100, ki_158, ki_160, ki_200, ki_212, ki_1000, ki_2000, ki_2001, ki_5000, ki_10000, ki_10001, ki_100000, ki_200000, ki_1000000, ki_2000000, ki_3000000, iO_neg, iO_add, iO_sub, iO_mul, kn_4, kn_8, kn_10, kn_20, kn_24, kn_40, kn_41, kn_50, kn_60, kn_158, kn_160, kn_200, kn_212, kn_2001, tn_lt, fn_lt, tn_le, fn_le, tn_eq, fn_eq, x_lt, x_le, x_eq, x_ix, x_nat, t_lt, f_lt, t_le, f_le, t_eq, f_eq, eq_self, and_self, true_and, and_true, false_and, and_false, if_true, if_false, Int.toNat_natCast, bI_s, bL_s, bA_s, bA_n, bV_s, mq_s, mq_n, en_le, bl_0, bl_1, u_eq, u_ne, w_eq, w_ne, v_eq, v_ne, ↓hp_cc_26, ↓hp_g_26_0, ↓hp_p_26_0, ↓hp_g_26_1, ↓hp_p_26_1, ↓hp_g_26_2, ↓hp_p_26_2, ↓hp_g_26_3, ↓hp_g_26_4, ↓hp_g_26_5, ↓hp_g_26_6, ↓hp_g_26_7, ↓hp_g_26_8, ↓hp_g_26_9, ↓hp_g_26_10, ↓hp_g_26_11, ↓hp_g_26_12, ↓hp_g_26_13, ↓hp_g_26_14, ↓hp_g_26_15, ↓hp_p_26_15, ↓hp_g_26_16, ↓hp_g_26_17, ↓hp_g_26_18, ↓hp_p_26_18, ↓hp_g_26_19, ↓hp_p_26_19, ↓hp_g_26_20, ↓hp_g_26_21, ↓hp_p_26_21, ↓hp_g_26_22, ↓hp_g_26_23, ↓hp_g_26_24, ↓hp_g_26_25, ↓hp_g_26_26, ↓hp_g_26_27, ↓hp_g_26_28, ↓hp_g_26_29, ↓hp_g_26_30, ↓hp_p_26_30, ↓hp_g_26_31, ↓hp_g_26_32, ↓hp_p_26_32, ↓hp_a_27, ↓hp_s_27, ↓hp_l_27, ↓hp_a_28, ↓hp_s_28, ↓hp_l_28, ↓hp_a_29, ↓hp_s_29, ↓hp_l_29, ↓hp_a_30, ↓hp_s_30, ↓hp_l_30, ↓hp_a_31, ↓hp_s_31, ↓hp_l_31, ↓hp_a_32, ↓hp_s_32, ↓hp_l_32, ↓hp_a_33, ↓hp_s_33, ↓hp_l_33, ↓hp_a_34, ↓hp_s_34, ↓hp_l_34, ↓hp_a_35, ↓hp_s_35, ↓hp_l_35, ↓hp_a_36, ↓hp_s_36, ↓hp_l_36, ↓hp_a_37, ↓hp_s_37, ↓hp_l_37, ↓hp_a_38, ↓hp_s_38, ↓hp_l_38, ↓hp_a_39, ↓hp_s_39, ↓hp_a_40, ↓hp_s_40, ↓hp_a_41, ↓hp_s_41, ↓hp_l_41, ↓hp_a_42, ↓hp_s_42, ↓hp_l_42, ↓hp_a_43, ↓hp_s_43, ↓hp_l_43, ↓hp_a_44, ↓hp_s_44, ↓hp_l_44, ↓hp_a_45, ↓hp_s_45, ↓hp_l_45, ↓hp_a_46, ↓hp_s_46, ↓hp_l_46, ↓hp_a_47, ↓hp_s_47, ↓hp_l_47, ↓hp_a_48, ↓hp_s_48, ↓hp_l_48, ↓hp_a_49, ↓hp_s_49, ↓hp_l_49, ↓hp_a_50, ↓hp_s_50, ↓hp_l_50, m0, m1, m2, m3, n0, n1, n2, n3, iO_wide, lO_sub, lO_mul, lO_neg, lO_add, kl_0, lc_lt, lc_le, lc_gt, lc_ge, lc_eq, y_lt, y_le, y_eq, eb_X12_areOne_7, eb_X12_areOne_11]
    · rcases Int.lt_or_le 0 (-b * c) with hM | hM
      · skip
        rcases Int.lt_or_le 0 ((a - c) * (a - c) - b * b * d) with hN | hN
        · skip
          rcases Int.lt_or_le 0 (b') with hB | hB
          · skip
            refine ⟨0, ⟨fun h => by omega, fun h => absurd h.2.2.2.2 g5⟩, Or.inl rfl, ?_⟩
            simp (disch := (first | assumption | (unfold i32; omega) | (unfold i64; omega) | omega)) only [↓reduceIte, ki_0, ki_1, ki_2, ki_3, ki_4, ki_5, ki_6, ki_7, ki_8, ki_9, ki_10, ki_11, ki_12, ki_13, ki_14, ki_15, ki_20, ki_21, ki_30, ki_31, ki_40, ki_41, ki_50, ki_51, ki_60, ki_63, ki_64, ki_65, ki_100, ki_158, ki_160, ki_200, ki_212, ki_1000, ki_2000, ki_2001, ki_5000, ki_10000, ki_10001, ki_100000, ki_200000, ki_1000000, ki_2000000, ki_3000000, iO_neg, iO_add, iO_sub, iO_mul, kn_4, kn_8, kn_10, kn_20, kn_24, kn_40, kn_41, kn_50, kn_60, kn_158, kn_160, kn_200, kn_212, kn_2001, tn_lt, fn_lt, tn_le, fn_le, tn_eq, fn_eq, x_lt, x_le, x_eq, x_ix, x_nat, t_lt, f_lt, t_le, f_le, t_eq, f_eq, eq_self, and_self, true_and, and_true, false_and, and_false, if_true, if_false, Int.toNat_natCast, bI_s, bL_s, bA_s, bA_n, bV_s, mq_s, mq_n, en_le, bl_0, bl_1, u_eq, u_ne, w_eq, w_ne, v_eq, v_ne, ↓hp_cc_26, ↓hp_g_26_0, ↓hp_p_26_0, ↓hp_g_26_1, ↓hp_p_26_1, ↓hp_g_26_2, ↓hp_p_26_2, ↓hp_g_26_3, ↓hp_g_26_4, ↓hp_g_26_5, ↓hp_g_26_6, ↓hp_g_26_7, ↓hp_g_26_8, ↓hp_g_26_9, ↓hp_g_26_10, ↓hp_g_26_11, ↓hp_g_26_12, ↓hp_g_26_13, ↓hp_g_26_14, ↓hp_g_26_15, ↓hp_p_26_15, ↓hp_g_26_16, ↓hp_g_26_17, ↓hp_g_26_18, ↓hp_p_26_18, ↓hp_g_26_19, ↓hp_p_26_19, ↓hp_g_26_20, ↓hp_g_26_21, ↓hp_p_26_21, ↓hp_g_26_22, ↓hp_g_26_23, ↓hp_g_26_24, ↓hp_g_26_25, ↓hp_g_26_26, ↓hp_g_26_27, ↓hp_g_26_28, ↓hp_g_26_29, ↓hp_g_26_30, ↓hp_p_26_30, ↓hp_g_26_31, ↓hp_g_26_32, ↓hp_p_26_32, ↓hp_a_27, ↓hp_s_27, ↓hp_l_27, ↓hp_a_28, ↓hp_s_28, ↓hp_l_28, ↓hp_a_29, ↓hp_s_29, ↓hp_l_29, ↓hp_a_30, ↓hp_s_30, ↓hp_l_30, ↓hp_a_31, ↓hp_s_31, ↓hp_l_31, ↓hp_a_32, ↓hp_s_32, ↓hp_l_32, ↓hp_a_33, ↓hp_s_33, ↓hp_l_33, ↓hp_a_34, ↓hp_s_34, ↓hp_l_34, ↓hp_a_35, ↓hp_s_35, ↓hp_l_35, ↓hp_a_36, ↓hp_s_36, ↓hp_l_36, ↓hp_a_37, ↓hp_s_37, ↓hp_l_37, ↓hp_a_38, ↓hp_s_38, ↓hp_l_38, ↓hp_a_39, ↓hp_s_39, ↓hp_a_40, ↓hp_s_40, ↓hp_a_41, ↓hp_s_41, ↓hp_l_41, ↓hp_a_42, ↓hp_s_42, ↓hp_l_42, ↓hp_a_43, ↓hp_s_43, ↓hp_l_43, ↓hp_a_44, ↓hp_s_44, ↓hp_l_44, ↓hp_a_45, ↓hp_s_45, ↓hp_l_45, ↓hp_a_46, ↓hp_s_46, ↓hp_l_46, ↓hp_a_47, ↓hp_s_47, ↓hp_l_47, ↓hp_a_48, ↓hp_s_48, ↓hp_l_48, ↓hp_a_49, ↓hp_s_49, ↓hp_l_49, ↓hp_a_50, ↓hp_s_50, ↓hp_l_50, m0, m1, m2, m3, n0, n1, n2, n3, iO_wide, lO_sub, lO_mul, lO_neg, lO_add, kl_0, lc_lt, lc_le, lc_gt, lc_ge, lc_eq, y_lt, y_le, y_eq, eb_X12_areOne_7, eb_X12_areOne_11]
          · skip
            refine ⟨0, ⟨fun h => by omega, fun h => absurd h.2.2.2.2 g5⟩, Or.inl rfl, ?_⟩
            simp (disch := (first | assumption | (unfold i32; omega) | (unfold i64; omega) | omega)) only [↓reduceIte, ki_0, ki_1, ki_2, ki_3, ki_4, ki_5, ki_6, ki_7, ki_8, ki_9, ki_10, ki_11, ki_12, ki_13, ki_14, ki_15, ki_20, ki_21, ki_30, ki_31, ki_40, ki_41, ki_50, ki_51, ki_60, ki_63, ki_64, ki_65, ki_100, ki_158, ki_160, ki_200, ki_212, ki_1000, ki_2000, ki_2001, ki_5000, ki_10000, ki_10001, ki_100000, ki_200000, ki_1000000, ki_2000000, ki_3000000, iO_neg, iO_add, iO_sub, iO_mul, kn_4, kn_8, kn_10, kn_20, kn_24, kn_40, kn_41, kn_50, kn_60, kn_158, kn_160, kn_200, kn_212, kn_2001, tn_lt, fn_lt, tn_le, fn_le, tn_eq, fn_eq, x_lt, x_le, x_eq, x_ix, x_nat, t_lt, f_lt, t_le, f_le, t_eq, f_eq, eq_self, and_self, true_and, and_true, false_and, and_false, if_true, if_false, Int.toNat_natCast, bI_s, bL_s, bA_s, bA_n, bV_s, mq_s, mq_n, en_le, bl_0, bl_1, u_eq, u_ne, w_eq, w_ne, v_eq, v_ne, ↓hp_cc_26, ↓hp_g_26_0, ↓hp_p_26_0, ↓hp_g_26_1, ↓hp_p_26_1, ↓hp_g_26_2, ↓hp_p_26_2, ↓hp_g_26_3, ↓hp_g_26_4, ↓hp_g_26_5, ↓hp_g_26_6, ↓hp_g_26_7, ↓hp_g_26_8, ↓hp_g_26_9, ↓hp_g_26_10, ↓hp_g_26_11, ↓hp_g_26_12, ↓hp_g_26_13, ↓hp_g_26_14, ↓hp_g_26_15, ↓hp_p_26_15, ↓hp_g_26_16, ↓hp_g_26_17, ↓hp_g_26_18, ↓hp_p_26_18, ↓hp_g_26_19, ↓hp_p_26_19, ↓hp_g_26_20, ↓hp_g_26_21, ↓hp_p_26_21, ↓hp_g_26_22, ↓hp_g_26_23, ↓hp_g_26_24, ↓hp_g_26_25, ↓hp_g_26_26, ↓hp_g_26_27, ↓hp_g_26_28, ↓hp_g_26_29, ↓hp_g_26_30, ↓hp_p_26_30, ↓hp_g_26_31, ↓hp_g_26_32, ↓hp_p_26_32, ↓hp_a_27, ↓hp_s_27, ↓hp_l_27, ↓hp_a_28, ↓hp_s_28, ↓hp_l_28, ↓hp_a_29, ↓hp_s_29, ↓hp_l_29, ↓hp_a_30, ↓hp_s_30, ↓hp_l_30, ↓hp_a_31, ↓hp_s_31, ↓hp_l_31, ↓hp_a_32, ↓hp_s_32, ↓hp_l_32, ↓hp_a_33, ↓hp_s_33, ↓hp_l_33, ↓hp_a_34, ↓hp_s_34, ↓hp_l_34, ↓hp_a_35, ↓hp_s_35, ↓hp_l_35, ↓hp_a_36, ↓hp_s_36, ↓hp_l_36, ↓hp_a_37, ↓hp_s_37, ↓hp_l_37, ↓hp_a_38, ↓hp_s_38, ↓hp_l_38, ↓hp_a_39, ↓hp_s_39, ↓hp_a_40, ↓hp_s_40, ↓hp_a_41, ↓hp_s_41, ↓hp_l_41, ↓hp_a_42, ↓hp_s_42, ↓hp_l_42, ↓hp_a_43, ↓hp_s_43, ↓hp_l_43, ↓hp_a_44, ↓hp_s_44, ↓hp_l_44, ↓hp_a_45, ↓hp_s_45, ↓hp_l_45, ↓hp_a_46, ↓hp_s_46, ↓hp_l_46, ↓hp_a_47, ↓hp_s_47, ↓hp_l_47, ↓hp_a_48, ↓hp_s_48, ↓hp_l_48, ↓hp_a_49, ↓hp_s_49, ↓hp_l_49, ↓hp_a_50, ↓hp_s_50, ↓hp_l_50, m0, m1, m2, m3, n0, n1, n2, n3, iO_wide, lO_sub, lO_mul, lO_neg, lO_add, kl_0, lc_lt, lc_le, lc_gt, lc_ge, lc_eq, y_lt, y_le, y_eq, eb_X12_areOne_7, eb_X12_areOne_11]
        · skip
          rcases Int.lt_or_le 0 (b') with hB | hB
          · skip
            refine ⟨0, ⟨fun h => by omega, fun h => absurd h.2.2.2.2 g5⟩, Or.inl rfl, ?_⟩
            simp (disch := (first | assumption | (unfold i32; omega) | (unfold i64; omega) | omega)) only [↓reduceIte, ki_0, ki_1, ki_2, ki_3, ki_4, ki_5, ki_6, ki_7, ki_8, ki_9, ki_10, ki_11, ki_12, ki_13, ki_14, ki_15, ki_20, ki_21, ki_30, ki_31, ki_40, ki_41, ki_50, ki_51, ki_60, ki_63, ki_64, ki_65, ki_100, ki_158, ki_160, ki_200, ki_212, ki_1000, ki_2000, ki_2001, ki_5000, ki_10000, ki_10001, ki_100000, ki_200000, ki_1000000, ki_2000000, ki_3000000, iO_neg, iO_add, iO_sub, iO_mul, kn_4, kn_8, kn_10, kn_20, kn_24, kn_40, kn_41, kn_50, kn_60, kn_158, kn_160, kn_200, kn_212, kn_2001, tn_lt, fn_lt, tn_le, fn_le, tn_eq, fn_eq, x_lt, x_le, x_eq, x_ix, x_nat, t_lt, f_lt, t_le, f_le, t_eq, f_eq, eq_self, and_self, true_and, and_true, false_and, and_false, if_true, if_false, Int.toNat_natCast, bI_s, bL_s, bA_s, bA_n, bV_s, mq_s, mq_n, en_le, bl_0, bl_1, u_eq, u_ne, w_eq, w_ne, v_eq, v_ne, ↓hp_cc_26, ↓hp_g_26_0, ↓hp_p_26_0, ↓hp_g_26_1, ↓hp_p_26_1, ↓hp_g_26_2, ↓hp_p_26_2, ↓hp_g_26_3, ↓hp_g_26_4, ↓hp_g_26_5, ↓hp_g_26_6, ↓hp_g_26_7, ↓hp_g_26_8, ↓hp_g_26_9, ↓hp_g_26_10, ↓hp_g_26_11, ↓hp_g_26_12, ↓hp_g_26_13, ↓hp_g_26_14, ↓hp_g_26_15, ↓hp_p_26_15, ↓hp_g_26_16, ↓hp_g_26_17, ↓hp_g_26_18, ↓hp_p_26_18, ↓hp_g_26_19, ↓hp_p_26_19, ↓hp_g_26_20, ↓hp_g_26_21, ↓hp_p_26_21, ↓hp_g_26_22, ↓hp_g_26_23, ↓hp_g_26_24, ↓hp_g_26_25, ↓hp_g_26_26, ↓hp_g_26_27, ↓hp_g_26_28, ↓hp_g_26_29, ↓hp_g_26_30, ↓hp_p_26_30, ↓hp_g_26_31, ↓hp_g_26_32, ↓hp_p_26_32, ↓hp_a_27, ↓hp_s_27, ↓hp_l_27, ↓hp_a_28, ↓hp_s_28, ↓hp_l_28, ↓hp_a_29, ↓hp_s_29, ↓hp_l_29, ↓hp_a_30, ↓hp_s_30, ↓hp_l_30, ↓hp_a_31, ↓hp_s_31, ↓hp_l_31, ↓hp_a_32, ↓hp_s_32, ↓hp_l_32, ↓hp_a_33, ↓hp_s_33, ↓hp_l_33, ↓hp_a_34, ↓hp_s_34, ↓hp_l_34, ↓hp_a_35, ↓hp_s_35, ↓hp_l_35, ↓hp_a_36, ↓hp_s_36, ↓hp_l_36, ↓hp_a_37, ↓hp_s_37, ↓hp_l_37, ↓hp_a_38, ↓hp_s_38, ↓hp_l_38, ↓hp_a_39, ↓hp_s_39, ↓hp_a_40, ↓hp_s_40, ↓hp_a_41, ↓hp_s_41, ↓hp_l_41, ↓hp_a_42, ↓hp_s_42, ↓hp_l_42, ↓hp_a_43, ↓hp_s_43, ↓hp_l_43, ↓hp_a_44, ↓hp_s_44, ↓hp_l_44, ↓hp_a_45, ↓hp_s_45, ↓hp_l_45, ↓hp_a_46, ↓hp_s_46, ↓hp_l_46, ↓hp_a_47, ↓hp_s_47, ↓hp_l_47, ↓hp_a_48, ↓hp_s_48, ↓hp_l_48, ↓hp_a_49, ↓hp_s_49, ↓hp_l_49, ↓hp_a_50, ↓hp_s_50, ↓hp_l_50, m0, m1, m2, m3, n0, n1, n2, n3, iO_wide, lO_sub, lO_mul, lO_neg, lO_add, kl_0, lc_lt, lc_le, lc_gt, lc_ge, lc_eq, y_lt, y_le, y_eq, eb_X12_areOne_7, eb_X12_areOne_11]
          · skip
            refine ⟨0, ⟨fun h => by omega, fun h => absurd h.2.2.2.2 g5⟩, Or.inl rfl, ?_⟩
            simp (disch := (first | assumption | (unfold i32; omega) | (unfold i64; omega) | omega)) only [↓reduceIte, ki_0, ki_1, ki_2, ki_3, ki_4, ki_5, ki_6, ki_7, ki_8, ki_9, ki_10, ki_11, ki_12, ki_13, ki_14, ki_15, ki_20, ki_21, ki_30, ki_31, ki_40, ki_41, ki_50, ki_51, ki_60, ki_63, ki_64, ki_65, ki_100, ki_158, ki_160, ki_200, ki_212, ki_1000, ki_2000, ki_2001, ki_5000, ki_10000, ki_10001, ki_100000, ki_200000, ki_1000000, ki_2000000, ki_3000000, iO_neg, iO_add, iO_sub, iO_mul, kn_4, kn_8, kn_10, kn_20, kn_24, kn_40, kn_41, kn_50, kn_60, kn_158, kn_160, kn_200, kn_212, kn_2001, tn_lt, fn_lt, tn_le, fn_le, tn_eq, fn_eq, x_lt, x_le, x_eq, x_ix, x_nat, t_lt, f_lt, t_le, f_le, t_eq, f_eq, eq_self, and_self, true_and, and_true, false_and, and_false, if_true, if_false, Int.toNat_natCast, bI_s, bL_s, bA_s, bA_n, bV_s, mq_s, mq_n, en_le, bl_0, bl_1, u_eq, u_ne, w_eq, w_ne, v_eq, v_ne, ↓hp_cc_26, ↓hp_g_26_0, ↓hp_p_26_0, ↓hp_g_26_1, ↓hp_p_26_1, ↓hp_g_26_2, ↓hp_p_26_2, ↓hp_g_26_3, ↓hp_g_26_4, ↓hp_g_26_5, ↓hp_g_26_6, ↓hp_g_26_7, ↓hp_g_26_8, ↓hp_g_26_9, ↓hp_g_26_10, ↓hp_g_26_11, ↓hp_g_26_12, ↓hp_g_26_13, ↓hp_g_26_14, ↓hp_g_26_15, ↓hp_p_26_15, ↓hp_g_26_16, ↓hp_g_26_17, ↓hp_g_26_18, ↓hp_p_26_18, ↓hp_g_26_19, ↓hp_p_26_19, ↓hp_g_26_20, ↓hp_g_26_21, ↓hp_p_26_21, ↓hp_g_26_22, ↓hp_g_26_23, ↓hp_g_26_24, ↓hp_g_26_25, ↓hp_g_26_26, ↓hp_g_26_27, ↓hp_g_26_28, ↓hp_g_26_29, ↓hp_g_26_30, ↓hp_p_26_30, ↓hp_g_26_31, ↓hp_g_26_32, ↓hp_p_26_32, ↓hp_a_27, ↓hp_s_27, ↓hp_l_27, ↓hp_a_28, ↓hp_s_28, ↓hp_l_28, ↓hp_a_29, ↓hp_s_29, ↓hp_l_29, ↓hp_a_30, ↓hp_s_30, ↓hp_l_30, ↓hp_a_31, ↓hp_s_31, ↓hp_l_31, ↓hp_a_32, ↓hp_s_32, ↓hp_l_32, ↓hp_a_33, ↓hp_s_33, ↓hp_l_33, ↓hp_a_34, ↓hp_s_34, ↓hp_l_34, ↓hp_a_35, ↓hp_s_35, ↓hp_l_35, ↓hp_a_36, ↓hp_s_36, ↓hp_l_36, ↓hp_a_37, ↓hp_s_37, ↓hp_l_37, ↓hp_a_38, ↓hp_s_38, ↓hp_l_38, ↓hp_a_39, ↓hp_s_39, ↓hp_a_40, ↓hp_s_40, ↓hp_a_41, ↓hp_s_41, ↓hp_l_41, ↓hp_a_42, ↓hp_s_42, ↓hp_l_42, ↓hp_a_43, ↓hp_s_43, ↓hp_l_43, ↓hp_a_44, ↓hp_s_44, ↓hp_l_44, ↓hp_a_45, ↓hp_s_45, ↓hp_l_45, ↓hp_a_46, ↓hp_s_46, ↓hp_l_46, ↓hp_a_47, ↓hp_s_47, ↓hp_l_47, ↓hp_a_48, ↓hp_s_48, ↓hp_l_48, ↓hp_a_49, ↓hp_s_49, ↓hp_l_49, ↓hp_a_50, ↓hp_s_50, ↓hp_l_50, m0, m1, m2, m3, n0, n1, n2, n3, iO_wide, lO_sub, lO_mul, lO_neg, lO_add, kl_0, lc_lt, lc_le, lc_gt, lc_ge, lc_eq, y_lt, y_le, y_eq, eb_X12_areOne_7, eb_X12_areOne_11]
      · skip
        rcases Int.lt_or_le 0 ((a - c) * (a - c) - b * b * d) with hN | hN
        · skip
          rcases Int.lt_or_le 0 (b') with hB | hB
          · skip
            refine ⟨0, ⟨fun h => by omega, fun h => absurd h.2.2.2.2 g5⟩, Or.inl rfl, ?_⟩
            simp (disch := (first | assumption | (unfold i32; omega) | (unfold i64; omega) | omega)) only [↓reduceIte, ki_0, ki_1, ki_2, ki_3, ki_4, ki_5, ki_6, ki_7, ki_8, ki_9, ki_10, ki_11, ki_12, ki_13, ki_14, ki_15, ki_20, ki_21, ki_30, ki_31, ki_40, ki_41, ki_50, ki_51, ki_60, ki_63, ki_64, ki_65, ki_100, ki_158, ki_160, ki_200, ki_212, ki_1000, ki_2000, ki_2001, ki_5000, ki_10000, ki_10001, ki_100000, ki_200000, ki_1000000, ki_2000000, ki_3000000, iO_neg, iO_add, iO_sub, iO_mul, kn_4, kn_8, kn_10, kn_20, kn_24, kn_40, kn_41, kn_50, kn_60, kn_158, kn_160, kn_200, kn_212, kn_2001, tn_lt, fn_lt, tn_le, fn_le, tn_eq, fn_eq, x_lt, x_le, x_eq, x_ix, x_nat, t_lt, f_lt, t_le, f_le, t_eq, f_eq, eq_self, and_self, true_and, and_true, false_and, and_false, if_true, if_false, Int.toNat_natCast, bI_s, bL_s, bA_s, bA_n, bV_s, mq_s, mq_n, en_le, bl_0, bl_1, u_eq, u_ne, w_eq, w_ne, v_eq, v_ne, ↓hp_cc_26, ↓hp_g_26_0, ↓hp_p_26_0, ↓hp_g_26_1, ↓hp_p_26_1, ↓hp_g_26_2, ↓hp_p_26_2, ↓hp_g_26_3, ↓hp_g_26_4, ↓hp_g_26_5, ↓hp_g_26_6, ↓hp_g_26_7, ↓hp_g_26_8, ↓hp_g_26_9, ↓hp_g_26_10, ↓hp_g_26_11, ↓hp_g_26_12, ↓hp_g_26_13, ↓hp_g_26_14, ↓hp_g_26_15, ↓hp_p_26_15, ↓hp_g_26_16, ↓hp_g_26_17, ↓hp_g_26_18, ↓hp_p_26_18, ↓hp_g_26_19, ↓hp_p_26_19, ↓hp_g_26_20, ↓hp_g_26_21, ↓hp_p_26_21, ↓hp_g_26_22, ↓hp_g_26_23, ↓hp_g_26_24, ↓hp_g_26_25, ↓hp_g_26_26, ↓hp_g_26_27, ↓hp_g_26_28, ↓hp_g_26_29, ↓hp_g_26_30, ↓hp_p_26_30, ↓hp_g_26_31, ↓hp_g_26_32, ↓hp_p_26_32, ↓hp_a_27, ↓hp_s_27, ↓hp_l_27, ↓hp_a_28, ↓hp_s_28, ↓hp_l_28, ↓hp_a_29, ↓hp_s_29, ↓hp_l_29, ↓hp_a_30, ↓hp_s_30, ↓hp_l_30, ↓hp_a_31, ↓hp_s_31, ↓hp_l_31, ↓hp_a_32, ↓hp_s_32, ↓hp_l_32, ↓hp_a_33, ↓hp_s_33, ↓hp_l_33, ↓hp_a_34, ↓hp_s_34, ↓hp_l_34, ↓hp_a_35, ↓hp_s_35, ↓hp_l_35, ↓hp_a_36, ↓hp_s_36, ↓hp_l_36, ↓hp_a_37, ↓hp_s_37, ↓hp_l_37, ↓hp_a_38, ↓hp_s_38, ↓hp_l_38, ↓hp_a_39, ↓hp_s_39, ↓hp_a_40, ↓hp_s_40, ↓hp_a_41, ↓hp_s_41, ↓hp_l_41, ↓hp_a_42, ↓hp_s_42, ↓hp_l_42, ↓hp_a_43, ↓hp_s_43, ↓hp_l_43, ↓hp_a_44, ↓hp_s_44, ↓hp_l_44, ↓hp_a_45, ↓hp_s_45, ↓hp_l_45, ↓hp_a_46, ↓hp_s_46, ↓hp_l_46, ↓hp_a_47, ↓hp_s_47, ↓hp_l_47, ↓hp_a_48, ↓hp_s_48, ↓hp_l_48, ↓hp_a_49, ↓hp_s_49, ↓hp_l_49, ↓hp_a_50, ↓hp_s_50, ↓hp_l_50, m0, m1, m2, m3, n0, n1, n2, n3, iO_wide, lO_sub, lO_mul, lO_neg, lO_add, kl_0, lc_lt, lc_le, lc_gt, lc_ge, lc_eq, y_lt, y_le, y_eq, eb_X12_areOne_7, eb_X12_areOne_11]
          · skip
            refine ⟨0, ⟨fun h => by omega, fun h => absurd h.2.2.2.2 g5⟩, Or.inl rfl, ?_⟩
            simp (disch := (first | assumption | (unfold i32; omega) | (unfold i64; omega) | omega)) only [↓reduceIte, ki_0, ki_1, ki_2, ki_3, ki_4, ki_5, ki_6, ki_7, ki_8, ki_9, ki_10, ki_11, ki_12, ki_13, ki_14, ki_15, ki_20, ki_21, ki_30, ki_31, ki_40, ki_41, ki_50, ki_51, ki_60, ki_63, ki_64, ki_65, ki_100, ki_158, ki_160, ki_200, ki_212, ki_1000, ki_2000, ki_2001, ki_5000, ki_10000, ki_10001, ki_100000, ki_200000, ki_1000000, ki_2000000, ki_3000000, iO_neg, iO_add, iO_sub, iO_mul, kn_4, kn_8, kn_10, kn_20, kn_24, kn_40, kn_41, kn_50, kn_60, kn_158, kn_160, kn_200, kn_212, kn_2001, tn_lt, fn_lt, tn_le, fn_le, tn_eq, fn_eq, x_lt, x_le, x_eq, x_ix, x_nat, t_lt, f_lt, t_le, f_le, t_eq, f_eq, eq_self, and_self, true_and, and_true, false_and, and_false, if_true, if_false, Int.toNat_natCast, bI_s, bL_s, bA_s, bA_n, bV_s, mq_s, mq_n, en_le, bl_0, bl_1, u_eq, u_ne, w_eq, w_ne, v_eq, v_ne, ↓hp_cc_26, ↓hp_g_26_0, ↓hp_p_26_0, ↓hp_g_26_1, ↓hp_p_26_1, ↓hp_g_26_2, ↓hp_p_26_2, ↓hp_g_26_3, ↓hp_g_26_4, ↓hp_g_26_5, ↓hp_g_26_6, ↓hp_g_26_7, ↓hp_g_26_8, ↓hp_g_26_9, ↓hp_g_26_10, ↓hp_g_26_11, ↓hp_g_26_12, ↓hp_g_26_13, ↓hp_g_26_14, ↓hp_g_26_15, ↓hp_p_26_15, ↓hp_g_26_16, ↓hp_g_26_17, ↓hp_g_26_18, ↓hp_p_26_18, ↓hp_g_26_19, ↓hp_p_26_19, ↓hp_g_26_20, ↓hp_g_26_21, ↓hp_p_26_21, ↓hp_g_26_22, ↓hp_g_26_23, ↓hp_g_26_24, ↓hp_g_26_25, ↓hp_g_26_26, ↓hp_g_26_27, ↓hp_g_26_28, ↓hp_g_26_29, ↓hp_g_26_30, ↓hp_p_26_30, ↓hp_g_26_31, ↓hp_g_26_32, ↓hp_p_26_32, ↓hp_a_27, ↓hp_s_27, ↓hp_l_27, ↓hp_a_28, ↓hp_s_28, ↓hp_l_28, ↓hp_a_29, ↓hp_s_29, ↓hp_l_29, ↓hp_a_30, ↓hp_s_30, ↓hp_l_30, ↓hp_a_31, ↓hp_s_31, ↓hp_l_31, ↓hp_a_32, ↓hp_s_32, ↓hp_l_32, ↓hp_a_33, ↓hp_s_33, ↓hp_l_33, ↓hp_a_34, ↓hp_s_34, ↓hp_l_34, ↓hp_a_35, ↓hp_s_35, ↓hp_l_35, ↓hp_a_36, ↓hp_s_36, ↓hp_l_36, ↓hp_a_37, ↓hp_s_37, ↓hp_l_37, ↓hp_a_38, ↓hp_s_38, ↓hp_l_38, ↓hp_a_39, ↓hp_s_39, ↓hp_a_40, ↓hp_s_40, ↓hp_a_41, ↓hp_s_41, ↓hp_l_41, ↓hp_a_42, ↓hp_s_42, ↓hp_l_42, ↓hp_a_43, ↓hp_s_43, ↓hp_l_43, ↓hp_a_44, ↓hp_s_44, ↓hp_l_44, ↓hp_a_45, ↓hp_s_45, ↓hp_l_45, ↓hp_a_46, ↓hp_s_46, ↓hp_l_46, ↓hp_a_47, ↓hp_s_47, ↓hp_l_47, ↓hp_a_48, ↓hp_s_48, ↓hp_l_48, ↓hp_a_49, ↓hp_s_49, ↓hp_l_49, ↓hp_a_50, ↓hp_s_50, ↓hp_l_50, m0, m1, m2, m3, n0, n1, n2, n3, iO_wide, lO_sub, lO_mul, lO_neg, lO_add, kl_0, lc_lt, lc_le, lc_gt, lc_ge, lc_eq, y_lt, y_le, y_eq, eb_X12_areOne_7, eb_X12_areOne_11]
        · skip
          rcases Int.lt_or_le 0 (b') with hB | hB
          · skip
            refine ⟨0, ⟨fun h => by omega, fun h => absurd h.2.2.2.2 g5⟩, Or.inl rfl, ?_⟩
            simp (disch := (first | assumption | (unfold i32; omega) | (unfold i64; omega) | omega)) only [↓reduceIte, ki_0, ki_1, ki_2, ki_3, ki_4, ki_5, ki_6, ki_7, ki_8, ki_9, ki_10, ki_11, ki_12, ki_13, ki_14, ki_15, ki_20, ki_21, ki_30, ki_31, ki_40, ki_41, ki_50, ki_51, ki_60, ki_63, ki_64, ki_65, ki_100, ki_158, ki_160, ki_200, ki_212, ki_1000, ki_2000, ki_2001, ki_5000, ki_10000, ki_10001, ki_100000, ki_200000, ki_1000000, ki_2000000, ki_3000000, iO_neg, iO_add, iO_sub, iO_mul, kn_4, kn_8, kn_10, kn_20, kn_24, kn_40, kn_41, kn_50, kn_60, kn_158, kn_160, kn_200, kn_212, kn_2001, tn_lt, fn_lt, tn_le, fn_le, tn_eq, fn_eq, x_lt, x_le, x_eq, x_ix, x_nat, t_lt, f_lt, t_le, f_le, t_eq, f_eq, eq_self, and_self, true_and, and_true, false_and, and_false, if_true, if_false, Int.toNat_natCast, bI_s, bL_s, bA_s, bA_n, bV_s, mq_s, mq_n, en_le, bl_0, bl_1, u_eq, u_ne, w_eq, w_ne, v_eq, v_ne, ↓hp_cc_26, ↓hp_g_26_0, ↓hp_p_26_0, ↓hp_g_26_1, ↓hp_p_26_1, ↓hp_g_26_2, ↓hp_p_26_2, ↓hp_g_26_3, ↓hp_g_26_4, ↓hp_g_26_5, ↓hp_g_26_6, ↓hp_g_26_7, ↓hp_g_26_8, ↓hp_g_26_9, ↓hp_g_26_10, ↓hp_g_26_11, ↓hp_g_26_12, ↓hp_g_26_13, ↓hp_g_26_14, ↓hp_g_26_15, ↓hp_p_26_15, ↓hp_g_26_16, ↓hp_g_26_17, ↓hp_g_26_18, ↓hp_p_26_18, ↓hp_g_26_19, ↓hp_p_26_19, ↓hp_g_26_20, ↓hp_g_26_21, ↓hp_p_26_21, ↓hp_g_26_22, ↓hp_g_26_23, ↓hp_g_26_24, ↓hp_g_26_25, ↓hp_g_26_26, ↓hp_g_26_27, ↓hp_g_26_28, ↓hp_g_26_29, ↓hp_g_26_30, ↓hp_p_26_30, ↓hp_g_26_31, ↓hp_g_26_32, ↓hp_p_26_32, ↓hp_a_27, ↓hp_s_27, ↓hp_l_27, ↓hp_a_28, ↓hp_s_28, ↓hp_l_28, ↓hp_a_29, ↓hp_s_29, ↓hp_l_29, ↓hp_a_30, ↓hp_s_30, ↓hp_l_30, ↓hp_a_31, ↓hp_s_31, ↓hp_l_31, ↓hp_a_32, ↓hp_s_32, ↓hp_l_32, ↓hp_a_33, ↓hp_s_33, ↓hp_l_33, ↓hp_a_34, ↓hp_s_34, ↓hp_l_34, ↓hp_a_35, ↓hp_s_35, ↓hp_l_35, ↓hp_a_36, ↓hp_s_36, ↓hp_l_36, ↓hp_a_37, ↓hp_s_37, ↓hp_l_37, ↓hp_a_38, ↓hp_s_38, ↓hp_l_38, ↓hp_a_39, ↓hp_s_39, ↓hp_a_40, ↓hp_s_40, ↓hp_a_41, ↓hp_s_41, ↓hp_l_41, ↓hp_a_42, ↓hp_s_42, ↓hp_l_42, ↓hp_a_43, ↓hp_s_43, ↓hp_l_43, ↓hp_a_44, ↓hp_s_44, ↓hp_l_44, ↓hp_a_45, ↓hp_s_45, ↓hp_l_45, ↓hp_a_46, ↓hp_s_46, ↓hp_l_46, ↓hp_a_47, ↓hp_s_47, ↓hp_l_47, ↓hp_a_48, ↓hp_s_48, ↓hp_l_48, ↓hp_a_49, ↓hp_s_49, ↓hp_l_49, ↓hp_a_50, ↓hp_s_50, ↓hp_l_50, m0, m1, m2, m3, n0, n1, n2, n3, iO_wide, lO_sub, lO_mul, lO_neg, lO_add, kl_0, lc_lt, lc_le, lc_gt, lc_ge, lc_eq, y_lt, y_le, y_eq, eb_X12_areOne_7, eb_X12_areOne_11]
          · skip
            refine ⟨0, ⟨fun h => by omega, fun h => absurd h.2.2.2.2 g5⟩, Or.inl rfl, ?_⟩
            simp (disch := (first | assumption | (unfold i32; omega) | (unfold i64; omega) | omega)) only [↓reduceIte, ki_0, ki_1, ki_2, ki_3, ki_4, ki_5, ki_6, ki_7, ki_8, ki_9, ki_10, ki_11, ki_12, ki_13, ki_14, ki_15, ki_20, ki_21, ki_30, ki_31, ki_40, ki_41, ki_50, ki_51, ki_60, ki_63, ki_64, ki_65, ki_100, ki_158, ki_160, ki_200, ki_212, ki_1000, ki_2000, ki_2001, ki_5000, ki_10000, ki_10001, ki_100000, ki_200000, ki_1000000, ki_2000000, ki_3000000, iO_neg, iO_add, iO_sub, iO_mul, kn_4, kn_8, kn_10, kn_20, kn_24, kn_40, kn_41, kn_50, kn_60, kn_158, kn_160, kn_200, kn_212, kn_2001, tn_lt, fn_lt, tn_le, fn_le, tn_eq, fn_eq, x_lt, x_le, x_eq, x_ix, x_nat, t_lt, f_lt, t_le, f_le, t_eq, f_eq, eq_self, and_self, true_and, and_true, false_and, and_false, if_true, if_false, Int.toNat_natCast, bI_s, bL_s, bA_s, bA_n, bV_s, mq_s, mq_n, en_le, bl_0, bl_1, u_eq, u_ne, w_eq, w_ne, v_eq, v_ne, ↓hp_cc_26, ↓hp_g_26_0, ↓hp_p_26_0, ↓hp_g_26_1, ↓hp_p_26_1, ↓hp_g_26_2, ↓hp_p_26_2, ↓hp_g_26_3, ↓hp_g_26_4, ↓hp_g_26_5, ↓hp_g_26_6, ↓hp_g_26_7, ↓hp_g_26_8, ↓hp_g_26_9, ↓hp_g_26_10, ↓hp_g_26_11, ↓hp_g_26_12, ↓hp_g_26_13, ↓hp_g_26_14, ↓hp_g_26_15, ↓hp_p_26_15, ↓hp_g_26_16, ↓hp_g_26_17, ↓hp_g_26_18, ↓hp_p_26_18, ↓hp_g_26_19, ↓hp_p_26_19, ↓hp_g_26_20, ↓hp_g_26_21, ↓hp_p_26_21, ↓hp_g_26_22, ↓hp_g_26_23, ↓hp_g_26_24, ↓hp_g_26_25, ↓hp_g_26_26, ↓hp_g_26_27, ↓hp_g_26_28, ↓hp_g_26_29, ↓hp_g_26_30, ↓hp_p_26_30, ↓hp_g_26_31, ↓hp_g_26_32, ↓hp_p_26_32, ↓hp_a_27, ↓hp_s_27, ↓hp_l_27, ↓hp_a_28, ↓hp_s_28, ↓hp_l_28, ↓hp_a_29, ↓hp_s_29, ↓hp_l_29, ↓hp_a_30, ↓hp_s_30, ↓hp_l_30, ↓hp_a_31, ↓hp_s_31, ↓hp_l_31, ↓hp_a_32, ↓hp_s_32, ↓hp_l_32, ↓hp_a_33, ↓hp_s_33, ↓hp_l_33, ↓hp_a_34, ↓hp_s_34, ↓hp_l_34, ↓hp_a_35, ↓hp_s_35, ↓hp_l_35, ↓hp_a_36, ↓hp_s_36, ↓hp_l_36, ↓hp_a_37, ↓hp_s_37, ↓hp_l_37, ↓hp_a_38, ↓hp_s_38, ↓hp_l_38, ↓hp_a_39, ↓hp_s_39, ↓hp_a_40, ↓hp_s_40, ↓hp_a_41, ↓hp_s_41, ↓hp_l_41, ↓hp_a_42, ↓hp_s_42, ↓hp_l_42, ↓hp_a_43, ↓hp_s_43, ↓hp_l_43, ↓hp_a_44, ↓hp_s_44, ↓hp_l_44, ↓hp_a_45, ↓hp_s_45, ↓hp_l_45, ↓hp_a_46, ↓hp_s_46, ↓hp_l_46, ↓hp_a_47, ↓hp_s_47, ↓hp_l_47, ↓hp_a_48, ↓hp_s_48, ↓hp_l_48, ↓hp_a_49, ↓hp_s_49, ↓hp_l_49, ↓hp_a_50, ↓hp_s_50, ↓hp_l_50, m0, m1, m2, m3, n0, n1, n2, n3, iO_wide, lO_sub, lO_mul, lO_neg, lO_add, kl_0, lc_lt, lc_le, lc_gt, lc_ge, lc_eq, y_lt, y_le, y_eq, eb_X12_areOne_7, eb_X12_areOne_11]
  · refine ⟨0, ⟨fun h => by omega, fun h => absurd h.2.2.1 g3⟩, Or.inl rfl, ?_⟩
    simp (disch := (first | assumption | (unfold i32; omega) | (unfold i64; omega) | omega)) only [↓reduceIte, ki_0, ki_1, ki_2, ki_3, ki_4, ki_5, ki_6, ki_7, ki_8, ki_9, ki_10, ki_11, ki_12, ki_13, ki_14, ki_15, ki_20, ki_21, ki_30, ki_31, ki_40, ki_41, ki_50, ki_51, ki_60, ki_63, ki_64, ki_65, ki_100, ki_158, ki_160, ki_200, ki_212, ki_1000, ki_2000, ki_2001, ki_5000, ki_10000, ki_10001, ki_100000, ki_200000, ki_1000000, ki_2000000, ki_3000000, iO_neg, iO_add, iO_sub, iO_mul, kn_4, kn_8, kn_10, kn_20, kn_24, kn_40, kn_41, kn_50, kn_60, kn_158, kn_160, kn_200, kn_212, kn_2001, tn_lt, fn_lt, tn_le, fn_le, tn_eq, fn_eq, x_lt, x_le, x_eq, x_ix, x_nat, t_lt, f_lt, t_le, f_le, t_eq, f_eq, eq_self, and_self, true_and, and_true, false_and, and_false, if_true, if_false, Int.toNat_natCast, bI_s, bL_s, bA_s, bA_n, bV_s, mq_s, mq_n, en_le, bl_0, bl_1, u_eq, u_ne, w_eq, w_ne, v_eq, v_ne, ↓hp_cc_26, ↓hp_g_26_0, ↓hp_p_26_0, ↓hp_g_26_1, ↓hp_p_26_1, ↓hp_g_26_2, ↓hp_p_26_2, ↓hp_g_26_3, ↓hp_g_26_4, ↓hp_g_26_5, ↓hp_g_26_6, ↓hp_g_26_7, ↓hp_g_26_8, ↓hp_g_26_9, ↓hp_g_26_10, ↓hp_g_26_11, ↓hp_g_26_12, ↓hp_g_26_13, ↓hp_g_26_14, ↓hp_g_26_15, ↓hp_p_26_15, ↓hp_g_26_16, ↓hp_g_26_17, ↓hp_g_26_18, ↓hp_p_26_18, ↓hp_g_26_19, ↓hp_p_26_19, ↓hp_g_26_20, ↓hp_g_26_21, ↓hp_p_26_21, ↓hp_g_26_22, ↓hp_g_26_23, ↓hp_g_26_24, ↓hp_g_26_25, ↓hp_g_26_26, ↓hp_g_26_27, ↓hp_g_26_28, ↓hp_g_26_29, ↓hp_g_26_30, ↓hp_p_26_30, ↓hp_g_26_31, ↓hp_g_26_32, ↓hp_p_26_32, ↓hp_a_27, ↓hp_s_27, ↓hp_l_27, ↓hp_a_28, ↓hp_s_28, ↓hp_l_28, ↓hp_a_29, ↓hp_s_29, ↓hp_l_29, ↓hp_a_30, ↓hp_s_30, ↓hp_l_30, ↓hp_a_31, ↓hp_s_31, ↓hp_l_31, ↓hp_a_32, ↓hp_s_32, ↓hp_l_32, ↓hp_a_33, ↓hp_s_33, ↓hp_l_33, ↓hp_a_34, ↓hp_s_34, ↓hp_l_34, ↓hp_a_35, ↓hp_s_35, ↓hp_l_35, ↓hp_a_36, ↓hp_s_36, ↓hp_l_36, ↓hp_a_37, ↓hp_s_37, ↓hp_l_37, ↓hp_a_38, ↓hp_s_38, ↓hp_l_38, ↓hp_a_39, ↓hp_s_39, ↓hp_a_40, ↓hp_s_40, ↓hp_a_41, ↓hp_s_41, ↓hp_l_41, ↓hp_a_42, ↓hp_s_42, ↓hp_l_42, ↓hp_a_43, ↓hp_s_43, ↓hp_l_43, ↓hp_a_44, ↓hp_s_44, ↓hp_l_44, ↓hp_a_45, ↓hp_s_45, ↓hp_l_45, ↓hp_a_46, ↓hp_s_46, ↓hp_l_46, ↓hp_a_47, ↓hp_s_47, ↓hp_l_47, ↓hp_a_48, ↓hp_s_48, ↓hp_l_48, ↓hp_a_49, ↓hp_s_49, ↓hp_l_49, ↓hp_a_50, ↓hp_s_50, ↓hp_l_50, m0, m1, m2, m3, n0, n1, n2, n3, iO_wide, lO_sub, lO_mul, lO_neg, lO_add, kl_0, lc_lt, lc_le, lc_gt, lc_ge, lc_eq, y_lt, y_le, y_eq, eb_X12_areOne_7, eb_X12_areOne_11]
theorem m_whn (hk : k < 8) (hM : MS MA k l.1 l.2.1 l.2.2.1 l.2.2.2) (hS : SL l.1 l.2.1 l.2.2.1 l.2.2.2) {N : Nat} (hN : N ≤ 100000) : f_X12_wholeOf sc (n + 3) 26 (iO (k : Int)) (iO (N : Int)) (hp XI XA XP XC MI MA ML D) = some (some (.int (iO (WNn l N))), hp XI XA XP XC MI MA ML D) := e_mwhole hk hM hS (by omega) (by omega)
/-- the first multiple that is 1 or more -/
theorem idx1 {W : Nat → Int} (h2 : 1 ≤ W 2) : idxw W 1 = if W 1 = 0 then 2 else 1 := by
  show 1 + cntw W 1 0 = _
  unfold cntw
  show 1 + (if W 1 = 0 then (if W 2 = 0 then 2 else 1) else 0) = _
  by_cases g : W 1 = 0
  · rw [if_pos g, if_pos g, if_neg (by omega)]
  · rw [if_neg g, if_neg g]
theorem m_share67 (hk : k < 8) (hk' : k' < 8) (hM : MS MA k l.1 l.2.1 l.2.2.1 l.2.2.2) (hM' : MS MA k' m.1 m.2.1 m.2.2.1 m.2.2.2) (hS : SL l.1 l.2.1 l.2.2.1 l.2.2.2) (hS' : SL m.1 m.2.1 m.2.2.1 m.2.2.2) (hs : 0 < sgn l (-1) 2) (hs' : 0 < sgn m (-1) 2) : b_X12_share_6 sc (n + 3) 26 (iO (k : Int)) (iO (k' : Int)) (iO 1) (iO 1) (hp XI XA XP XC MI MA ML D) = b_X12_share_9 sc (n + 3) 26 (iO (k : Int)) (iO (k' : Int)) (iO (idxw (WNn l) 1 : Int)) (iO (idxw (WNn m) 1 : Int)) (iO 1) (hp XI XA XP XC MI MA ML D) := by
  obtain ⟨o0, o1, o2, o3⟩ := WNn_ok hS hs
  obtain ⟨p0, p1, p2, p3⟩ := WNn_ok hS' hs'
  have a1 := o0 1
  have a2 := o3 1
  have a3 : 1 ≤ WNn l 2 := by have t : WNn l 0 + 1 ≤ WNn l 2 := o2 0; have := o0 0; omega
  have a4 := o3 2
  have c1 := p0 1
  have c2 := p3 1
  have c3 : 1 ≤ WNn m 2 := by have t : WNn m 0 + 1 ≤ WNn m 2 := p2 0; have := p0 0; omega
  have c4 := p3 2
  have e1 := m_whn (sc := sc) (n := n) (XI := XI) (XA := XA) (XP := XP) (XC := XC) (MI := MI) (ML := ML) (D := D) hk hM hS (N := 1) (by omega)
  have e2 := m_whn (sc := sc) (n := n) (XI := XI) (XA := XA) (XP := XP) (XC := XC) (MI := MI) (ML := ML) (D := D) hk hM hS (N := 2) (by omega)
  have f1 := m_whn (sc := sc) (n := n) (XI := XI) (XA := XA) (XP := XP) (XC := XC) (MI := MI) (ML := ML) (D := D) hk' hM' hS' (N := 1) (by omega)
  have f2 := m_whn (sc := sc) (n := n) (XI := XI) (XA := XA) (XP := XP) (XC := XC) (MI := MI) (ML := ML) (D := D) hk' hM' hS' (N := 2) (by omega)
  have e1 : f_X12_wholeOf sc (n + 3) 26 (iO (k : Int)) (iO 1) (hp XI XA XP XC MI MA ML D) = _ := e1
  have e2 : f_X12_wholeOf sc (n + 3) 26 (iO (k : Int)) (iO (1 + 1)) (hp XI XA XP XC MI MA ML D) = _ := e2
  have f1 : f_X12_wholeOf sc (n + 3) 26 (iO (k' : Int)) (iO 1) (hp XI XA XP XC MI MA ML D) = _ := f1
  have f2 : f_X12_wholeOf sc (n + 3) 26 (iO (k' : Int)) (iO (1 + 1)) (hp XI XA XP XC MI MA ML D) = _ := f2
  rw [idx1 a3, idx1 c3]
  clear o0 o1 o2 o3 p0 p1 p2 p3 hM hM' hs hs'
  generalize WNn l 1 = P1 at *
  generalize WNn l 2 = P2 at *
  generalize WNn m 1 = Q1 at *
  generalize WNn m 2 = Q2 at *
  have st : b_X12_share_6 sc (n + 3) 26 (iO (k : Int)) (iO (k' : Int)) (iO 1) (iO 1) (hp XI XA XP XC MI MA ML D) = b_X12_share_7 sc (n + 3) 26 (iO (k : Int)) (iO (k' : Int)) (iO ((if P1 = 0 then 2 else 1 : Nat) : Int)) (iO 1) (hp XI XA XP XC MI MA ML D) := by
    by_cases g : P1 = 0
    · rw [if_pos g, eb_X12_share_6, hp_cc_26, if_pos rfl, e1, bI_s, if_neg (show ¬ 1 ≤ iO P1 from nle (a := 1) (b := P1) (by unfold i32; omega) (by unfold i32; omega) (by omega)), en_le, ki_1, iO_add, eb_X12_share_6, hp_cc_26, if_pos rfl, e2, bI_s, if_pos (show 1 ≤ iO P2 from ple (a := 1) (b := P2) (by unfold i32; omega) (by unfold i32; omega) (by omega))]
      rfl
    · rw [if_neg g, eb_X12_share_6, hp_cc_26, if_pos rfl, e1, bI_s, if_pos (show 1 ≤ iO P1 from ple (a := 1) (b := P1) (by unfold i32; omega) (by unfold i32; omega) (by omega))]
      rfl
  rw [st]
  generalize iO ((if P1 = 0 then 2 else 1 : Nat) : Int) = I1
  by_cases g : Q1 = 0
  · rw [if_pos g, eb_X12_share_7, hp_cc_26, if_pos rfl, f1, bI_s, if_neg (show ¬ 1 ≤ iO Q1 from nle (a := 1) (b := Q1) (by unfold i32; omega) (by unfold i32; omega) (by omega)), en_le, ki_1, iO_add, eb_X12_share_7, hp_cc_26, if_pos rfl, f2, bI_s, if_pos (show 1 ≤ iO Q2 from ple (a := 1) (b := Q2) (by unfold i32; omega) (by unfold i32; omega) (by omega))]
    rfl
  · rw [if_neg g, eb_X12_share_7, hp_cc_26, if_pos rfl, f1, bI_s, if_pos (show 1 ≤ iO Q1 from ple (a := 1) (b := Q1) (by unfold i32; omega) (by unfold i32; omega) (by omega))]
    rfl
theorem m_share9 (hk : k < 8) (hk' : k' < 8) (hM : MS MA k l.1 l.2.1 l.2.2.1 l.2.2.2) (hM' : MS MA k' m.1 m.2.1 m.2.2.1 m.2.2.2) (hS : SL l.1 l.2.1 l.2.2.1 l.2.2.2) (hS' : SL m.1 m.2.1 m.2.2.1 m.2.2.2) (hs : 0 < sgn l (-1) 2) (hs' : 0 < sgn m (-1) 2) : ∀ (j v : Nat), v + j = 5001 → 1 ≤ v → b_X12_share_9 sc (n + 3) 26 (iO (k : Int)) (iO (k' : Int)) (iO (idxw (WNn l) v : Int)) (iO (idxw (WNn m) v : Int)) (iO (v : Int)) (hp XI XA XP XC MI MA ML D) = some (some (.int (iO (shrw (WNn l) (WNn m) j v))), hp XI XA XP XC MI MA ML D) := by
  obtain ⟨o0, o1, o2, o3⟩ := WNn_ok hS hs
  obtain ⟨p0, p1, p2, p3⟩ := WNn_ok hS' hs'
  intro j
  induction j with
  | zero =>
    intro v hv h1
    rw [eb_X12_share_9, shrw]
    clear o0 o1 o2 o3 p0 p1 p2 p3 hM hM'
    simp (disch := (first | assumption | (unfold i32; omega) | (unfold i64; omega) | omega)) only [↓reduceIte, ki_0, ki_1, ki_2, ki_3, ki_4, ki_5, ki_6, ki_7, ki_8, ki_9, ki_10, ki_11, ki_12, ki_13, ki_14, ki_15, ki_20, ki_21, ki_30, ki_31, ki_40, ki_41, ki_50, ki_51, ki_60, ki_63, ki_64, ki_65, ki_100, ki_158, ki_160, ki_200, ki_212, ki_1000, ki_2000, ki_2001, ki_5000, ki_10000, ki_10001, ki_100000, ki_200000, ki_1000000, ki_2000000, ki_3000000, iO_neg, iO_add, iO_sub, iO_mul, kn_4, kn_8, kn_10, kn_20, kn_24, kn_40, kn_41, kn_50, kn_60, kn_158, kn_160, kn_200, kn_212, kn_2001, tn_lt, fn_lt, tn_le, fn_le, tn_eq, fn_eq, x_lt, x_le, x_eq, x_ix, x_nat, t_lt, f_lt, t_le, f_le, t_eq, f_eq, eq_self, and_self, true_and, and_true, false_and, and_false, if_true, if_false, Int.toNat_natCast, bI_s, bL_s, bA_s, bA_n, bV_s, mq_s, mq_n, en_le, bl_0, bl_1, u_eq, u_ne, w_eq, w_ne, v_eq, v_ne]
  | succ j ih =>
    intro v hv h1
    have i1 := idxw_le (W := WNn l) v
    have i2 := idxw_le (W := WNn m) v
    have g1 := idxw_ge o0 o1 o2 v
    have g2 := idxw_ge p0 p1 p2 v
    have ih' := ih (v + 1) (by omega) (by omega)
    rw [idxw, idxw] at ih'
    -- the first slope
    have st1 : ∀ J : Int32, b_X12_share_10 sc (n + 3) 26 (iO (k : Int)) (iO (k' : Int)) (iO (idxw (WNn l) v : Int)) J (iO (v : Int)) (iO 0) (hp XI XA XP XC MI MA ML D) = b_X12_share_11 sc (n + 3) 26 (iO (k : Int)) (iO (k' : Int)) (iO ((idxw (WNn l) v + cntw (WNn l) (idxw (WNn l) v) v : Nat) : Int)) J (iO (v : Int)) (iO (cntw (WNn l) (idxw (WNn l) v) v : Int)) (hp XI XA XP XC MI MA ML D) := by
      intro J
      generalize hI : idxw (WNn l) v = I at *
      have e0 := m_whn (sc := sc) (n := n) (XI := XI) (XA := XA) (XP := XP) (XC := XC) (MI := MI) (ML := ML) (D := D) hk hM hS (N := I) (by omega)
      have e1 := m_whn (sc := sc) (n := n) (XI := XI) (XA := XA) (XP := XP) (XC := XC) (MI := MI) (ML := ML) (D := D) hk hM hS (N := I + 1) (by omega)
      have e2 := m_whn (sc := sc) (n := n) (XI := XI) (XA := XA) (XP := XP) (XC := XC) (MI := MI) (ML := ML) (D := D) hk hM hS (N := I + 2) (by omega)
      have b0 := o0 I
      have b1 := o1 I
      have b2 := o2 I
      have b3 := o3 I
      have b4 := o3 (I + 1)
      have b5 := o3 (I + 2)
      have b6 := o0 (I + 1)
      have b7 := o0 (I + 2)
      rw [show ((I + 1 : Nat) : Int) = (I : Int) + 1 by omega] at e1 b4
      rw [show ((I + 2 : Nat) : Int) = (I : Int) + 1 + 1 by omega] at e2 b5
      unfold cntw
      generalize WNn l I = P0 at *
      generalize WNn l (I + 1) = P1 at *
      generalize WNn l (I + 2) = P2 at *
      have ne : ∀ x : Int, 0 ≤ x → x ≤ 500000 → (iO x = iO (v : Int) ↔ x = (v : Int)) := fun x hx hx2 => iO_eq (by unfold i32; omega) (by unfold i32; omega)
      by_cases c0 : P0 = (v : Int)
      · rw [if_pos c0, eb_X12_share_10, hp_cc_26, if_pos rfl, e0, bI_s, if_pos ((ne P0 (by omega) (by omega)).mpr c0), en_le, en_le, ki_1, iO_add, iO_add, eb_X12_share_10, hp_cc_26, if_pos rfl, e1, bI_s]
        by_cases c1 : P1 = (v : Int)
        · rw [if_pos c1, if_pos ((ne P1 (by omega) (by omega)).mpr c1), en_le, en_le, ki_1, iO_add, iO_add, eb_X12_share_10, hp_cc_26, if_pos rfl, e2, bI_s, if_neg (fun h => by have := (ne P2 (by omega) (by omega)).mp h; omega)]
          rfl
        · rw [if_neg c1, if_neg (fun h => c1 ((ne P1 (by omega) (by omega)).mp h))]
          rfl
      · rw [if_neg c0, eb_X12_share_10, hp_cc_26, if_pos rfl, e0, bI_s, if_neg (fun h => c0 ((ne P0 (by omega) (by omega)).mp h))]
        rfl
    -- the second one
    have st2 : ∀ (I1 : Int32) (t : Nat), t ≤ 2 → b_X12_share_11 sc (n + 3) 26 (iO (k : Int)) (iO (k' : Int)) I1 (iO (idxw (WNn m) v : Int)) (iO (v : Int)) (iO (t : Int)) (hp XI XA XP XC MI MA ML D) = if t + cntw (WNn m) (idxw (WNn m) v) v = 1 then b_X12_share_9 sc (n + 3) 26 (iO (k : Int)) (iO (k' : Int)) I1 (iO ((idxw (WNn m) v + cntw (WNn m) (idxw (WNn m) v) v : Nat) : Int)) (iO ((v + 1 : Nat) : Int)) (hp XI XA XP XC MI MA ML D) else some (some (.int (iO (v : Int))), hp XI XA XP XC MI MA ML D) := by
      intro I1 t ht
      generalize hI : idxw (WNn m) v = I at *
      have e0 := m_whn (sc := sc) (n := n) (XI := XI) (XA := XA) (XP := XP) (XC := XC) (MI := MI) (ML := ML) (D := D) hk' hM' hS' (N := I) (by omega)
      have e1 := m_whn (sc := sc) (n := n) (XI := XI) (XA := XA) (XP := XP) (XC := XC) (MI := MI) (ML := ML) (D := D) hk' hM' hS' (N := I + 1) (by omega)
      have e2 := m_whn (sc := sc) (n := n) (XI := XI) (XA := XA) (XP := XP) (XC := XC) (MI := MI) (ML := ML) (D := D) hk' hM' hS' (N := I + 2) (by omega)
      have b0 := p0 I
      have b1 := p1 I
      have b2 := p2 I
      have b3 := p3 I
      have b4 := p3 (I + 1)
      have b5 := p3 (I + 2)
      have b6 := p0 (I + 1)
      have b7 := p0 (I + 2)
      rw [show ((I + 1 : Nat) : Int) = (I : Int) + 1 by omega] at e1 b4
      rw [show ((I + 2 : Nat) : Int) = (I : Int) + 1 + 1 by omega] at e2 b5
      unfold cntw
      generalize WNn m I = P0 at *
      generalize WNn m (I + 1) = P1 at *
      generalize WNn m (I + 2) = P2 at *
      have ne : ∀ x : Int, 0 ≤ x → x ≤ 500000 → (iO x = iO (v : Int) ↔ x = (v : Int)) := fun x hx hx2 => iO_eq (by unfold i32; omega) (by unfold i32; omega)
      have n1 : ∀ x : Int, 0 ≤ x → x ≤ 10 → (iO x = 1 ↔ x = 1) := fun x hx hx2 => iO_eq (a := x) (b := 1) (by unfold i32; omega) (by unfold i32; omega)
      have fin : ∀ (x : Nat) (J : Int32), x ≤ 10 → (if iO (x : Int) = 1 then en_le (iO (v : Int) + 1) (fun x6 => b_X12_share_9 sc (n + 3) 26 (iO (k : Int)) (iO (k' : Int)) I1 J x6 (hp XI XA XP XC MI MA ML D)) else some (some (.int (iO (v : Int))), hp XI XA XP XC MI MA ML D)) = if x = 1 then b_X12_share_9 sc (n + 3) 26 (iO (k : Int)) (iO (k' : Int)) I1 J (iO ((v + 1 : Nat) : Int)) (hp XI XA XP XC MI MA ML D) else some (some (.int (iO (v : Int))), hp XI XA XP XC MI MA ML D) := by
        intro x J hx
        by_cases c : x = 1
        · rw [if_pos c, if_pos ((n1 (x : Int) (by omega) (by omega)).mpr (by omega)), en_le, ki_1, iO_add]
          rfl
        · rw [if_neg c, if_neg (fun h => c (by have := (n1 (x : Int) (by omega) (by omega)).mp h; omega))]
      by_cases c0 : P0 = (v : Int)
      · rw [if_pos c0, eb_X12_share_11, hp_cc_26, if_pos rfl, e0, bI_s, if_pos ((ne P0 (by omega) (by omega)).mpr c0), en_le, en_le, ki_1, iO_add, iO_add, eb_X12_share_11, hp_cc_26, if_pos rfl, e1, bI_s]
        by_cases c1 : P1 = (v : Int)
        · rw [if_pos c1, if_pos ((ne P1 (by omega) (by omega)).mpr c1), en_le, en_le, ki_1, iO_add, iO_add, eb_X12_share_11, hp_cc_26, if_pos rfl, e2, bI_s, if_neg (fun h => by have := (ne P2 (by omega) (by omega)).mp h; omega)]
          exact fin (t + 2) _ (by omega)
        · rw [if_neg c1, if_neg (fun h => c1 ((ne P1 (by omega) (by omega)).mp h))]
          exact fin (t + 1) _ (by omega)
      · rw [if_neg c0, eb_X12_share_11, hp_cc_26, if_pos rfl, e0, bI_s, if_neg (fun h => c0 ((ne P0 (by omega) (by omega)).mp h))]
        exact fin t _ (by omega)
    have c1 : cntw (WNn l) (idxw (WNn l) v) v ≤ 2 := by unfold cntw; split <;> (try split) <;> omega
    rw [eb_X12_share_9, if_neg (show ¬ 5000 < iO (v : Int) from nlt (a := 5000) (b := (v : Int)) (by unfold i32; omega) (by unfold i32; omega) (by omega))]
    refine Eq.trans (st1 _) ?_
    rw [st2 _ _ c1, shrw]
    by_cases c : cntw (WNn l) (idxw (WNn l) v) v + cntw (WNn m) (idxw (WNn m) v) v = 1
    · rw [if_pos c, if_pos c]
      exact ih'
    · rw [if_neg c, if_neg c]
end SHM
section SHN
variable {sc : en_S} {n : Nat} {S : ST5}
theorem mc_share (hS : OK5 S) {r s : Int} (hr : i32 r) (hs : i32 s) : MC S S (p_share S r s) (fun z => f_X12_share sc (n + 40) 26 (iO r) (iO s) z) := by
  apply mc_ask
  intro XI XA XP XC MI MA ML D hV
  have h8 := hS.1
  show f_X12_share sc (n + 40) 26 (iO r) (iO s) _ = _
  rw [e_X12_share]
  unfold p_share
  cases hq : slq S r with
  | none =>
    have := slq_none hq
    rw [hp_cc_26, if_pos rfl, e_misSlope hV hS hr, if_neg (by omega)]
    rfl
  | some l =>
    obtain ⟨k, rfl, hk, hq1'⟩ := slq_some hq
    have hM := hV.2.2.2.2.1 k l hq1'
    have hSl := hS.2.2.1 l (List.mem_of_getElem? hq1')
    rw [hp_cc_26, if_pos rfl, e_misSlope hV hS hr, if_pos (by omega), bI_s, if_neg (show ¬ iO 1 = 0 by decide), hp_cc_26, if_pos rfl, e_misSlope hV hS hs]
    cases hq2 : slq S s with
    | none =>
      have := slq_none hq2
      rw [if_neg (by omega)]
      rfl
    | some m =>
      obtain ⟨k', rfl, hk', hq2'⟩ := slq_some hq2
      have hM' := hV.2.2.2.2.1 k' m hq2'
      have hSm := hS.2.2.1 m (List.mem_of_getElem? hq2')
      obtain ⟨w, w1, w2, w3⟩ := m_areOne (sc := sc) (n := n + 38) (XI := XI) (XA := XA) (XP := XP) (XC := XC) (MI := MI) (ML := ML) (D := D) (k := k) (k' := k') (by omega) (by omega) hM hM' hSl hSm
      have sd : ∀ (q : Nat) (u : SL4), q < 8 → MS MA q u.1 u.2.1 u.2.2.1 u.2.2.2 → SL u.1 u.2.1 u.2.2.1 u.2.2.2 → f_X12_side sc (n + 39) 26 (iO (q : Int)) 1 1 2 (hp XI XA XP XC MI MA ML D) = some (some (.int (iO (sgn u (-1) 2))), hp XI XA XP XC MI MA ML D) := by
        intro q u hq8 hMu hSu
        obtain ⟨a1, a2, b1, b2, c1, c2, d1, d2, -⟩ := id hSu
        have s1 := sq_bd (x := 2 * u.1 * 1 - 1 * u.2.2.1) (K := 3000) (by omega) (by omega)
        have s2 := sq_bd (x := 2 * u.2.1 * 1) (K := 40) (by omega) (by omega)
        have s3 := mul_bd (x := 2 * u.2.1 * 1 * (2 * u.2.1 * 1)) (y := u.2.2.2) (a := 1600) (b := 50) (by omega) (by omega) (by omega) d2
        have h := e_side (sc := sc) (n := n + 37) (XI := XI) (XA := XA) (XP := XP) (XC := XC) (MI := MI) (ML := ML) (D0 := D) hq8 hMu hSu (N := 1) (m := 1) (q := 2) (by unfold i64; omega) (by unfold i64; omega) (by unfold i64; omega) (by unfold i64; omega)
        have e : sg (2 * u.1 * 1 - 1 * u.2.2.1) (2 * u.2.1 * 1) u.2.2.2 = sgn u (-1) 2 := by
          unfold sgn
          congr 1 <;> omega
        rw [e] at h
        exact h
      have s1 := sd k l (by omega) hM hSl
      have s2 := sd k' m (by omega) hM' hSm
      have r1 : sgn l (-1) 2 = -1 ∨ sgn l (-1) 2 = 0 ∨ sgn l (-1) 2 = 1 := sg_range _ _ _
      have r2 : sgn m (-1) 2 = -1 ∨ sgn m (-1) 2 = 0 ∨ sgn m (-1) 2 = 1 := sg_range _ _ _
      rw [if_pos (by omega), bI_s, if_neg (show ¬ iO 1 = 0 by decide), hp_cc_26, if_pos rfl, w3, bI_s]
      dsimp only
      rcases w2 with e | e
      · rw [if_neg (show ¬ oneP l m from fun h => by have := w1.mpr h; omega), e, if_pos (show iO 0 = 0 from rfl), hp_cc_26, if_pos rfl, s1, bI_s]
        by_cases g1 : sgn l (-1) 2 ≤ 0
        · rw [if_pos (show iO (sgn l (-1) 2) ≤ 0 from ple (a := sgn l (-1) 2) (b := 0) (by unfold i32; omega) (by unfold i32; omega) g1), if_pos (Or.inl g1)]
          rfl
        · rw [if_neg (show ¬ iO (sgn l (-1) 2) ≤ 0 from nle (a := sgn l (-1) 2) (b := 0) (by unfold i32; omega) (by unfold i32; omega) (by omega)), hp_cc_26, if_pos rfl, s2, bI_s]
          by_cases g2 : sgn m (-1) 2 ≤ 0
          · rw [if_neg (show ¬ 0 < iO (sgn m (-1) 2) from nlt (a := 0) (b := sgn m (-1) 2) (by unfold i32; omega) (by unfold i32; omega) (by omega)), if_pos (Or.inr g2)]
            rfl
          · rw [if_pos (show 0 < iO (sgn m (-1) 2) from plt (a := 0) (b := sgn m (-1) 2) (by unfold i32; omega) (by unfold i32; omega) (by omega)), if_neg (by omega)]
            have t1 := m_share67 (sc := sc) (n := n + 36) (XI := XI) (XA := XA) (XP := XP) (XC := XC) (MI := MI) (ML := ML) (D := D) (k := k) (k' := k') (by omega) (by omega) hM hM' hSl hSm (by omega) (by omega)
            have t2 := m_share9 (sc := sc) (n := n + 36) (XI := XI) (XA := XA) (XP := XP) (XC := XC) (MI := MI) (ML := ML) (D := D) (k := k) (k' := k') (by omega) (by omega) hM hM' hSl hSm (by omega) (by omega) 5000 1 (by omega) (by omega)
            exact t1.trans t2
      · rw [if_pos (w1.mp e), e, if_neg (show ¬ iO 1 = 0 by decide)]
        rfl
end SHN
-- FILE N1
/-! NEARERS: the theory, over any order of pairs; (x, y) stands for x s - y -/
section BAP
variable {P : Int → Int → Prop}
/-- an order of pairs: P says that a pair is at least 0 -/
def ORD (P : Int → Int → Prop) : Prop := (∀ x y u v, P x y → P u v → P (x + u) (y + v)) ∧ (∀ x y, P x y ∨ P (-x) (-y)) ∧ (∀ y, P 0 y ↔ y ≤ 0)
theorem ORD.zero (h : ORD P) : P 0 0 := (h.2.2 0).mpr (Int.le_refl 0)
theorem ORD.mulN (h : ORD P) {x y : Int} (hp : P x y) : ∀ n : Nat, P ((n : Int) * x) ((n : Int) * y)
  | 0 => by
    rw [show ((0 : Nat) : Int) * x = 0 by simp, show ((0 : Nat) : Int) * y = 0 by simp]
    exact h.zero
  | n + 1 => by
    have := h.1 _ _ _ _ (ORD.mulN h hp n) hp
    rw [show ((n + 1 : Nat) : Int) * x = (n : Int) * x + x by rw [show ((n + 1 : Nat) : Int) = (n : Int) + 1 by omega, Int.add_mul, Int.one_mul], show ((n + 1 : Nat) : Int) * y = (n : Int) * y + y by rw [show ((n + 1 : Nat) : Int) = (n : Int) + 1 by omega, Int.add_mul, Int.one_mul]]
    exact this
theorem ORD.mul (h : ORD P) {x y : Int} (hp : P x y) {a : Int} (ha : 0 ≤ a) : P (a * x) (a * y) := by
  obtain ⟨n, rfl⟩ : ∃ n : Nat, a = n := ⟨a.toNat, by omega⟩
  exact h.mulN hp n
/-- two neighbours of the row of fractions: their numbers below the line, their signs, their determinant -/
def CST (P : Int → Int → Prop) (x1 y1 x2 y2 qp qc : Int) : Prop := P x1 y1 ∧ P x2 y2 ∧ (x1 * y2 - x2 * y1 = 1 ∨ x1 * y2 - x2 * y1 = -1) ∧ ((x1 = qp ∧ x2 = -qc) ∨ (x1 = -qp ∧ x2 = qc)) ∧ 0 ≤ qp ∧ 1 ≤ qc
/-- the quotients that are left -/
def RL (P : Int → Int → Prop) : Nat → List Int → Int → Int → Int → Int → Prop
  | n, [], _, _, x2, y2 => n = 0 ∨ P (-x2) (-y2)
  | 0, _ :: _, _, _, _, _ => False
  | n + 1, a :: r, x1, y1, x2, y2 => ¬ P (-x2) (-y2) ∧ P (x1 - a * x2) (y1 - a * y2) ∧ ¬ P (x1 - (a + 1) * x2) (y1 - (a + 1) * y2) ∧ RL P n r x2 y2 (x1 - a * x2) (y1 - a * y2)
theorem RL_nil {P : Int → Int → Prop} {n : Nat} {x1 y1 x2 y2 : Int} : RL P n [] x1 y1 x2 y2 ↔ (n = 0 ∨ P (-x2) (-y2)) := by
  cases n <;> exact Iff.rfl
theorem CST.next {x1 y1 x2 y2 qp qc a : Int} (h : CST P x1 y1 x2 y2 qp qc) (ha : 1 ≤ a) (hp : P (x1 - a * x2) (y1 - a * y2)) : CST P x2 y2 (x1 - a * x2) (y1 - a * y2) qc (a * qc + qp) := by
  obtain ⟨h1, h2, h3, h4, h5, h6⟩ := h
  have hq : 0 < a * qc := Int.mul_pos (by omega) (by omega)
  refine ⟨h2, hp, ?_, ?_, by omega, by omega⟩
  · have e : x2 * (y1 - a * y2) - (x1 - a * x2) * y2 = -(x1 * y2 - x2 * y1) := by grind
    rw [e]
    omega
  · rcases h4 with ⟨e1, e2⟩ | ⟨e1, e2⟩
    · right
      refine ⟨e2, ?_⟩
      rw [e1, e2, Int.mul_neg]
      omega
    · left
      refine ⟨e2, ?_⟩
      rw [e1, e2]
      omega
/-- no number before the next one is nearer -/
theorem lagrange (hO : ORD P) {x2 y2 x3 y3 qc qn : Int} (h : CST P x2 y2 x3 y3 qc qn) (hpos : ¬ P (-x2) (-y2)) {x y n : Int} (hx : x = n ∨ x = -n) (hn : 0 < n) (hn2 : n < qn) (hf : P x y) : P (x - x2) (y - y2) := by
  obtain ⟨h2, h3, hdet, hsg, hq1, hq2⟩ := h
  obtain ⟨al, be, e1, e2⟩ : ∃ al be : Int, x = al * x2 + be * x3 ∧ y = al * y2 + be * y3 := by
    rcases hdet with g | g
    · exact ⟨x * y3 - y * x3, x2 * y - y2 * x, by grind, by grind⟩
    · exact ⟨-(x * y3 - y * x3), -(x2 * y - y2 * x), by grind, by grind⟩
  -- the numbers below the line
  have hm : al * qc - be * qn = n ∨ al * qc - be * qn = -n := by
    rcases hsg with ⟨g1, g2⟩ | ⟨g1, g2⟩
    · rw [g1, g2, Int.mul_neg] at e1
      omega
    · rw [g1, g2, Int.mul_neg] at e1
      omega
  by_cases b0 : be = 0
  · subst b0
    rw [Int.zero_mul, Int.add_zero] at e1 e2
    by_cases a1 : 1 ≤ al
    · have := hO.mul h2 (a := al - 1) (by omega)
      rw [Int.sub_mul, Int.sub_mul, Int.one_mul, Int.one_mul, ← e1, ← e2] at this
      exact this
    · exfalso
      have a0 : al ≠ 0 := fun q => by rw [q, Int.zero_mul, Int.zero_mul] at hm; omega
      have k1 := hO.mul h2 (a := -al - 1) (by omega)
      have k2 := hO.1 _ _ _ _ hf k1
      apply hpos
      have q1 : x + (-al - 1) * x2 = -x2 := by rw [e1]; grind
      have q2 : y + (-al - 1) * y2 = -y2 := by rw [e2]; grind
      rwa [q1, q2] at k2
  · rcases Int.lt_or_gt_of_ne b0 with b1 | b1
    · -- be below 0
      have kb : be * qn ≤ -qn := by
        have := Int.mul_le_mul_of_nonneg_right (show be ≤ -1 by omega) (show 0 ≤ qn by omega)
        rw [Int.neg_mul, Int.one_mul] at this
        exact this
      have a1 : al ≤ -1 := by
        rcases Int.lt_or_le al 0 with g | g
        · omega
        · have := Int.mul_nonneg g (show 0 ≤ qc by omega)
          omega
      exfalso
      have k1 := hO.mul h2 (a := -al - 1) (by omega)
      have k2 := hO.mul h3 (a := -be) (by omega)
      have k3 := hO.1 _ _ _ _ hf (hO.1 _ _ _ _ k1 k2)
      apply hpos
      have q1 : x + ((-al - 1) * x2 + -be * x3) = -x2 := by rw [e1]; grind
      have q2 : y + ((-al - 1) * y2 + -be * y3) = -y2 := by rw [e2]; grind
      rwa [q1, q2] at k3
    · have kb : qn ≤ be * qn := by
        have := Int.mul_le_mul_of_nonneg_right (show 1 ≤ be by omega) (show 0 ≤ qn by omega)
        rw [Int.one_mul] at this
        exact this
      have a1 : 1 ≤ al := by
        rcases Int.lt_or_le 0 al with g | g
        · omega
        · have := Int.mul_le_mul_of_nonneg_right g (show 0 ≤ qc by omega)
          rw [Int.zero_mul] at this
          omega
      have k1 := hO.mul h2 (a := al - 1) (by omega)
      have k2 := hO.mul h3 (a := be) (by omega)
      have k3 := hO.1 _ _ _ _ k1 k2
      have q1 : (al - 1) * x2 + be * x3 = x - x2 := by rw [e1]; grind
      have q2 : (al - 1) * y2 + be * y3 = y - y2 := by rw [e2]; grind
      rwa [q1, q2] at k3
/-- how near n times s is to a whole number, as a pair -/
def DIST (P : Int → Int → Prop) (n u v : Int) : Prop := P u v ∧ (∃ x y, (x = n ∨ x = -n) ∧ P x y ∧ P (u - x) (v - y) ∧ P (x - u) (y - v)) ∧ ∀ x y, (x = n ∨ x = -n) → P x y → P (x - u) (y - v)
theorem near_not (hO : ORD P) {x1 y1 x2 y2 qp qc a n u v u0 v0 : Int} (h : CST P x1 y1 x2 y2 qp qc) (ha : 1 ≤ a) (hpos : ¬ P (-x2) (-y2)) (hp : P (x1 - a * x2) (y1 - a * y2)) (hn : 0 < n) (hn2 : n < a * qc + qp) (hd : DIST P n u v) (h0 : P (x2 - u0) (y2 - v0)) : P (u - u0) (v - v0) := by
  obtain ⟨-, ⟨x, y, hx, hf, k1, -⟩, -⟩ := hd
  have := lagrange hO (h.next ha hp) hpos hx hn hn2 hf
  have k2 := hO.1 _ _ _ _ (hO.1 _ _ _ _ k1 this) h0
  have q1 : u - x + (x - x2) + (x2 - u0) = u - u0 := by omega
  have q2 : v - y + (y - y2) + (y2 - v0) = v - v0 := by omega
  rwa [q1, q2] at k2
theorem near_yes (hO : ORD P) {x1 y1 x2 y2 qp qc a n u v u0 v0 : Int} (h : CST P x1 y1 x2 y2 qp qc) (ha : 1 ≤ a) (hpos : ¬ P (-x2) (-y2)) (hp : P (x1 - a * x2) (y1 - a * y2)) (hno : ¬ P (x1 - (a + 1) * x2) (y1 - (a + 1) * y2)) (hq : qc < a * qc + qp) (hn : n = a * qc + qp) (hd : DIST P n u v) (hd0 : DIST P qc u0 v0) : ¬ P (u - u0) (v - v0) ∧ P (x1 - a * x2 - u) (y1 - a * y2 - v) := by
  have hc := h.next ha hp
  obtain ⟨-, -, -, hsg, -, -⟩ := id hc
  obtain ⟨-, -, -, hsg0, -, hqc⟩ := id h
  have k0 : P (x1 - a * x2 - u) (y1 - a * y2 - v) := hd.2.2 _ _ (by rw [hn]; rcases hsg with ⟨-, g⟩ | ⟨-, g⟩ <;> omega) hp
  refine ⟨fun hh => hno ?_, k0⟩
  obtain ⟨-, ⟨x, y, hx, hf, j1, -⟩, -⟩ := hd0
  have k1 := lagrange hO hc hpos hx (by omega) hq hf
  -- E_cur <= d0 <= d <= E_next
  have k2 := hO.1 _ _ _ _ (hO.1 _ _ _ _ k0 hh) (hO.1 _ _ _ _ j1 k1)
  have q1 : x1 - a * x2 - u + (u - u0) + (u0 - x + (x - x2)) = x1 - (a + 1) * x2 := by grind
  have q2 : y1 - a * y2 - v + (v - v0) + (v0 - y + (y - y2)) = y1 - (a + 1) * y2 := by grind
  rwa [q1, q2] at k2
end BAP
/-- the lines up to 2000 -/
def lls2 : List Int → Int → Int → List Int
  | [], _, _ => []
  | q :: r, b, l => if 2000 < q * l + b then [] else if q * l + b ≤ 1 then lls2 r l (q * l + b) else (q * l + b) :: lls2 r l (q * l + b)
theorem lls_gt : ∀ (r : List Int) (b l : Int) (i : Nat) (x : Int), (∀ q ∈ r, 1 ≤ q) → 0 ≤ b → 1 ≤ l → (lls r b l)[i]? = some x → l ≤ x
  | [], _, _, i, x, _, _, _, h => by simp [lls] at h
  | q :: r, b, l, i, x, hq, hb, hl, h => by
    have h1 := hq q (List.mem_cons_self ..)
    have hm : l ≤ q * l := by
      have := Int.mul_le_mul_of_nonneg_right h1 (show 0 ≤ l by omega)
      rwa [Int.one_mul] at this
    rw [lls] at h
    split at h
    · simp at h
    · split at h
      · have := lls_gt r l (q * l + b) i x (fun q hq' => hq q (List.mem_cons_of_mem _ hq')) (by omega) (by omega) h
        omega
      · cases i with
        | zero => simp at h; omega
        | succ i =>
          rw [List.getElem?_cons_succ] at h
          have := lls_gt r l (q * l + b) i x (fun q hq' => hq q (List.mem_cons_of_mem _ hq')) (by omega) (by omega) h
          omega
theorem lls2_iff : ∀ (r : List Int) (b l : Int) (i : Nat) (x : Int), (∀ q ∈ r, 1 ≤ q) → 0 ≤ b → 1 ≤ l → ((lls2 r b l)[i]? = some x ↔ (lls r b l)[i]? = some x ∧ x ≤ 2000)
  | [], _, _, i, x, _, _, _ => by simp [lls, lls2]
  | q :: r, b, l, i, x, hq, hb, hl => by
    have h1 := hq q (List.mem_cons_self ..)
    have hm : l ≤ q * l := by
      have := Int.mul_le_mul_of_nonneg_right h1 (show 0 ≤ l by omega)
      rwa [Int.one_mul] at this
    have ih := fun i x => lls2_iff r l (q * l + b) i x (fun q hq' => hq q (List.mem_cons_of_mem _ hq')) (by omega) (by omega)
    rw [lls, lls2]
    by_cases c1 : 10000 < q * l + b
    · rw [if_pos c1, if_pos (by omega)]
      simp
    rw [if_neg c1]
    by_cases c2 : 2000 < q * l + b
    · rw [if_pos c2, if_neg (by omega)]
      constructor
      · intro h; simp at h
      · intro ⟨h, hx⟩
        exfalso
        cases i with
        | zero => simp at h; omega
        | succ i =>
          rw [List.getElem?_cons_succ] at h
          have := lls_gt r l (q * l + b) i x (fun q hq' => hq q (List.mem_cons_of_mem _ hq')) (by omega) (by omega) h
          omega
    · rw [if_neg c2]
      by_cases c3 : q * l + b ≤ 1
      · rw [if_pos c3, if_pos c3]
        exact ih i x
      · rw [if_neg c3, if_neg c3]
        cases i with
        | zero =>
          simp
          omega
        | succ i =>
          rw [List.getElem?_cons_succ, List.getElem?_cons_succ]
          exact ih i x
-- FILE N2
/-! NEARERS: products of x + y times the root; the quotients as a row of fractions -/
theorem nn_tot {x y d : Int} (hd : 0 < d) : nn x y d ∨ nn (-x) (-y) d := by
  have h1 := sg_range x y d
  rcases Int.lt_or_le (sg x y d) 0 with g | g
  · right
    rw [← sg_nn hd, sg_neg]
    omega
  · exact Or.inl ((sg_nn hd).mp g)
theorem nn_anti {x y d : Int} (hd : 0 < d) (hn : y ≠ 0 → nsq d) (h1 : nn x y d) (h2 : nn (-x) (-y) d) : x = 0 ∧ y = 0 := by
  rw [← sg_nn hd] at h1 h2
  rw [sg_neg] at h2
  have h3 : sg x y d = 0 := by omega
  by_cases hy : y = 0
  · subst hy
    unfold sg at h3
    rw [if_pos rfl] at h3
    refine ⟨?_, rfl⟩
    split at h3
    · omega
    · split at h3 <;> omega
  · exfalso
    have hne := nc_ne (e := x) (b := y) (d := d) hy (hn hy)
    unfold sg at h3
    rw [if_neg hy] at h3
    split at h3
    · split at h3
      · omega
      · split at h3
        · omega
        · split at h3
          · rename_i q
            apply hne
            omega
          · omega
    · split at h3
      · omega
      · split at h3
        · omega
        · split at h3
          · rename_i q
            apply hne
            omega
          · omega
/-- times the root -/
theorem nn_root {x y d : Int} (hd : 0 < d) (h : nn x y d) : nn (y * d) x d := by
  have e1 : y * d * (y * d) = d * (y * y * d) := by grind
  have e2 : x * x * d = d * (x * x) := Int.mul_comm _ _
  unfold nn
  rw [e1, e2]
  rcases h with ⟨hy, hx⟩ | ⟨hy, hx, hxy⟩
  · have hyd : 0 ≤ y * d := Int.mul_nonneg hy (by omega)
    rcases Int.lt_or_le x 0 with g | g
    · have hx : x * x ≤ y * y * d := hx.resolve_left (by omega)
      exact Or.inr ⟨g, hyd, Int.mul_le_mul_of_nonneg_left hx (by omega)⟩
    · exact Or.inl ⟨g, Or.inl hyd⟩
  · exact Or.inl ⟨hx, Or.inr (Int.mul_le_mul_of_nonneg_left hxy (by omega))⟩
/-- times what has no part below 0 -/
theorem nn_pp {x y d f g : Int} (hd : 0 < d) (hf : 0 ≤ f) (hg : 0 ≤ g) (h : nn x y d) : nn (f * x + g * (y * d)) (f * y + g * x) d := by
  have h1 := nn_mul hf h
  have h2 := nn_mul hg (nn_root hd h)
  have := nn_add (by omega) h1 h2
  rw [Int.mul_comm x f, Int.mul_comm y f, Int.mul_comm (y * d) g, Int.mul_comm x g] at this
  exact this
/-- times a number above 0, told by itself and the other that makes a whole number of it -/
theorem nn_pm {x y d f g f' g' N : Int} (hd : 0 < d) (hn : nsq d) (hf' : 0 ≤ f') (hg' : 0 ≤ g') (hN : 0 < N) (e1 : f * f' + g * g' * d = N) (e2 : f * g' + g * f' = 0) (h : nn x y d) : nn (f * x + g * (y * d)) (f * y + g * x) d := by
  rcases nn_tot (x := f * x + g * (y * d)) (y := f * y + g * x) hd with k | k
  · exact k
  · have k2 := nn_pp hd hf' hg' k
    have q1 : f' * -(f * x + g * (y * d)) + g' * (-(f * y + g * x) * d) = N * -x := by
      rw [← e1]
      have : f' * -(f * x + g * (y * d)) + g' * (-(f * y + g * x) * d) = (f * f' + g * g' * d) * -x + -(f * g' + g * f') * (y * d) := by grind
      rw [this, e2]
      grind
    have q2 : f' * -(f * y + g * x) + g' * -(f * x + g * (y * d)) = N * -y := by
      rw [← e1]
      have : f' * -(f * y + g * x) + g' * -(f * x + g * (y * d)) = (f * f' + g * g' * d) * -y + -(f * g' + g * f') * x := by grind
      rw [this, e2]
      grind
    rw [q1, q2, nn_scale hN] at k2
    obtain ⟨z1, z2⟩ := nn_anti hd (fun _ => hn) h k2
    subst z1 z2
    rw [show f * 0 + g * (0 * d) = 0 by grind, show f * 0 + g * 0 = 0 by grind]
    exact Or.inl ⟨Int.le_refl _, Or.inl (Int.le_refl _)⟩
/-- both ways -/
theorem nn_times {x y d f g N : Int} (hd : 0 < d) (hn : nsq d) (hN : 0 < N) (h : (f * f - g * g * d = N ∧ 0 < f) ∨ (g * g * d - f * f = N ∧ 0 < g)) : nn (f * x + g * (y * d)) (f * y + g * x) d ↔ nn x y d := by
  -- the product with (f, g) and with its other half
  have fwd : ∀ (f g : Int), ((f * f - g * g * d = N ∧ 0 < f) ∨ (g * g * d - f * f = N ∧ 0 < g)) → ∀ x y : Int, nn x y d → nn (f * x + g * (y * d)) (f * y + g * x) d := by
    intro f g h x y hxy
    rcases h with ⟨h1, h2⟩ | ⟨h1, h2⟩
    · rcases Int.lt_or_le g 0 with s | s
      · exact nn_pm (f' := f) (g' := -g) hd hn (by omega) (by omega) hN (by grind) (by grind) hxy
      · exact nn_pp hd (by omega) s hxy
    · rcases Int.lt_or_le f 0 with s | s
      · exact nn_pm (f' := -f) (g' := g) hd hn (by omega) (by omega) hN (by grind) (by grind) hxy
      · exact nn_pp hd s (by omega) hxy
  constructor
  · intro k
    rcases h with ⟨h1, h2⟩ | ⟨h1, h2⟩
    · have := fwd f (-g) (Or.inl ⟨by grind, h2⟩) _ _ k
      have q1 : f * (f * x + g * (y * d)) + -g * ((f * y + g * x) * d) = N * x := by rw [← h1]; grind
      have q2 : f * (f * y + g * x) + -g * (f * x + g * (y * d)) = N * y := by rw [← h1]; grind
      rw [q1, q2, nn_scale hN] at this
      exact this
    · have := fwd (-f) g (Or.inr ⟨by grind, h2⟩) _ _ k
      have q1 : -f * (f * x + g * (y * d)) + g * ((f * y + g * x) * d) = N * x := by rw [← h1]; grind
      have q2 : -f * (f * y + g * x) + g * (f * x + g * (y * d)) = N * y := by rw [← h1]; grind
      rw [q1, q2, nn_scale hN] at this
      exact this
  · exact fwd f g h x y
/-- the quotients tell the row of fractions -/
theorem ql_RL {P : Int → Int → Prop} {d : Int} (hd : 0 < d) : ∀ (n : Nat) (a b c x1 y1 x2 y2 : Int), 0 < c → (b ≠ 0 → nsq d) → (∀ x y : Int, nn (x * a - y * c) (x * b) d ↔ P (x * x1 - y * x2) (x * y1 - y * y2)) → ¬ P (-x2) (-y2) → RL P n (ql n a b c d) x1 y1 x2 y2
  | 0, _, _, _, _, _, _, _, _, _, _, _ => Or.inl rfl
  | n + 1, a, b, c, x1, y1, x2, y2, hc, hn, hH, hpos => by
    have hwi : ∀ k : Int, nn (a - k * c) b d ↔ k ≤ whl a b d c := fun k => whl_iff hd (by
      by_cases hb : b = 0
      · exact Or.inl (by omega)
      · exact Or.inr (hn hb)) hc
    have hw : ∀ k : Int, P (x1 - k * x2) (y1 - k * y2) ↔ k ≤ whl a b d c := fun k => by
      have := hH 1 k
      rw [Int.one_mul, Int.one_mul, Int.one_mul, Int.one_mul] at this
      rw [← this, hwi]
    rw [ql]
    have hp1 := (hw (whl a b d c)).mpr (Int.le_refl _)
    have hp2 : ¬ P (x1 - (whl a b d c + 1) * x2) (y1 - (whl a b d c + 1) * y2) := fun q => by
      have := (hw _).mp q
      omega
    have he1 := (hwi (whl a b d c)).mpr (Int.le_refl _)
    have he2 : nn (-(a - whl a b d c * c)) (-b) d ↔ P (-(x1 - whl a b d c * x2)) (-(y1 - whl a b d c * y2)) := by
      have := hH (-1) (-whl a b d c)
      rw [show -1 * a - -whl a b d c * c = -(a - whl a b d c * c) by grind, show -1 * b = -b by omega, show -1 * x1 - -whl a b d c * x2 = -(x1 - whl a b d c * x2) by grind, show -1 * y1 - -whl a b d c * y2 = -(y1 - whl a b d c * y2) by grind] at this
      exact this
    generalize hW : whl a b d c = w at *
    generalize hE : a - w * c = e at *
    by_cases g : e = 0 ∧ b = 0
    · rw [if_pos g]
      refine ⟨hpos, hp1, hp2, RL_nil.2 (Or.inr ?_)⟩
      rw [← he2, g.1, g.2]
      exact Or.inl ⟨by omega, Or.inl (by omega)⟩
    · rw [if_neg g]
      refine ⟨hpos, hp1, hp2, ?_⟩
      have hpos' : ¬ P (-(x1 - w * x2)) (-(y1 - w * y2)) := fun q => by
        have := nn_anti hd hn he1 (he2.mpr q)
        exact g this
      -- what stands at the next pair
      have hH2 : ∀ x y : Int, nn (x * c - y * e) (-(y * b)) d ↔ P (x * x2 - y * (x1 - w * x2)) (x * y2 - y * (y1 - w * y2)) := fun x y => by
        have := hH (-y) (-(x + y * w))
        rw [show -y * a - -(x + y * w) * c = x * c - y * e by rw [← hE]; grind, show -y * b = -(y * b) by grind, show -y * x1 - -(x + y * w) * x2 = x * x2 - y * (x1 - w * x2) by grind, show -y * y1 - -(x + y * w) * y2 = x * y2 - y * (y1 - w * y2) by grind] at this
        exact this
      by_cases hb : b = 0
      · rw [if_pos hb]
        subst hb
        have epos : 0 < e := by
          have : 0 ≤ e := by
            rcases he1 with ⟨-, h | h⟩ | ⟨h, -⟩
            · exact h
            · rw [Int.zero_mul, Int.zero_mul] at h
              have := sq_zero h
              omega
            · omega
          rcases Int.lt_or_le 0 e with q | q
          · exact q
          · exact absurd ⟨by omega, rfl⟩ g
        refine ql_RL hd n c 0 e x2 y2 _ _ epos (fun h => absurd rfl h) (fun x y => ?_) hpos'
        have := hH2 x y
        rw [Int.mul_zero, show (-0 : Int) = 0 from rfl] at this
        rw [Int.mul_zero]
        exact this
      · rw [if_neg hb]
        have hns := hn hb
        have hne := nc_ne (e := e) (b := b) (d := d) hb hns
        by_cases hN : 0 < e * e - b * b * d
        · rw [if_pos hN]
          have e0 : 0 < e := by
            rcases he1 with ⟨h1, h | h⟩ | ⟨h1, h, -⟩
            · rcases Int.lt_or_le 0 e with q | q
              · exact q
              · have : e = 0 := by omega
                rw [this] at hN
                have := Int.mul_nonneg (sq_nn b) (show 0 ≤ d by omega)
                omega
            · omega
            · rcases Int.lt_or_le 0 e with q | q
              · exact q
              · have : e = 0 := by omega
                rw [this] at hN
                have := Int.mul_nonneg (sq_nn b) (show 0 ≤ d by omega)
                omega
          refine ql_RL hd n _ _ _ x2 y2 _ _ hN (fun _ => hns) (fun x y => ?_) hpos'
          rw [← hH2 x y]
          have := nn_times (x := x * c - y * e) (y := -(y * b)) (f := e) (g := -b) (N := e * e - b * b * d) hd hns hN (Or.inl ⟨by grind, e0⟩)
          rw [← this]
          have q1 : e * (x * c - y * e) + -b * (-(y * b) * d) = x * (c * e) - y * (e * e - b * b * d) := by grind
          have q2 : e * -(y * b) + -b * (x * c - y * e) = x * -(c * b) := by grind
          rw [q1, q2]
        · rw [if_neg hN]
          have hN2 : 0 < -(e * e - b * b * d) := by omega
          have b0 : 0 < b := by
            rcases Int.lt_or_le 0 b with q | q
            · exact q
            · exfalso
              rcases he1 with ⟨h1, -⟩ | ⟨h1, h2, h3⟩
              · omega
              · omega
          refine ql_RL hd n _ _ _ x2 y2 _ _ hN2 (fun _ => hns) (fun x y => ?_) hpos'
          rw [← hH2 x y]
          have := nn_times (x := x * c - y * e) (y := -(y * b)) (f := -e) (g := b) (N := -(e * e - b * b * d)) hd hns hN2 (Or.inr ⟨by grind, b0⟩)
          rw [← this]
          have q1 : -e * (x * c - y * e) + b * (-(y * b) * d) = x * -(c * e) - y * -(e * e - b * b * d) := by grind
          have q2 : -e * -(y * b) + b * (x * c - y * e) = x * (c * b) := by grind
          rw [q1, q2]
-- FILE N3
/-! NEARERS: the model -/
/-- x times the slope is at least y -/
def PS (l : SL4) (x y : Int) : Prop := nn (l.1 * x - y * l.2.2.1) (l.2.1 * x) l.2.2.2
theorem PS_ord {l : SL4} (hS : SL l.1 l.2.1 l.2.2.1 l.2.2.2) : ORD (PS l) := by
  have hd := hS.dpos
  have hc := hS.cpos
  refine ⟨fun x y u v h1 h2 => ?_, fun x y => ?_, fun y => ?_⟩
  · have := nn_add (by omega) h1 h2
    unfold PS
    rw [show l.1 * (x + u) - (y + v) * l.2.2.1 = l.1 * x - y * l.2.2.1 + (l.1 * u - v * l.2.2.1) by grind, show l.2.1 * (x + u) = l.2.1 * x + l.2.1 * u by grind]
    exact this
  · unfold PS
    rw [show l.1 * -x - -y * l.2.2.1 = -(l.1 * x - y * l.2.2.1) by grind, show l.2.1 * -x = -(l.2.1 * x) by grind]
    exact nn_tot hd
  · unfold PS
    rw [Int.mul_zero, Int.mul_zero, Int.zero_sub]
    constructor
    · intro h
      have h2 : 0 ≤ -(y * l.2.2.1) := by
        rcases h with ⟨-, h | h⟩ | ⟨h, -⟩
        · exact h
        · rw [Int.zero_mul, Int.zero_mul] at h
          have := sq_zero h
          omega
        · omega
      rcases Int.lt_or_le 0 y with g | g
      · have := Int.mul_pos g hc
        omega
      · exact g
    · intro h
      have := Int.mul_le_mul_of_nonneg_right h (show 0 ≤ l.2.2.1 by omega)
      rw [Int.zero_mul] at this
      exact Or.inl ⟨Int.le_refl _, Or.inl (by omega)⟩
theorem PS_W {l : SL4} (hS : SL l.1 l.2.1 l.2.2.1 l.2.2.2) {n : Nat} (y : Int) : PS l n y ↔ y ≤ WN l n := whl_iff hS.dpos (hS.hn (N := (n : Int))) hS.cpos
theorem PS_sg {l : SL4} (hS : SL l.1 l.2.1 l.2.2.1 l.2.2.2) (x y : Int) : (0 ≤ sg (l.1 * x - y * l.2.2.1) (l.2.1 * x) l.2.2.2 ↔ PS l x y) ∧ (sg (l.1 * x - y * l.2.2.1) (l.2.1 * x) l.2.2.2 ≤ 0 ↔ PS l (-x) (-y)) := by
  refine ⟨sg_nn hS.dpos, ?_⟩
  have : PS l (-x) (-y) ↔ 0 ≤ sg (-(l.1 * x - y * l.2.2.1)) (-(l.2.1 * x)) l.2.2.2 := by
    rw [sg_nn hS.dpos]
    unfold PS
    rw [show l.1 * -x - -y * l.2.2.1 = -(l.1 * x - y * l.2.2.1) by grind, show l.2.1 * -x = -(l.2.1 * x) by grind]
  rw [this, sg_neg]
  omega
theorem dist_up {l : SL4} (hS : SL l.1 l.2.1 l.2.2.1 l.2.2.2) {n : Nat} (h2 : ¬ PS l (-(2 * (n : Int))) (-(2 * WN l n + 1))) : DIST (PS l) n (-(n : Int)) (-(WN l n + 1)) := by
  have hO := PS_ord hS
  have hW := fun y => PS_W hS (n := n) y
  generalize WN l n = W at *
  have hp : PS l (-(n : Int)) (-(W + 1)) := by
    rcases hO.2.1 (n : Int) (W + 1) with g | g
    · have := (hW _).mp g
      omega
    · exact g
  have h2p : PS l (2 * (n : Int)) (2 * W + 1) := by
    rcases hO.2.1 (2 * (n : Int)) (2 * W + 1) with g | g
    · exact g
    · exact absurd g h2
  refine ⟨hp, ⟨-(n : Int), -(W + 1), Or.inr rfl, hp, ?_, ?_⟩, ?_⟩
  · rw [Int.sub_self, Int.sub_self]; exact hO.zero
  · rw [Int.sub_self, Int.sub_self]; exact hO.zero
  · intro x y hx hxy
    rcases hx with rfl | rfl
    · have hy := (hW y).mp hxy
      have := hO.1 _ _ _ _ h2p ((hO.2.2 (y - W)).mpr (by omega))
      rw [show 2 * (n : Int) + 0 = (n : Int) - -(n : Int) by omega, show 2 * W + 1 + (y - W) = y - -(W + 1) by omega] at this
      exact this
    · rw [Int.sub_self, hO.2.2]
      rcases Int.lt_or_le (-(W + 1)) y with g | g
      · exfalso
        apply h2
        have k1 := hO.mul hxy (a := 2) (by omega)
        have := hO.1 _ _ _ _ k1 ((hO.2.2 (-(2 * W + 1) - 2 * y)).mpr (by omega))
        rw [show 2 * -(n : Int) + 0 = -(2 * (n : Int)) by omega, show 2 * y + (-(2 * W + 1) - 2 * y) = -(2 * W + 1) by omega] at this
        exact this
      · omega
theorem dist_dn {l : SL4} (hS : SL l.1 l.2.1 l.2.2.1 l.2.2.2) {n : Nat} (h2 : PS l (-(2 * (n : Int))) (-(2 * WN l n + 1))) (h1 : ¬ PS l (-(n : Int)) (-WN l n)) : DIST (PS l) n n (WN l n) := by
  have hO := PS_ord hS
  have hW := fun y => PS_W hS (n := n) y
  generalize WN l n = W at *
  have hp : PS l (n : Int) W := (hW W).mpr (Int.le_refl _)
  refine ⟨hp, ⟨(n : Int), W, Or.inl rfl, hp, ?_, ?_⟩, ?_⟩
  · rw [Int.sub_self, Int.sub_self]; exact hO.zero
  · rw [Int.sub_self, Int.sub_self]; exact hO.zero
  · intro x y hx hxy
    rcases hx with rfl | rfl
    · have hy := (hW y).mp hxy
      rw [Int.sub_self, hO.2.2]
      omega
    · have hy : y ≤ -(W + 1) := by
        rcases Int.lt_or_le (-(W + 1)) y with g | g
        · exfalso
          apply h1
          have := hO.1 _ _ _ _ hxy ((hO.2.2 (-W - y)).mpr (by omega))
          rw [Int.add_zero, show y + (-W - y) = -W by omega] at this
          exact this
        · exact g
      have := hO.1 _ _ _ _ h2 ((hO.2.2 (W + 1 + y)).mpr (by omega))
      rw [show -(2 * (n : Int)) + 0 = -(n : Int) - (n : Int) by omega, show -(2 * W + 1) + (W + 1 + y) = y - W by omega] at this
      exact this
theorem dist_0 {l : SL4} (hS : SL l.1 l.2.1 l.2.2.1 l.2.2.2) {n : Nat} (h1 : PS l (-(n : Int)) (-WN l n)) : DIST (PS l) n 0 0 := by
  have hO := PS_ord hS
  have hp : PS l (n : Int) (WN l n) := (PS_W hS _).mpr (Int.le_refl _)
  refine ⟨hO.zero, ⟨(n : Int), WN l n, Or.inl rfl, hp, ?_, ?_⟩, ?_⟩
  · rw [Int.zero_sub, Int.zero_sub]; exact h1
  · rw [Int.sub_zero, Int.sub_zero]; exact hp
  · intro x y _ hxy
    rw [Int.sub_zero, Int.sub_zero]
    exact hxy
section NRM
variable {sc : en_S} {d : Nat} {XI : Nat → Int32} {XA : Nat → Nat → Int32} {XP : Nat → Nat → Option Nat} {XC : Value} {ML : Nat → Nat → Int64} {D : en_H} {k : Nat} {l : SL4}
theorem m_near4 {MI : Nat → Int32} {MA : Nat → Nat → Int32} (hk : k < 8) (hM : MS MA k l.1 l.2.1 l.2.2.1 l.2.2.2) (hS : SL l.1 l.2.1 l.2.2.1 l.2.2.2) {n : Nat} (hn1 : 1 ≤ n) (hn2 : n ≤ 2000) {n0 k0 e0 : Int} (b1 : 0 ≤ n0) (b2 : n0 ≤ 2000) (b3 : 0 ≤ k0) (b4 : k0 ≤ 40001) (b5 : e0 = -1 ∨ e0 = 0 ∨ e0 = 1) {r : Nat} (h6 : MI 6 = iO (r : Int)) (hr : r ≤ 2000) {kk e : Int} (c1 : 0 ≤ kk) (c2 : kk ≤ 40001) (c3 : e = -1 ∨ e = 0 ∨ e = 1) (hside : f_X12_side sc (d + 3) 26 (iO (k : Int)) (lO (n : Int)) (lO kk) 1 (hp XI XA XP XC MI MA ML D) = some (some (.int (iO e)), hp XI XA XP XC MI MA ML D)) :
    ((n = 1 ∨ ¬ PS l (e * (n : Int) - e0 * n0) (e * kk - e0 * k0)) → b_X12_nearersOf_2 sc (d + 3) 26 (iO (k : Int)) (lO n0) (lO k0) (iO e0) (iO (n : Int)) (lO kk) (hp XI XA XP XC MI MA ML D) = b_X12_nearersOf_1 sc (d + 3) 26 (iO (k : Int)) (lO (n : Int)) (lO kk) (iO e) (iO ((n : Int) + 1)) (hp XI XA XP XC (va_up MI 6 (iO ((r : Int) + 1))) (va_up MA 12 (upd (MA 12) r (iO (n : Int)))) ML D))
    ∧ ((n ≠ 1 ∧ PS l (e * (n : Int) - e0 * n0) (e * kk - e0 * k0)) → b_X12_nearersOf_2 sc (d + 3) 26 (iO (k : Int)) (lO n0) (lO k0) (iO e0) (iO (n : Int)) (lO kk) (hp XI XA XP XC MI MA ML D) = b_X12_nearersOf_1 sc (d + 3) 26 (iO (k : Int)) (lO n0) (lO k0) (iO e0) (iO ((n : Int) + 1)) (hp XI XA XP XC MI MA ML D)) := by
  obtain ⟨m0, m1, m2, m3⟩ := hM
  obtain ⟨a1, a2, y1, y2, z1, z2, d1, d2, -⟩ := id hS
  have hsg := PS_sg hS (e * (n : Int) - e0 * n0) (e * kk - e0 * k0)
  have q1 : -2000 ≤ e * (n : Int) ∧ e * (n : Int) ≤ 2000 := by rcases c3 with h | h | h <;> rw [h] <;> omega
  have q2 : -2000 ≤ e0 * n0 ∧ e0 * n0 ≤ 2000 := by rcases b5 with h | h | h <;> rw [h] <;> omega
  have q3 : -40001 ≤ e * kk ∧ e * kk ≤ 40001 := by rcases c3 with h | h | h <;> rw [h] <;> omega
  have q4 : -40001 ≤ e0 * k0 ∧ e0 * k0 ≤ 40001 := by rcases b5 with h | h | h <;> rw [h] <;> omega
  generalize hX : e * (n : Int) - e0 * n0 = X at *
  generalize hY : e * kk - e0 * k0 = Y at *
  have t1 := mul_bd (x := X) (y := l.1 + 1000) (a := 4000) (b := 2000) (by omega) (by omega) (by omega) (by omega)
  have t2 := mul_bd (x := X) (y := l.2.1 + 20) (a := 4000) (b := 40) (by omega) (by omega) (by omega) (by omega)
  have t3 := mul_bd (x := Y) (y := l.2.2.1) (a := 80002) (b := 100) (by omega) (by omega) (by omega) (by omega)
  rw [Int.mul_add] at t1 t2
  have g1 : l.1 * X = X * l.1 := Int.mul_comm _ _
  have g2 : l.2.1 * X = X * l.2.1 := Int.mul_comm _ _
  have s1 := sq_bd (x := l.1 * X - Y * l.2.2.1) (K := 100000000) (by omega) (by omega)
  have s2 := sq_bd (x := l.2.1 * X) (K := 1000000) (by omega) (by omega)
  have s3 := mul_bd (x := l.2.1 * X * (l.2.1 * X)) (y := l.2.2.2) (a := 1000000000000) (b := 50) (by omega) (by omega) (by omega) d2
  have hsn := e_sign (sc := sc) (n := d + 2) (x := l.1 * X - Y * l.2.2.1) (y := l.2.1 * X) (d := l.2.2.2) (z := hp XI XA XP XC MI MA ML D) (by unfold i64; omega) (by unfold i64; omega) (by unfold i64; omega) (by unfold i64; omega)
  have hrg := sg_range (l.1 * X - Y * l.2.2.1) (l.2.1 * X) l.2.2.2
  generalize sg (l.1 * X - Y * l.2.2.1) (l.2.1 * X) l.2.2.2 = sv at *
  clear t1 t2 t3 s1 s2 s3 g1 g2
  have e1 : (n : Int) + 1 = (n : Int) + 1 := rfl
  have rec7 : b_X12_nearersOf_7 sc (d + 3) 26 (iO (k : Int)) (lO n0) (lO k0) (iO e0) (iO (n : Int)) (lO kk) (iO e) (iO 1) (hp XI XA XP XC MI MA ML D) = b_X12_nearersOf_1 sc (d + 3) 26 (iO (k : Int)) (lO (n : Int)) (lO kk) (iO e) (iO ((n : Int) + 1)) (hp XI XA XP XC (va_up MI 6 (iO ((r : Int) + 1))) (va_up MA 12 (upd (MA 12) r (iO (n : Int)))) ML D) := by
    rw [eb_X12_nearersOf_7]
    clear hsg hside hsn
    simp (disch := (first | assumption | (unfold i32; omega) | (unfold i64; omega) | omega)) only [↓reduceIte, ki_0, ki_1, ki_2, ki_3, ki_4, ki_5, ki_6, ki_7, ki_8, ki_9, ki_10, ki_11, ki_12, ki_13, ki_14, ki_15, ki_20, ki_21, ki_30, ki_31, ki_40, ki_41, ki_50, ki_51, ki_60, ki_63, ki_64, ki_65, ki_100, ki_158, ki_160, ki_200, ki_212, ki_1000, ki_2000, ki_2001, ki_5000, ki_10000, ki_10001, ki_100000, ki_200000, ki_1000000, ki_2000000, ki_3000000, iO_neg, iO_add, iO_sub, iO_mul, kn_4, kn_8, kn_10, kn_20, kn_24, kn_40, kn_41, kn_50, kn_60, kn_158, kn_160, kn_200, kn_212, kn_2001, tn_lt, fn_lt, tn_le, fn_le, tn_eq, fn_eq, x_lt, x_le, x_eq, x_ix, x_nat, t_lt, f_lt, t_le, f_le, t_eq, f_eq, eq_self, and_self, true_and, and_true, false_and, and_false, if_true, if_false, Int.toNat_natCast, bI_s, bL_s, bA_s, bA_n, bV_s, mq_s, mq_n, en_le, bl_0, bl_1, u_eq, u_ne, w_eq, w_ne, v_eq, v_ne, ↓hp_cc_26, ↓hp_g_26_0, ↓hp_p_26_0, ↓hp_g_26_1, ↓hp_p_26_1, ↓hp_g_26_2, ↓hp_p_26_2, ↓hp_g_26_3, ↓hp_g_26_4, ↓hp_g_26_5, ↓hp_g_26_6, ↓hp_g_26_7, ↓hp_g_26_8, ↓hp_g_26_9, ↓hp_g_26_10, ↓hp_g_26_11, ↓hp_g_26_12, ↓hp_g_26_13, ↓hp_g_26_14, ↓hp_g_26_15, ↓hp_p_26_15, ↓hp_g_26_16, ↓hp_g_26_17, ↓hp_g_26_18, ↓hp_p_26_18, ↓hp_g_26_19, ↓hp_p_26_19, ↓hp_g_26_20, ↓hp_g_26_21, ↓hp_p_26_21, ↓hp_g_26_22, ↓hp_g_26_23, ↓hp_g_26_24, ↓hp_g_26_25, ↓hp_g_26_26, ↓hp_g_26_27, ↓hp_g_26_28, ↓hp_g_26_29, ↓hp_g_26_30, ↓hp_p_26_30, ↓hp_g_26_31, ↓hp_g_26_32, ↓hp_p_26_32, ↓hp_a_27, ↓hp_s_27, ↓hp_l_27, ↓hp_a_28, ↓hp_s_28, ↓hp_l_28, ↓hp_a_29, ↓hp_s_29, ↓hp_l_29, ↓hp_a_30, ↓hp_s_30, ↓hp_l_30, ↓hp_a_31, ↓hp_s_31, ↓hp_l_31, ↓hp_a_32, ↓hp_s_32, ↓hp_l_32, ↓hp_a_33, ↓hp_s_33, ↓hp_l_33, ↓hp_a_34, ↓hp_s_34, ↓hp_l_34, ↓hp_a_35, ↓hp_s_35, ↓hp_l_35, ↓hp_a_36, ↓hp_s_36, ↓hp_l_36, ↓hp_a_37, ↓hp_s_37, ↓hp_l_37, ↓hp_a_38, ↓hp_s_38, ↓hp_l_38, ↓hp_a_39, ↓hp_s_39, ↓hp_a_40, ↓hp_s_40, ↓hp_a_41, ↓hp_s_41, ↓hp_l_41, ↓hp_a_42, ↓hp_s_42, ↓hp_l_42, ↓hp_a_43, ↓hp_s_43, ↓hp_l_43, ↓hp_a_44, ↓hp_s_44, ↓hp_l_44, ↓hp_a_45, ↓hp_s_45, ↓hp_l_45, ↓hp_a_46, ↓hp_s_46, ↓hp_l_46, ↓hp_a_47, ↓hp_s_47, ↓hp_l_47, ↓hp_a_48, ↓hp_s_48, ↓hp_l_48, ↓hp_a_49, ↓hp_s_49, ↓hp_l_49, ↓hp_a_50, ↓hp_s_50, ↓hp_l_50, h6, iO_wide]
  have skp7 : b_X12_nearersOf_7 sc (d + 3) 26 (iO (k : Int)) (lO n0) (lO k0) (iO e0) (iO (n : Int)) (lO kk) (iO e) (iO 0) (hp XI XA XP XC MI MA ML D) = b_X12_nearersOf_1 sc (d + 3) 26 (iO (k : Int)) (lO n0) (lO k0) (iO e0) (iO ((n : Int) + 1)) (hp XI XA XP XC MI MA ML D) := by
    rw [eb_X12_nearersOf_7]
    clear hsg hside hsn
    simp (disch := (first | assumption | (unfold i32; omega) | (unfold i64; omega) | omega)) only [↓reduceIte, ki_0, ki_1, ki_2, ki_3, ki_4, ki_5, ki_6, ki_7, ki_8, ki_9, ki_10, ki_11, ki_12, ki_13, ki_14, ki_15, ki_20, ki_21, ki_30, ki_31, ki_40, ki_41, ki_50, ki_51, ki_60, ki_63, ki_64, ki_65, ki_100, ki_158, ki_160, ki_200, ki_212, ki_1000, ki_2000, ki_2001, ki_5000, ki_10000, ki_10001, ki_100000, ki_200000, ki_1000000, ki_2000000, ki_3000000, iO_neg, iO_add, iO_sub, iO_mul, kn_4, kn_8, kn_10, kn_20, kn_24, kn_40, kn_41, kn_50, kn_60, kn_158, kn_160, kn_200, kn_212, kn_2001, tn_lt, fn_lt, tn_le, fn_le, tn_eq, fn_eq, x_lt, x_le, x_eq, x_ix, x_nat, t_lt, f_lt, t_le, f_le, t_eq, f_eq, eq_self, and_self, true_and, and_true, false_and, and_false, if_true, if_false, Int.toNat_natCast, bI_s, bL_s, bA_s, bA_n, bV_s, mq_s, mq_n, en_le, bl_0, bl_1, u_eq, u_ne, w_eq, w_ne, v_eq, v_ne, ↓hp_cc_26, ↓hp_g_26_0, ↓hp_p_26_0, ↓hp_g_26_1, ↓hp_p_26_1, ↓hp_g_26_2, ↓hp_p_26_2, ↓hp_g_26_3, ↓hp_g_26_4, ↓hp_g_26_5, ↓hp_g_26_6, ↓hp_g_26_7, ↓hp_g_26_8, ↓hp_g_26_9, ↓hp_g_26_10, ↓hp_g_26_11, ↓hp_g_26_12, ↓hp_g_26_13, ↓hp_g_26_14, ↓hp_g_26_15, ↓hp_p_26_15, ↓hp_g_26_16, ↓hp_g_26_17, ↓hp_g_26_18, ↓hp_p_26_18, ↓hp_g_26_19, ↓hp_p_26_19, ↓hp_g_26_20, ↓hp_g_26_21, ↓hp_p_26_21, ↓hp_g_26_22, ↓hp_g_26_23, ↓hp_g_26_24, ↓hp_g_26_25, ↓hp_g_26_26, ↓hp_g_26_27, ↓hp_g_26_28, ↓hp_g_26_29, ↓hp_g_26_30, ↓hp_p_26_30, ↓hp_g_26_31, ↓hp_g_26_32, ↓hp_p_26_32, ↓hp_a_27, ↓hp_s_27, ↓hp_l_27, ↓hp_a_28, ↓hp_s_28, ↓hp_l_28, ↓hp_a_29, ↓hp_s_29, ↓hp_l_29, ↓hp_a_30, ↓hp_s_30, ↓hp_l_30, ↓hp_a_31, ↓hp_s_31, ↓hp_l_31, ↓hp_a_32, ↓hp_s_32, ↓hp_l_32, ↓hp_a_33, ↓hp_s_33, ↓hp_l_33, ↓hp_a_34, ↓hp_s_34, ↓hp_l_34, ↓hp_a_35, ↓hp_s_35, ↓hp_l_35, ↓hp_a_36, ↓hp_s_36, ↓hp_l_36, ↓hp_a_37, ↓hp_s_37, ↓hp_l_37, ↓hp_a_38, ↓hp_s_38, ↓hp_l_38, ↓hp_a_39, ↓hp_s_39, ↓hp_a_40, ↓hp_s_40, ↓hp_a_41, ↓hp_s_41, ↓hp_l_41, ↓hp_a_42, ↓hp_s_42, ↓hp_l_42, ↓hp_a_43, ↓hp_s_43, ↓hp_l_43, ↓hp_a_44, ↓hp_s_44, ↓hp_l_44, ↓hp_a_45, ↓hp_s_45, ↓hp_l_45, ↓hp_a_46, ↓hp_s_46, ↓hp_l_46, ↓hp_a_47, ↓hp_s_47, ↓hp_l_47, ↓hp_a_48, ↓hp_s_48, ↓hp_l_48, ↓hp_a_49, ↓hp_s_49, ↓hp_l_49, ↓hp_a_50, ↓hp_s_50, ↓hp_l_50]
  have be : i32 e := by rcases c3 with h | h | h <;> rw [h] <;> (unfold i32; omega)
  have be0 : i32 e0 := by rcases b5 with h | h | h <;> rw [h] <;> (unfold i32; omega)
  have hi32 : i32 (e * (n : Int)) := by unfold i32; omega
  constructor
  · intro h
    rw [← rec7, eb_X12_nearersOf_2, iO_wide (by unfold i32; omega)]
    by_cases g : n = 1
    · subst g
      clear hsg hsn rec7 skp7
      have hside : f_X12_side sc (d + 3) 26 (iO (k : Int)) (lO ((1 : Nat) : Int)) (lO kk) 1 (hp XI XA XP XC MI MA ML D) = _ := hside
      have e1 : ((1 : Nat) : Int) = 1 := rfl
      rw [hp_cc_26, if_pos rfl, hside, bI_s, if_pos (show iO ((1 : Nat) : Int) = 1 from rfl), eb_X12_nearersOf_4, if_neg (show ¬ (1 : Int32) = 0 by decide)]
      rfl
    · have hn : ¬ PS l X Y := h.resolve_left g
      have hsv : sv < 0 := by
        rcases Int.lt_or_le sv 0 with q | q
        · exact q
        · exact absurd (hsg.1.mp q) hn
      have hi : i32 sv := by unfold i32; omega
      have en : (n : Int) ≠ 1 := by omega
      clear hsg rec7 skp7 hrg h hn g
      simp (disch := (first | assumption | (unfold i32; omega) | (unfold i64; omega) | omega)) only [↓reduceIte, ki_0, ki_1, ki_2, ki_3, ki_4, ki_5, ki_6, ki_7, ki_8, ki_9, ki_10, ki_11, ki_12, ki_13, ki_14, ki_15, ki_20, ki_21, ki_30, ki_31, ki_40, ki_41, ki_50, ki_51, ki_60, ki_63, ki_64, ki_65, ki_100, ki_158, ki_160, ki_200, ki_212, ki_1000, ki_2000, ki_2001, ki_5000, ki_10000, ki_10001, ki_100000, ki_200000, ki_1000000, ki_2000000, ki_3000000, iO_neg, iO_add, iO_sub, iO_mul, kn_4, kn_8, kn_10, kn_20, kn_24, kn_40, kn_41, kn_50, kn_60, kn_158, kn_160, kn_200, kn_212, kn_2001, tn_lt, fn_lt, tn_le, fn_le, tn_eq, fn_eq, x_lt, x_le, x_eq, x_ix, x_nat, t_lt, f_lt, t_le, f_le, t_eq, f_eq, eq_self, and_self, true_and, and_true, false_and, and_false, if_true, if_false, Int.toNat_natCast, bI_s, bL_s, bA_s, bA_n, bV_s, mq_s, mq_n, en_le, bl_0, bl_1, u_eq, u_ne, w_eq, w_ne, v_eq, v_ne, ↓hp_cc_26, ↓hp_g_26_0, ↓hp_p_26_0, ↓hp_g_26_1, ↓hp_p_26_1, ↓hp_g_26_2, ↓hp_p_26_2, ↓hp_g_26_3, ↓hp_g_26_4, ↓hp_g_26_5, ↓hp_g_26_6, ↓hp_g_26_7, ↓hp_g_26_8, ↓hp_g_26_9, ↓hp_g_26_10, ↓hp_g_26_11, ↓hp_g_26_12, ↓hp_g_26_13, ↓hp_g_26_14, ↓hp_g_26_15, ↓hp_p_26_15, ↓hp_g_26_16, ↓hp_g_26_17, ↓hp_g_26_18, ↓hp_p_26_18, ↓hp_g_26_19, ↓hp_p_26_19, ↓hp_g_26_20, ↓hp_g_26_21, ↓hp_p_26_21, ↓hp_g_26_22, ↓hp_g_26_23, ↓hp_g_26_24, ↓hp_g_26_25, ↓hp_g_26_26, ↓hp_g_26_27, ↓hp_g_26_28, ↓hp_g_26_29, ↓hp_g_26_30, ↓hp_p_26_30, ↓hp_g_26_31, ↓hp_g_26_32, ↓hp_p_26_32, ↓hp_a_27, ↓hp_s_27, ↓hp_l_27, ↓hp_a_28, ↓hp_s_28, ↓hp_l_28, ↓hp_a_29, ↓hp_s_29, ↓hp_l_29, ↓hp_a_30, ↓hp_s_30, ↓hp_l_30, ↓hp_a_31, ↓hp_s_31, ↓hp_l_31, ↓hp_a_32, ↓hp_s_32, ↓hp_l_32, ↓hp_a_33, ↓hp_s_33, ↓hp_l_33, ↓hp_a_34, ↓hp_s_34, ↓hp_l_34, ↓hp_a_35, ↓hp_s_35, ↓hp_l_35, ↓hp_a_36, ↓hp_s_36, ↓hp_l_36, ↓hp_a_37, ↓hp_s_37, ↓hp_l_37, ↓hp_a_38, ↓hp_s_38, ↓hp_l_38, ↓hp_a_39, ↓hp_s_39, ↓hp_a_40, ↓hp_s_40, ↓hp_a_41, ↓hp_s_41, ↓hp_l_41, ↓hp_a_42, ↓hp_s_42, ↓hp_l_42, ↓hp_a_43, ↓hp_s_43, ↓hp_l_43, ↓hp_a_44, ↓hp_s_44, ↓hp_l_44, ↓hp_a_45, ↓hp_s_45, ↓hp_l_45, ↓hp_a_46, ↓hp_s_46, ↓hp_l_46, ↓hp_a_47, ↓hp_s_47, ↓hp_l_47, ↓hp_a_48, ↓hp_s_48, ↓hp_l_48, ↓hp_a_49, ↓hp_s_49, ↓hp_l_49, ↓hp_a_50, ↓hp_s_50, ↓hp_l_50, hside, eb_X12_nearersOf_4, iO_wide, lO_mul, lO_sub, hX, hY, m0, m1, m2, m3, hsn]
  · intro ⟨g, hp0⟩
    have hsv : 0 ≤ sv := hsg.1.mpr hp0
    have hi : i32 sv := by unfold i32; omega
    have en : (n : Int) ≠ 1 := by omega
    rw [← skp7, eb_X12_nearersOf_2, iO_wide (by unfold i32; omega)]
    clear hsg rec7 skp7 hrg hp0 g
    simp (disch := (first | assumption | (unfold i32; omega) | (unfold i64; omega) | omega)) only [↓reduceIte, ki_0, ki_1, ki_2, ki_3, ki_4, ki_5, ki_6, ki_7, ki_8, ki_9, ki_10, ki_11, ki_12, ki_13, ki_14, ki_15, ki_20, ki_21, ki_30, ki_31, ki_40, ki_41, ki_50, ki_51, ki_60, ki_63, ki_64, ki_65, ki_100, ki_158, ki_160, ki_200, ki_212, ki_1000, ki_2000, ki_2001, ki_5000, ki_10000, ki_10001, ki_100000, ki_200000, ki_1000000, ki_2000000, ki_3000000, iO_neg, iO_add, iO_sub, iO_mul, kn_4, kn_8, kn_10, kn_20, kn_24, kn_40, kn_41, kn_50, kn_60, kn_158, kn_160, kn_200, kn_212, kn_2001, tn_lt, fn_lt, tn_le, fn_le, tn_eq, fn_eq, x_lt, x_le, x_eq, x_ix, x_nat, t_lt, f_lt, t_le, f_le, t_eq, f_eq, eq_self, and_self, true_and, and_true, false_and, and_false, if_true, if_false, Int.toNat_natCast, bI_s, bL_s, bA_s, bA_n, bV_s, mq_s, mq_n, en_le, bl_0, bl_1, u_eq, u_ne, w_eq, w_ne, v_eq, v_ne, ↓hp_cc_26, ↓hp_g_26_0, ↓hp_p_26_0, ↓hp_g_26_1, ↓hp_p_26_1, ↓hp_g_26_2, ↓hp_p_26_2, ↓hp_g_26_3, ↓hp_g_26_4, ↓hp_g_26_5, ↓hp_g_26_6, ↓hp_g_26_7, ↓hp_g_26_8, ↓hp_g_26_9, ↓hp_g_26_10, ↓hp_g_26_11, ↓hp_g_26_12, ↓hp_g_26_13, ↓hp_g_26_14, ↓hp_g_26_15, ↓hp_p_26_15, ↓hp_g_26_16, ↓hp_g_26_17, ↓hp_g_26_18, ↓hp_p_26_18, ↓hp_g_26_19, ↓hp_p_26_19, ↓hp_g_26_20, ↓hp_g_26_21, ↓hp_p_26_21, ↓hp_g_26_22, ↓hp_g_26_23, ↓hp_g_26_24, ↓hp_g_26_25, ↓hp_g_26_26, ↓hp_g_26_27, ↓hp_g_26_28, ↓hp_g_26_29, ↓hp_g_26_30, ↓hp_p_26_30, ↓hp_g_26_31, ↓hp_g_26_32, ↓hp_p_26_32, ↓hp_a_27, ↓hp_s_27, ↓hp_l_27, ↓hp_a_28, ↓hp_s_28, ↓hp_l_28, ↓hp_a_29, ↓hp_s_29, ↓hp_l_29, ↓hp_a_30, ↓hp_s_30, ↓hp_l_30, ↓hp_a_31, ↓hp_s_31, ↓hp_l_31, ↓hp_a_32, ↓hp_s_32, ↓hp_l_32, ↓hp_a_33, ↓hp_s_33, ↓hp_l_33, ↓hp_a_34, ↓hp_s_34, ↓hp_l_34, ↓hp_a_35, ↓hp_s_35, ↓hp_l_35, ↓hp_a_36, ↓hp_s_36, ↓hp_l_36, ↓hp_a_37, ↓hp_s_37, ↓hp_l_37, ↓hp_a_38, ↓hp_s_38, ↓hp_l_38, ↓hp_a_39, ↓hp_s_39, ↓hp_a_40, ↓hp_s_40, ↓hp_a_41, ↓hp_s_41, ↓hp_l_41, ↓hp_a_42, ↓hp_s_42, ↓hp_l_42, ↓hp_a_43, ↓hp_s_43, ↓hp_l_43, ↓hp_a_44, ↓hp_s_44, ↓hp_l_44, ↓hp_a_45, ↓hp_s_45, ↓hp_l_45, ↓hp_a_46, ↓hp_s_46, ↓hp_l_46, ↓hp_a_47, ↓hp_s_47, ↓hp_l_47, ↓hp_a_48, ↓hp_s_48, ↓hp_l_48, ↓hp_a_49, ↓hp_s_49, ↓hp_l_49, ↓hp_a_50, ↓hp_s_50, ↓hp_l_50, hside, eb_X12_nearersOf_4, iO_wide, lO_mul, lO_sub, hX, hY, m0, m1, m2, m3, hsn]
theorem m_near_step {MI : Nat → Int32} {MA : Nat → Nat → Int32} (hk : k < 8) (hM : MS MA k l.1 l.2.1 l.2.2.1 l.2.2.2) (hS : SL l.1 l.2.1 l.2.2.1 l.2.2.2) {n : Nat} (hn1 : 1 ≤ n) (hn2 : n ≤ 2000) {n0 k0 e0 : Int} (b1 : 0 ≤ n0) (b2 : n0 ≤ 2000) (b3 : 0 ≤ k0) (b4 : k0 ≤ 40001) (b5 : e0 = -1 ∨ e0 = 0 ∨ e0 = 1) {r : Nat} (h6 : MI 6 = iO (r : Int)) (hr : r ≤ 2000) :
    ∃ kk e : Int, DIST (PS l) n (e * (n : Int)) (e * kk) ∧ 0 ≤ kk ∧ kk ≤ 40001 ∧ (e = -1 ∨ e = 0 ∨ e = 1) ∧ ((n = 1 ∨ ¬ PS l (e * (n : Int) - e0 * n0) (e * kk - e0 * k0)) → b_X12_nearersOf_1 sc (d + 3) 26 (iO (k : Int)) (lO n0) (lO k0) (iO e0) (iO (n : Int)) (hp XI XA XP XC MI MA ML D) = b_X12_nearersOf_1 sc (d + 3) 26 (iO (k : Int)) (lO (n : Int)) (lO kk) (iO e) (iO ((n : Int) + 1)) (hp XI XA XP XC (va_up MI 6 (iO ((r : Int) + 1))) (va_up MA 12 (upd (MA 12) r (iO (n : Int)))) ML D))
    ∧ ((n ≠ 1 ∧ PS l (e * (n : Int) - e0 * n0) (e * kk - e0 * k0)) → b_X12_nearersOf_1 sc (d + 3) 26 (iO (k : Int)) (lO n0) (lO k0) (iO e0) (iO (n : Int)) (hp XI XA XP XC MI MA ML D) = b_X12_nearersOf_1 sc (d + 3) 26 (iO (k : Int)) (lO n0) (lO k0) (iO e0) (iO ((n : Int) + 1)) (hp XI XA XP XC MI MA ML D)) := by
  obtain ⟨a1, a2, y1, y2, z1, z2, d1, d2, -⟩ := id hS
  have hW0 : 0 ≤ WN l n := hS.w0 (N := (n : Int)) (by omega)
  have hW1 : WN l n ≤ 20 * (n : Int) := hS.w20 (N := (n : Int)) (by omega)
  have hw := e_mwhole (sc := sc) (n := d) (XI := XI) (XA := XA) (XP := XP) (XC := XC) (MI := MI) (ML := ML) (D0 := D) hk hM hS (N := (n : Int)) (by omega) (by omega)
  have hw : f_X12_wholeOf sc (d + 3) 26 (iO (k : Int)) (iO (n : Int)) (hp XI XA XP XC MI MA ML D) = some (some (.int (iO (WN l n))), hp XI XA XP XC MI MA ML D) := hw
  -- sides
  have t1 := mul_bd (x := (n : Int)) (y := l.1 + 1000) (a := 2000) (b := 2000) (by omega) (by omega) (by omega) (by omega)
  have t2 := mul_bd (x := (n : Int)) (y := l.2.1 + 20) (a := 2000) (b := 40) (by omega) (by omega) (by omega) (by omega)
  rw [Int.mul_add] at t1 t2
  have sd : ∀ (q w : Int), (q = 1 ∨ q = 2) → 0 ≤ w → w ≤ 80003 → f_X12_side sc (d + 3) 26 (iO (k : Int)) (lO (n : Int)) (lO w) (lO q) (hp XI XA XP XC MI MA ML D) = some (some (.int (iO (sg (l.1 * (q * (n : Int)) - w * l.2.2.1) (l.2.1 * (q * (n : Int))) l.2.2.2))), hp XI XA XP XC MI MA ML D) := by
    intro q w hq hw0 hw1
    have t3 := mul_bd (x := w) (y := l.2.2.1) (a := 80003) (b := 100) (by omega) (by omega) (by omega) (by omega)
    have f1 : q * l.1 * (n : Int) = l.1 * (q * (n : Int)) := by grind
    have f2 : q * l.2.1 * (n : Int) = l.2.1 * (q * (n : Int)) := by grind
    have u1 : -16000000 ≤ l.1 * (q * (n : Int)) ∧ l.1 * (q * (n : Int)) ≤ 16000000 := by
      rcases hq with rfl | rfl
      · rw [Int.one_mul, Int.mul_comm]; omega
      · rw [show l.1 * (2 * (n : Int)) = 2 * ((n : Int) * l.1) by grind]; omega
    have u2 : -400000 ≤ l.2.1 * (q * (n : Int)) ∧ l.2.1 * (q * (n : Int)) ≤ 400000 := by
      rcases hq with rfl | rfl
      · rw [Int.one_mul, Int.mul_comm]; omega
      · rw [show l.2.1 * (2 * (n : Int)) = 2 * ((n : Int) * l.2.1) by grind]; omega
    have s1 := sq_bd (x := l.1 * (q * (n : Int)) - w * l.2.2.1) (K := 100000000) (by omega) (by omega)
    have s2 := sq_bd (x := l.2.1 * (q * (n : Int))) (K := 1000000) (by omega) (by omega)
    have s3 := mul_bd (x := l.2.1 * (q * (n : Int)) * (l.2.1 * (q * (n : Int)))) (y := l.2.2.2) (a := 1000000000000) (b := 50) (by omega) (by omega) (by omega) d2
    have h := e_side (sc := sc) (n := d + 1) (XI := XI) (XA := XA) (XP := XP) (XC := XC) (MI := MI) (ML := ML) (D0 := D) hk hM hS (N := (n : Int)) (m := w) (q := q) (by rw [f1]; unfold i64; omega) (by rw [f2]; unfold i64; omega) (by rw [f1]; unfold i64; omega) (by rw [f2]; unfold i64; omega)
    rw [f1, f2] at h
    exact h
  have hs2 := sd 2 (2 * WN l n + 1) (Or.inr rfl) (by omega) (by omega)
  obtain ⟨p1, p2⟩ := PS_sg hS (2 * (n : Int)) (2 * WN l n + 1)
  have rg2 := sg_range (l.1 * (2 * (n : Int)) - (2 * WN l n + 1) * l.2.2.1) (l.2.1 * (2 * (n : Int))) l.2.2.2
  have first : b_X12_nearersOf_1 sc (d + 3) 26 (iO (k : Int)) (lO n0) (lO k0) (iO e0) (iO (n : Int)) (hp XI XA XP XC MI MA ML D) = b_X12_nearersOf_2 sc (d + 3) 26 (iO (k : Int)) (lO n0) (lO k0) (iO e0) (iO (n : Int)) (lO (if sg (l.1 * (2 * (n : Int)) - (2 * WN l n + 1) * l.2.2.1) (l.2.1 * (2 * (n : Int))) l.2.2.2 ≤ 0 then WN l n else WN l n + 1)) (hp XI XA XP XC MI MA ML D) := by
    rw [eb_X12_nearersOf_1, if_neg (show ¬ 2000 < iO (n : Int) from nlt (a := 2000) (b := (n : Int)) (by unfold i32; omega) (by unfold i32; omega) (by omega)), hp_cc_26, if_pos rfl, hw, bI_s, en_le, hp_cc_26, if_pos rfl, iO_wide (by unfold i32; omega), iO_wide (by unfold i32; omega), show (2 : Int64) * lO (WN l n) + 1 = lO (2 * WN l n + 1) by rw [kl_2, kl_1, lO_mul, lO_add], show (2 : Int64) = lO 2 from rfl, hs2, bI_s]
    generalize sg (l.1 * (2 * (n : Int)) - (2 * WN l n + 1) * l.2.2.1) (l.2.1 * (2 * (n : Int))) l.2.2.2 = sv at *
    by_cases g : sv ≤ 0
    · rw [if_pos g, if_pos (show iO sv ≤ 0 from ple (a := sv) (b := 0) (by unfold i32; omega) (by unfold i32; omega) g)]
    · rw [if_neg g, if_neg (show ¬ iO sv ≤ 0 from nle (a := sv) (b := 0) (by unfold i32; omega) (by unfold i32; omega) (by omega)), en_le, kl_1, lO_add]
  rw [first]
  by_cases g : sg (l.1 * (2 * (n : Int)) - (2 * WN l n + 1) * l.2.2.1) (l.2.1 * (2 * (n : Int))) l.2.2.2 ≤ 0
  · rw [if_pos g]
    have h2 := p2.mp g
    have hs1 := sd 1 (WN l n) (Or.inl rfl) (by omega) (by omega)
    rw [Int.one_mul] at hs1
    obtain ⟨r1, r2⟩ := PS_sg hS (n : Int) (WN l n)
    have hge := r1.mpr ((PS_W hS _).mpr (Int.le_refl _))
    have rg1 := sg_range (l.1 * (n : Int) - WN l n * l.2.2.1) (l.2.1 * (n : Int)) l.2.2.2
    generalize sg (l.1 * (n : Int) - WN l n * l.2.2.1) (l.2.1 * (n : Int)) l.2.2.2 = e at *
    refine ⟨WN l n, e, ?_, by omega, by omega, rg1, m_near4 hk hM hS hn1 hn2 b1 b2 b3 b4 b5 h6 hr (by omega) (by omega) rg1 hs1⟩
    by_cases ge : e = 0
    · rw [ge, Int.zero_mul, Int.zero_mul]
      exact dist_0 hS (r2.mp (by omega))
    · have : e = 1 := by omega
      rw [this, Int.one_mul, Int.one_mul]
      exact dist_dn hS h2 (fun q => by have := r2.mpr q; omega)
  · rw [if_neg g]
    have h2 : ¬ PS l (-(2 * (n : Int))) (-(2 * WN l n + 1)) := fun q => g (p2.mpr q)
    have hs1 := sd 1 (WN l n + 1) (Or.inl rfl) (by omega) (by omega)
    rw [Int.one_mul] at hs1
    obtain ⟨r1, r2⟩ := PS_sg hS (n : Int) (WN l n + 1)
    have rg1 := sg_range (l.1 * (n : Int) - (WN l n + 1) * l.2.2.1) (l.2.1 * (n : Int)) l.2.2.2
    have hlt : sg (l.1 * (n : Int) - (WN l n + 1) * l.2.2.1) (l.2.1 * (n : Int)) l.2.2.2 < 0 := by
      rcases Int.lt_or_le (sg (l.1 * (n : Int) - (WN l n + 1) * l.2.2.1) (l.2.1 * (n : Int)) l.2.2.2) 0 with q | q
      · exact q
      · have := (PS_W hS _).mp (r1.mp q)
        omega
    generalize sg (l.1 * (n : Int) - (WN l n + 1) * l.2.2.1) (l.2.1 * (n : Int)) l.2.2.2 = e at *
    have he : e = -1 := by omega
    refine ⟨WN l n + 1, e, ?_, by omega, by omega, rg1, m_near4 hk hM hS hn1 hn2 b1 b2 b3 b4 b5 h6 hr (by omega) (by omega) rg1 hs1⟩
    rw [he, show -1 * (n : Int) = -(n : Int) by omega, show -1 * (WN l n + 1) = -(WN l n + 1) by omega]
    exact dist_up hS h2
end NRM
-- FILE N4
/-! NEARERS: the model's loop, the call -/
def fbn : Nat → Int
  | 0 => 0
  | 1 => 1
  | n + 2 => fbn (n + 1) + fbn n
theorem fbn_20 : fbn 20 = 6765 := by decide
section NRL
variable {sc : en_S} {d : Nat} {XI : Nat → Int32} {XA : Nat → Nat → Int32} {XP : Nat → Nat → Option Nat} {XC : Value} {ML : Nat → Nat → Int64} {D : en_H} {k : Nat} {l : SL4}
theorem m_near_loop (hk : k < 8) (hS : SL l.1 l.2.1 l.2.2.1 l.2.2.2) : ∀ (j n : Nat) (MI : Nat → Int32) (MA : Nat → Nat → Int32) (R rest : List Int) (f : Nat) (x1 y1 x2 y2 qp : Int) (qc : Nat) (k0 e0 : Int), n + j = 2001 → MS MA k l.1 l.2.1 l.2.2.1 l.2.2.2 → MI 6 = iO (R.length : Int) → (∀ (t : Nat) (x : Int), R[t]? = some x → MA 12 t = iO x) → R.length < n → qc < n → 2 ≤ n → CST (PS l) x1 y1 x2 y2 qp qc → RL (PS l) f rest x1 y1 x2 y2 → (∀ q ∈ rest, 1 ≤ q) → f ≤ 19 → fbn (19 - f) ≤ qp → fbn (20 - f) ≤ (qc : Int) → DIST (PS l) qc (e0 * (qc : Int)) (e0 * k0) → PS l (x2 - e0 * (qc : Int)) (y2 - e0 * k0) → 0 ≤ k0 → k0 ≤ 40001 → (e0 = -1 ∨ e0 = 0 ∨ e0 = 1) → (∀ a r, rest = a :: r → (n : Int) ≤ a * (qc : Int) + qp ∧ (qc : Int) < a * (qc : Int) + qp) →
    ∃ MI' MA', b_X12_nearersOf_1 sc (d + 3) 26 (iO (k : Int)) (lO (qc : Int)) (lO k0) (iO e0) (iO (n : Int)) (hp XI XA XP XC MI MA ML D) = some (none, hp XI XA XP XC MI' MA' ML D) ∧ MI' 6 = iO ((R ++ lls2 rest qp (qc : Int)).length : Int) ∧ (∀ (t : Nat) (x : Int), (R ++ lls2 rest qp (qc : Int))[t]? = some x → MA' 12 t = iO x) ∧ (∀ s, s ≠ 6 → MI' s = MI s) ∧ (∀ m, m ≠ 12 → MA' m = MA m) := by
  have hO := PS_ord hS
  intro j
  induction j with
  | zero =>
    intro n MI MA R rest f x1 y1 x2 y2 qp qc k0 e0 hn hM h6 h12 hR hqc hn2 hC hL hq hf hf1 hf2 hd hp0 b1 b2 b3 hnx
    have hnil : lls2 rest qp (qc : Int) = [] := by
      cases rest with
      | nil => rfl
      | cons a r =>
        have := (hnx a r rfl).1
        rw [lls2, if_pos (by omega)]
    rw [hnil, List.append_nil]
    refine ⟨MI, MA, ?_, h6, h12, fun _ _ => rfl, fun _ _ => rfl⟩
    rw [eb_X12_nearersOf_1, if_pos (show 2000 < iO (n : Int) from plt (a := 2000) (b := (n : Int)) (by unfold i32; omega) (by unfold i32; omega) (by omega))]
  | succ j ih =>
    intro n MI MA R rest f x1 y1 x2 y2 qp qc k0 e0 hn hM h6 h12 hR hqc hn2 hC hL hq hf hf1 hf2 hd hp0 b1 b2 b3 hnx
    obtain ⟨kk, e, g1, g2, g3, g4, g5, g6⟩ := m_near_step (sc := sc) (d := d) (XI := XI) (XA := XA) (XP := XP) (XC := XC) (ML := ML) (D := D) hk hM hS (n := n) (by omega) (by omega) (n0 := (qc : Int)) (k0 := k0) (e0 := e0) (by omega) (by omega) b1 b2 b3 (r := R.length) h6 (by omega)
    have skip : PS l (e * (n : Int) - e0 * (qc : Int)) (e * kk - e0 * k0) → (∀ a r, rest = a :: r → ((n + 1 : Nat) : Int) ≤ a * (qc : Int) + qp ∧ (qc : Int) < a * (qc : Int) + qp) → ∃ MI' MA', b_X12_nearersOf_1 sc (d + 3) 26 (iO (k : Int)) (lO (qc : Int)) (lO k0) (iO e0) (iO (n : Int)) (hp XI XA XP XC MI MA ML D) = some (none, hp XI XA XP XC MI' MA' ML D) ∧ MI' 6 = iO ((R ++ lls2 rest qp (qc : Int)).length : Int) ∧ (∀ (t : Nat) (x : Int), (R ++ lls2 rest qp (qc : Int))[t]? = some x → MA' 12 t = iO x) ∧ (∀ s, s ≠ 6 → MI' s = MI s) ∧ (∀ m, m ≠ 12 → MA' m = MA m) := by
      intro hP hnx'
      obtain ⟨MI', MA', k1, k2⟩ := ih (n + 1) MI MA R rest f x1 y1 x2 y2 qp qc k0 e0 (by omega) hM h6 h12 (by omega) (by omega) (by omega) hC hL hq hf hf1 hf2 hd hp0 b1 b2 b3 hnx'
      refine ⟨MI', MA', ?_, k2⟩
      rw [← k1]
      exact g6 ⟨by omega, hP⟩
    cases rest with
    | nil =>
      refine skip ?_ (fun a r h => by cases h)
      have hcur : PS l (-x2) (-y2) := by
        rcases RL_nil.1 hL with h | h
        · exfalso
          rw [h, fbn_20] at hf2
          omega
        · exact h
      have := hO.1 _ _ _ _ g1.1 (hO.1 _ _ _ _ hp0 hcur)
      rw [show e * (n : Int) + (x2 - e0 * (qc : Int) + -x2) = e * (n : Int) - e0 * (qc : Int) by omega, show e * kk + (y2 - e0 * k0 + -y2) = e * kk - e0 * k0 by omega] at this
      exact this
    | cons a r =>
      obtain ⟨n1, n2⟩ := hnx a r rfl
      have ha : 1 ≤ a := hq a (List.mem_cons_self ..)
      cases f with
      | zero => exact (show False from hL).elim
      | succ f =>
        obtain ⟨l1, l2, l3, l4⟩ := hL
        by_cases hlt : (n : Int) < a * (qc : Int) + qp
        · refine skip (near_not hO hC ha l1 l2 (by omega) hlt g1 hp0) (fun a' r' h => ?_)
          cases h
          exact ⟨by omega, n2⟩
        · have hne : (n : Int) = a * (qc : Int) + qp := by omega
          obtain ⟨m1, m2⟩ := near_yes hO hC ha l1 l2 l3 n2 hne g1 hd
          have hCn := hC.next ha l2
          rw [← hne] at hCn
          have hqp : 0 ≤ qp := hC.2.2.2.2.1
          have hqc1 : 1 ≤ (qc : Int) := hC.2.2.2.2.2
          have hfr : fbn (20 - f) ≤ (n : Int) := by
            rw [show 20 - f = (19 - (f + 1)) + 2 by omega]
            show fbn (19 - (f + 1) + 1) + fbn (19 - (f + 1)) ≤ _
            rw [show 19 - (f + 1) + 1 = 20 - (f + 1) by omega]
            have : (qc : Int) ≤ a * (qc : Int) := by
              have := Int.mul_le_mul_of_nonneg_right ha (show 0 ≤ (qc : Int) by omega)
              rwa [Int.one_mul] at this
            omega
          obtain ⟨MI', MA', k1, k2, k3, k4, k5⟩ := ih (n + 1) (va_up MI 6 (iO ((R.length : Int) + 1))) (va_up MA 12 (upd (MA 12) R.length (iO (n : Int)))) (R ++ [(n : Int)]) r f x2 y2 (x1 - a * x2) (y1 - a * y2) (qc : Int) n kk e (by omega) hM (by rw [List.length_append]; rfl) (by
            intro t x htx
            rw [w_eq rfl]
            rw [List.getElem?_append] at htx
            split at htx
            · rename_i hh
              rw [u_ne (by omega)]
              exact h12 t x htx
            · rename_i hh
              have ht : t = R.length := by
                have := (List.getElem?_eq_some_iff.mp htx).1
                simp at this
                omega
              subst ht
              rw [Nat.sub_self] at htx
              cases htx
              rw [u_eq rfl]) (by rw [List.length_append]; show R.length + 1 < n + 1; omega) (by omega) (by omega) hCn l4 (fun q hq' => hq q (List.mem_cons_of_mem _ hq')) (by omega) (by rw [show 19 - f = 20 - (f + 1) by omega]; exact hf2) hfr g1 m2 g2 g3 g4 (by
            intro a' r' h'
            have ha' : 1 ≤ a' := hq a' (by rw [h']; exact List.mem_cons_of_mem _ (List.mem_cons_self ..))
            have := Int.mul_le_mul_of_nonneg_right ha' (show 0 ≤ (n : Int) by omega)
            rw [Int.one_mul] at this
            omega)
          have hlist : R ++ lls2 (a :: r) qp (qc : Int) = R ++ [(n : Int)] ++ lls2 r (qc : Int) (n : Int) := by
            rw [lls2, ← hne, if_neg (by omega), if_neg (by omega), List.append_assoc]
            rfl
          rw [hlist]
          refine ⟨MI', MA', ?_, k2, k3, fun s hs => by rw [k4 s hs, w_ne hs], fun m hm => by rw [k5 m hm, w_ne hm]⟩
          rw [← k1]
          exact g5 (Or.inr m1)
theorem m_nearersOf (hk : k < 8) (hS : SL l.1 l.2.1 l.2.2.1 l.2.2.2) {MI : Nat → Int32} {MA : Nat → Nat → Int32} (hM : MS MA k l.1 l.2.1 l.2.2.1 l.2.2.2) : ∃ MI' MA', ∃ NL : List Int, f_X12_nearersOf sc (d + 4) 26 (iO (k : Int)) (hp XI XA XP XC MI MA ML D) = some (none, hp XI XA XP XC MI' MA' ML D) ∧ MI' 6 = iO (NL.length : Int) ∧ (∀ (t : Nat) (x : Int), NL[t]? = some x → MA' 12 t = iO x) ∧ (∀ s, s ≠ 6 → MI' s = MI s) ∧ (∀ m, m ≠ 12 → MA' m = MA m) ∧ NL.length ≤ 2001 ∧ (∀ (t : Nat) (x : Int), NL[t]? = some x ↔ (ll (qls l))[t]? = some x ∧ x ≤ 2000) := by
  have hO := PS_ord hS
  obtain ⟨hQB, hlen1, hlen2⟩ := qls_QB hS
  have hRL : RL (PS l) 20 (qls l) 1 0 0 (-1) := ql_RL (P := PS l) hS.dpos 20 l.1 l.2.1 l.2.2.1 1 0 0 (-1) hS.cpos (fun h => by obtain ⟨-, -, -, -, -, -, -, -, h1, -⟩ := hS; exact h1 h) (fun x y => by
    unfold PS
    rw [show x * 1 - y * 0 = x by omega, show x * 0 - y * -1 = y by omega, Int.mul_comm x l.1, Int.mul_comm x l.2.1]) (fun h => by
    have := (hO.2.2 1).mp h
    omega)
  have hll : ll (qls l) = 1 :: lls (qls l).tail 0 1 := rfl
  rw [hll]
  cases hqs : qls l with
  | nil => rw [hqs] at hlen1; simp at hlen1
  | cons a0 rest =>
    rw [hqs] at hRL hQB
    obtain ⟨r1, r2, r3, r4⟩ := hRL
    rw [show (1 : Int) - a0 * 0 = 1 by omega, show (0 : Int) - a0 * -1 = a0 by omega] at r2 r4
    have hq : ∀ q ∈ rest, 1 ≤ q := by
      intro q hq
      obtain ⟨i, hi⟩ := List.mem_iff_getElem?.mp hq
      exact (hQB (i + 1) q (by rw [List.getElem?_cons_succ]; exact hi)).2.2 (by omega)
    obtain ⟨kk, e, g1, g2, g3, g4, g5, -⟩ := m_near_step (sc := sc) (d := d) (XI := XI) (XA := XA) (XP := XP) (XC := XC) (ML := ML) (D := D) (MI := va_up MI 6 (iO 0)) hk hM hS (n := 1) (by omega) (by omega) (n0 := 0) (k0 := 0) (e0 := 0) (by omega) (by omega) (by omega) (by omega) (by omega) (r := 0) rfl (by omega)
    have g5 := g5 (Or.inl rfl)
    have st : f_X12_nearersOf sc (d + 4) 26 (iO (k : Int)) (hp XI XA XP XC MI MA ML D) = b_X12_nearersOf_1 sc (d + 3) 26 (iO (k : Int)) (lO ((1 : Nat) : Int)) (lO kk) (iO e) (iO ((2 : Nat) : Int)) (hp XI XA XP XC (va_up (va_up MI 6 (iO 0)) 6 (iO 1)) (va_up MA 12 (upd (MA 12) 0 (iO 1))) ML D) := by
      refine Eq.trans ?_ g5
      rw [e_X12_nearersOf, hp_p_26_21]
      rfl
    have hc0 : CST (PS l) 0 (-1) 1 a0 0 1 := ⟨(hO.2.2 (-1)).mpr (by omega), r2, Or.inl (by omega), Or.inr ⟨by omega, rfl⟩, by omega, by omega⟩
    have h12 : ∀ (t : Nat) (x : Int), ([1] : List Int)[t]? = some x → va_up MA 12 (upd (MA 12) 0 (iO 1)) 12 t = iO x := by
      intro t x h
      cases t with
      | zero => cases h; rfl
      | succ t => simp at h
    have hiff : ∀ (t : Nat) (x : Int), ((1 : Int) :: lls2 rest 0 1)[t]? = some x ↔ ((1 : Int) :: lls rest 0 1)[t]? = some x ∧ x ≤ 2000 := by
      intro t x
      cases t with
      | zero =>
        simp
        omega
      | succ t =>
        rw [List.getElem?_cons_succ, List.getElem?_cons_succ]
        exact lls2_iff rest 0 1 t x hq (by omega) (by omega)
    have hbd : ∀ (r : List Int) (b c : Int), (lls2 r b c).length ≤ r.length := by
      intro r
      induction r with
      | nil => intro b c; exact Nat.le_refl _
      | cons q r ih =>
        intro b c
        rw [lls2]
        split
        · simp
        · split
          · have := ih c (q * c + b); simp; omega
          · have := ih c (q * c + b); simp; omega
    have hlr : rest.length ≤ 19 := by rw [hqs] at hlen2; simp at hlen2; omega
    show ∃ MI' MA', ∃ NL : List Int, _ ∧ _ ∧ _ ∧ _ ∧ _ ∧ _ ∧ ∀ (t : Nat) (x : Int), NL[t]? = some x ↔ ((1 : Int) :: lls rest 0 1)[t]? = some x ∧ x ≤ 2000
    by_cases hone : ∃ r, rest = 1 :: r
    · obtain ⟨r, rfl⟩ := hone
      obtain ⟨q1, q2, q3, q4⟩ := r4
      have hc1 := hc0.next (a := 1) (by omega) q2
      rw [show (1 : Int) * 1 + 0 = ((1 : Nat) : Int) by omega] at hc1
      obtain ⟨MI', MA', k1, k2, k3, k4, k5⟩ := m_near_loop (sc := sc) (d := d) (XI := XI) (XA := XA) (XP := XP) (XC := XC) (ML := ML) (D := D) hk hS 1999 2 (va_up (va_up MI 6 (iO 0)) 6 (iO 1)) (va_up MA 12 (upd (MA 12) 0 (iO 1))) [1] r 18 1 a0 (0 - 1 * 1) (-1 - 1 * a0) 1 1 kk e (by omega) hM rfl h12 (by simp) (by omega) (by omega) hc1 q4 (fun q h => hq q (List.mem_cons_of_mem _ h)) (by omega) (by show fbn 1 ≤ 1; decide) (by show fbn 2 ≤ 1; decide) g1 (g1.2.2 _ _ (by omega) q2) g2 g3 g4 (by
        intro a r' h
        have := hq a (by rw [h]; exact List.mem_cons_of_mem _ (List.mem_cons_self ..))
        omega)
      have hl2 : lls2 (1 :: r) 0 1 = lls2 r 1 1 := by
        rw [lls2, if_neg (by omega), if_pos (by omega)]
        rfl
      refine ⟨MI', MA', [1] ++ lls2 r 1 ((1 : Nat) : Int), st.trans k1, k2, k3, fun s hs => by rw [k4 s hs, w_ne hs, w_ne hs], fun m hm => by rw [k5 m hm, w_ne hm], ?_, ?_⟩
      · have := hbd r 1 1
        simp at hlr ⊢
        omega
      · intro t x
        rw [← hiff, hl2]
        rfl
    · obtain ⟨MI', MA', k1, k2, k3, k4, k5⟩ := m_near_loop (sc := sc) (d := d) (XI := XI) (XA := XA) (XP := XP) (XC := XC) (ML := ML) (D := D) hk hS 1999 2 (va_up (va_up MI 6 (iO 0)) 6 (iO 1)) (va_up MA 12 (upd (MA 12) 0 (iO 1))) [1] rest 19 0 (-1) 1 a0 0 1 kk e (by omega) hM rfl h12 (by simp) (by omega) (by omega) hc0 r4 hq (by omega) (by show fbn 0 ≤ 0; decide) (by show fbn 1 ≤ 1; decide) g1 (g1.2.2 _ _ (by omega) r2) g2 g3 g4 (by
        intro a r' h
        have h1 := hq a (by rw [h]; exact List.mem_cons_self ..)
        have h2 : a ≠ 1 := fun q => hone ⟨r', by rw [h, q]⟩
        omega)
      refine ⟨MI', MA', [1] ++ lls2 rest 0 ((1 : Nat) : Int), st.trans k1, k2, k3, fun s hs => by rw [k4 s hs, w_ne hs, w_ne hs], fun m hm => by rw [k5 m hm, w_ne hm], ?_, ?_⟩
      · have := hbd rest 0 1
        simp
        omega
      · intro t x
        rw [← hiff]
        rfl
end NRL
section NRC
variable {sc : en_S} {n : Nat} {S : ST5}
theorem mc_nearer (hS : OK5 S) {s i : Int} (hs : i32 s) (hi : i32 i) : MC S S (p_nearer S s i) (fun z => f_X12_nearer sc (n + 40) 26 (iO s) (iO i) z) := by
  obtain ⟨i1, i2⟩ := id hi
  have h8 := hS.1
  unfold p_nearer p_line
  cases hq : slq S s with
  | none =>
    dsimp only
    rw [if_pos (by decide)]
    apply mc_ask
    intro XI XA XP XC MI MA ML D hV
    have := slq_none hq
    show f_X12_nearer sc (n + 40) 26 (iO s) (iO i) _ = _
    rw [e_X12_nearer, hp_cc_26, if_pos rfl, e_misSlope hV hS hs, if_neg (by omega)]
    rfl
  | some l =>
    obtain ⟨k, rfl, hk, hq1'⟩ := slq_some hq
    have hSl := hS.2.2.1 l (List.mem_of_getElem? hq1')
    dsimp only
    by_cases gi : 0 ≤ i
    · intro XI XA XP XC MI MA ML D hV hP
      have hM := hV.2.2.2.2.1 k l hq1'
      obtain ⟨MI', MA', NL, f1, f2, f3, f4, f5, f6, f7⟩ := m_nearersOf (sc := sc) (d := n + 35) (XI := XI) (XA := XA) (XP := XP) (XC := XC) (ML := ML) (D := D) (MI := MI) (k := k) (by omega) hSl hM
      refine ⟨MI', MA', ML, ?_, hV.scr (fun i hi => f4 i (by omega)) (fun i hi => f5 i (by omega)), pv_of hP (f4 8 (by decide)) (f5 21 (by decide))⟩
      show f_X12_nearer sc (n + 40) 26 (iO (k : Int)) (iO i) _ = _
      obtain ⟨v, rfl⟩ : ∃ v : Nat, i = v := ⟨i.toNat, by omega⟩
      rw [e_X12_nearer, hp_cc_26, if_pos rfl, e_misSlope hV hS hs, if_pos (by omega), bI_s, if_neg (show ¬ iO 1 = 0 by decide), if_pos (show 0 ≤ iO (v : Int) from ple (a := 0) (b := (v : Int)) (by unfold i32; omega) hi (by omega)), hp_cc_26, if_pos rfl, f1, bV_s, hp_g_26_21, f2]
      rw [Int.toNat_natCast]
      by_cases hv : v < NL.length
      · obtain ⟨x, hx⟩ : ∃ x, NL[v]? = some x := ⟨_, List.getElem?_eq_getElem hv⟩
        obtain ⟨x1, x2⟩ := (f7 v x).mp hx
        have x3 := f3 v x hx
        have hlen : v < (ll (qls l)).length := (List.getElem?_eq_some_iff.mp x1).1
        rw [if_neg (nle (a := (NL.length : Int)) (b := (v : Int)) (by unfold i32; omega) hi (by omega)), hp_g_26_20, hp_a_41, if_pos ((iO_ix hi).mpr (by omega)), iO_nat (by omega) hi, Int.toNat_natCast, x3, if_pos (show 0 ≤ (v : Int) ∧ (v : Int) < ((ll (qls l)).length : Nat) by omega), List.getD_eq_getElem?_getD, x1]
        show _ = some (some (Value.int (iO (if x ≤ 2000 then x else -1))), _)
        rw [if_pos x2]
      · rw [if_pos (ple (a := (NL.length : Int)) (b := (v : Int)) (by unfold i32; omega) hi (by omega))]
        by_cases hlen : v < (ll (qls l)).length
        · obtain ⟨x, hx⟩ : ∃ x, (ll (qls l))[v]? = some x := ⟨_, List.getElem?_eq_getElem hlen⟩
          have hgt : ¬ x ≤ 2000 := fun h => by
            have := (f7 v x).mpr ⟨hx, h⟩
            exact hv (List.getElem?_eq_some_iff.mp this).1
          rw [if_pos (show 0 ≤ (v : Int) ∧ (v : Int) < ((ll (qls l)).length : Nat) by omega), List.getD_eq_getElem?_getD, hx]
          show _ = some (some (Value.int (iO (if x ≤ 2000 then x else -1))), _)
          rw [if_neg hgt]
          rfl
        · rw [if_neg (show ¬ (0 ≤ (v : Int) ∧ (v : Int) < ((ll (qls l)).length : Nat)) by omega), if_pos (show (-1 : Int) ≤ 2000 by decide)]
          rfl
    · rw [if_neg (show ¬ (0 ≤ i ∧ i < ((ll (qls l)).length : Nat)) by omega), if_pos (by decide)]
      apply mc_ask
      intro XI XA XP XC MI MA ML D hV
      show f_X12_nearer sc (n + 40) 26 (iO (k : Int)) (iO i) _ = _
      rw [e_X12_nearer, hp_cc_26, if_pos rfl, e_misSlope hV hS hs, if_pos (by omega), bI_s, if_neg (show ¬ iO 1 = 0 by decide), if_neg (show ¬ 0 ≤ iO i from nle (a := 0) (b := i) (by unfold i32; omega) hi (by omega))]
      rfl
end NRC
