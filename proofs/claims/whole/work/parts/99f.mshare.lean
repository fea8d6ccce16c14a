/-! share: the model -/
section SHM
variable {sc : en_S} {n : Nat} {XI : Nat → Int32} {XA : Nat → Nat → Int32} {XP : Nat → Nat → Option Nat} {XC : Value} {MI : Nat → Int32} {MA : Nat → Nat → Int32} {ML : Nat → Nat → Int64} {D : en_H} {k k' : Nat} {l m : SL4}
theorem m_areOne (hk : k < 8) (hk' : k' < 8) (hM : MS MA k l.1 l.2.1 l.2.2.1 l.2.2.2) (hM' : MS MA k' m.1 m.2.1 m.2.2.1 m.2.2.2) (hS : SL l.1 l.2.1 l.2.2.1 l.2.2.2) (hS' : SL m.1 m.2.1 m.2.2.1 m.2.2.2) : ∃ w : Int, (w = 1 ↔ oneP l m) ∧ (w = 0 ∨ w = 1) ∧ f_X12_areOne sc (n + 1) 26 (iO (k : Int)) (iO (k' : Int)) (hp XI XA XP XC MI MA ML D) = some (some (.int (iO w)), hp XI XA XP XC MI MA ML D) := by
  obtain ⟨a, b, c, d⟩ := l
  obtain ⟨a', b', c', d'⟩ := m
  obtain ⟨m0, m1, m2, m3⟩ := hM
  obtain ⟨n0, n1, n2, n3⟩ := hM'
  obtain ⟨x1, x2, x3, x4, x5, x6, x7, x8, -⟩ := hS
  obtain ⟨y1, y2, y3, y4, y5, y6, y7, y8, -⟩ := hS'
  dsimp only at *
  have pr : ∀ (x y : Int), -2000 ≤ x → x ≤ 2000 → -2000 ≤ y → y ≤ 2000 → -12000000 ≤ x * y ∧ x * y ≤ 12000000 := by
    intro x y a1 a2 a3 a4
    have := mul_bd (x := x) (y := y + 2000) (a := 2000) (b := 4000) (by omega) (by omega) (by omega) (by omega)
    rw [Int.mul_add] at this
    omega
  have q1 := sq_bd (x := a - c) (K := 1100) (by omega) (by omega)
  have q2 := sq_bd (x := b) (K := 20) (by omega) (by omega)
  have q3 := mul_bd (x := b * b) (y := d) (a := 400) (b := 50) (by omega) (by omega) (by omega) (by omega)
  have q4 := pr a (a - c) (by omega) (by omega) (by omega) (by omega)
  have hN : -20000 ≤ (a - c) * (a - c) - b * b * d ∧ (a - c) * (a - c) - b * b * d ≤ 1230000 := by omega
  have hU : -12020000 ≤ a * (a - c) - b * b * d ∧ a * (a - c) - b * b * d ≤ 12020000 := by omega
  have u1 := mul_bd (x := a * (a - c) - b * b * d) (y := c') (a := 12020000) (b := 100) (by omega) (by omega) (by omega) (by omega)
  have u2 := mul_bd (x := (a - c) * (a - c) - b * b * d) (y := a' + 1000) (a := 1230000) (b := 2000) (by omega) (by omega) (by omega) (by omega)
  rw [Int.mul_add] at u2
  have u3 : a' * ((a - c) * (a - c) - b * b * d) = ((a - c) * (a - c) - b * b * d) * a' := Int.mul_comm _ _
  have v1 := mul_bd (x := -b) (y := c) (a := 20) (b := 100) (by omega) (by omega) (by omega) (by omega)
  have v2 := sq_bd (x := -b * c) (K := 2000) (by omega) (by omega)
  have v3 := mul_bd (x := -b * c * (-b * c)) (y := d) (a := 4000000) (b := 50) (by omega) (by omega) (by omega) (by omega)
  have v4 := mul_bd (x := -b * c * (-b * c) * d) (y := c') (a := 200000000) (b := 100) (by omega) (by omega) (by omega) (by omega)
  have v5 := mul_bd (x := -b * c * (-b * c) * d * c') (y := c') (a := 20000000000) (b := 100) (by omega) (by omega) (by omega) (by omega)
  have w1 := sq_bd (x := b') (K := 20) (by omega) (by omega)
  have w2 := mul_bd (x := b' * b') (y := d') (a := 400) (b := 50) (by omega) (by omega) (by omega) (by omega)
  have w3 := mul_bd (x := b' * b' * d') (y := (a - c) * (a - c) - b * b * d + 20000) (a := 20000) (b := 1250000) (by omega) (by omega) (by omega) (by omega)
  rw [Int.mul_add] at w3
  have w4 := mul_bd (x := b' * b' * d' * ((a - c) * (a - c) - b * b * d)) (y := (a - c) * (a - c) - b * b * d + 20000) (a := 26000000000) (b := 1250000) (by omega) (by omega) (by omega) (by omega)
  rw [Int.mul_add] at w4
  rw [e_X12_areOne]
  unfold oneP
  show ∃ w : Int, (w = 1 ↔ (b ≠ 0 ∧ b' ≠ 0 ∧ (a * (a - c) - b * b * d) * c' = a' * ((a - c) * (a - c) - b * b * d) ∧ ((0 < -b * c ↔ 0 < (a - c) * (a - c) - b * b * d) ↔ 0 < b') ∧ -b * c * (-b * c) * d * c' * c' = b' * b' * d' * ((a - c) * (a - c) - b * b * d) * ((a - c) * (a - c) - b * b * d))) ∧ _
  by_cases g1 : b = 0
  · refine ⟨0, ⟨fun h => by omega, fun h => absurd g1 h.1⟩, Or.inl rfl, ?_⟩
    clear u1 u2 u3 v1 v2 v3 v4 v5 w1 w2 w3 w4 hN hU q1 q2 q3 q4 pr
    simp (disch := (first | assumption | (unfold i32; omega) | (unfold i64; omega) | omega)) only [↓reduceIte, ki_0, ki_1, ki_2, ki_3, ki_4, ki_5, ki_6, ki_7, ki_8, ki_9, ki_10, ki_11, ki_12, ki_13, ki_14, ki_15, ki_20, ki_21, ki_30, ki_31, ki_40, ki_41, ki_50, ki_51, ki_60, ki_63, ki_64, ki_65, ki_100, ki_158, ki_160, ki_200, ki_212, ki_1000, ki_2000, ki_2001, ki_5000, ki_10000, ki_10001, ki_100000, ki_200000, ki_1000000, ki_2000000, ki_3000000, iO_neg, iO_add, iO_sub, iO_mul, kn_4, kn_8, kn_10, kn_20, kn_24, kn_40, kn_41, kn_50, kn_60, kn_158, kn_160, kn_200, kn_212, kn_2001, tn_lt, fn_lt, tn_le, fn_le, tn_eq, fn_eq, x_lt, x_le, x_eq, x_ix, x_nat, t_lt, f_lt, t_le, f_le, t_eq, f_eq, eq_self, and_self, true_and, and_true, false_and, and_false, if_true, if_false, Int.toNat_natCast, bI_s, bL_s, bA_s, bA_n, bV_s, mq_s, mq_n, en_le, bl_0, bl_1, u_eq, u_ne, w_eq, w_ne, v_eq, v_ne, ↓hp_cc_26, ↓hp_g_26_0, ↓hp_p_26_0, ↓hp_g_26_1, ↓hp_p_26_1, ↓hp_g_26_2, ↓hp_p_26_2, ↓hp_g_26_3, ↓hp_g_26_4, ↓hp_g_26_5, ↓hp_g_26_6, ↓hp_g_26_7, ↓hp_g_26_8, ↓hp_g_26_9, ↓hp_g_26_10, ↓hp_g_26_11, ↓hp_g_26_12, ↓hp_g_26_13, ↓hp_g_26_14, ↓hp_g_26_15, ↓hp_p_26_15, ↓hp_g_26_16, ↓hp_g_26_17, ↓hp_g_26_18, ↓hp_p_26_18, ↓hp_g_26_19, ↓hp_p_26_19, ↓hp_g_26_20, ↓hp_g_26_21, ↓hp_p_26_21, ↓hp_g_26_22, ↓hp_g_26_23, ↓hp_g_26_24, ↓hp_g_26_25, ↓hp_g_26_26, ↓hp_g_26_27, ↓hp_g_26_28, ↓hp_g_26_29, ↓hp_g_26_30, ↓hp_p_26_30, ↓hp_g_26_31, ↓hp_g_26_32, ↓hp_p_26_32, ↓hp_a_27, ↓hp_s_27, ↓hp_l_27, ↓hp_a_28, ↓hp_s_28, ↓hp_l_28, ↓hp_a_29, ↓hp_s_29, ↓hp_l_29, ↓hp_a_30, ↓hp_s_30, ↓hp_l_30, ↓hp_a_31, ↓hp_s_31, ↓hp_l_31, ↓hp_a_32, ↓hp_s_32, ↓hp_l_32, ↓hp_a_33, ↓hp_s_33, ↓hp_l_33, ↓hp_a_34, ↓hp_s_34, ↓hp_l_34, ↓hp_a_35, ↓hp_s_35, ↓hp_l_35, ↓hp_a_36, ↓hp_s_36, ↓hp_l_36, ↓hp_a_37, ↓hp_s_37, ↓hp_l_37, ↓hp_a_38, ↓hp_s_38, ↓hp_l_38, ↓hp_a_39, ↓hp_s_39, ↓hp_a_40, ↓hp_s_40, ↓hp_a_41, ↓hp_s_41, ↓hp_l_41, ↓hp_a_42, ↓hp_s_42, ↓hp_l_42, ↓hp_a_43, ↓hp_s_43, ↓hp_l_43, ↓hp_a_44, ↓hp_s_44, ↓hp_l_44, ↓hp_a_45, ↓hp_s_45, ↓hp_l_45, ↓hp_a_46, ↓hp_s_46, ↓hp_l_46, ↓hp_a_47, ↓hp_s_47, ↓hp_l_47, ↓hp_a_48, ↓hp_s_48, ↓hp_l_48, ↓hp_a_49, ↓hp_s_49, ↓hp_l_49, ↓hp_a_50, ↓hp_s_50, ↓hp_l_50, m1]
  by_cases g2 : b' = 0
  · refine ⟨0, ⟨fun h => by omega, fun h => absurd g2 h.2.1⟩, Or.inl rfl, ?_⟩
    clear u1 u2 u3 v1 v2 v3 v4 v5 w1 w2 w3 w4 hN hU q1 q2 q3 q4 pr
    simp (disch := (first | assumption | (unfold i32; omega) | (unfold i64; omega) | omega)) only [↓reduceIte, ki_0, ki_1, ki_2, ki_3, ki_4, ki_5, ki_6, ki_7, ki_8, ki_9, ki_10, ki_11, ki_12, ki_13, ki_14, ki_15, ki_20, ki_21, ki_30, ki_31, ki_40, ki_41, ki_50, ki_51, ki_60, ki_63, ki_64, ki_65, ki_100, ki_158, ki_160, ki_200, ki_212, ki_1000, ki_2000, ki_2001, ki_5000, ki_10000, ki_10001, ki_100000, ki_200000, ki_1000000, ki_2000000, ki_3000000, iO_neg, iO_add, iO_sub, iO_mul, kn_4, kn_8, kn_10, kn_20, kn_24, kn_40, kn_41, kn_50, kn_60, kn_158, kn_160, kn_200, kn_212, kn_2001, tn_lt, fn_lt, tn_le, fn_le, tn_eq, fn_eq, x_lt, x_le, x_eq, x_ix, x_nat, t_lt, f_lt, t_le, f_le, t_eq, f_eq, eq_self, and_self, true_and, and_true, false_and, and_false, if_true, if_false, Int.toNat_natCast, bI_s, bL_s, bA_s, bA_n, bV_s, mq_s, mq_n, en_le, bl_0, bl_1, u_eq, u_ne, w_eq, w_ne, v_eq, v_ne, ↓hp_cc_26, ↓hp_g_26_0, ↓hp_p_26_0, ↓hp_g_26_1, ↓hp_p_26_1, ↓hp_g_26_2, ↓hp_p_26_2, ↓hp_g_26_3, ↓hp_g_26_4, ↓hp_g_26_5, ↓hp_g_26_6, ↓hp_g_26_7, ↓hp_g_26_8, ↓hp_g_26_9, ↓hp_g_26_10, ↓hp_g_26_11, ↓hp_g_26_12, ↓hp_g_26_13, ↓hp_g_26_14, ↓hp_g_26_15, ↓hp_p_26_15, ↓hp_g_26_16, ↓hp_g_26_17, ↓hp_g_26_18, ↓hp_p_26_18, ↓hp_g_26_19, ↓hp_p_26_19, ↓hp_g_26_20, ↓hp_g_26_21, ↓hp_p_26_21, ↓hp_g_26_22, ↓hp_g_26_23, ↓hp_g_26_24, ↓hp_g_26_25, ↓hp_g_26_26, ↓hp_g_26_27, ↓hp_g_26_28, ↓hp_g_26_29, ↓hp_g_26_30, ↓hp_p_26_30, ↓hp_g_26_31, ↓hp_g_26_32, ↓hp_p_26_32, ↓hp_a_27, ↓hp_s_27, ↓hp_l_27, ↓hp_a_28, ↓hp_s_28, ↓hp_l_28, ↓hp_a_29, ↓hp_s_29, ↓hp_l_29, ↓hp_a_30, ↓hp_s_30, ↓hp_l_30, ↓hp_a_31, ↓hp_s_31, ↓hp_l_31, ↓hp_a_32, ↓hp_s_32, ↓hp_l_32, ↓hp_a_33, ↓hp_s_33, ↓hp_l_33, ↓hp_a_34, ↓hp_s_34, ↓hp_l_34, ↓hp_a_35, ↓hp_s_35, ↓hp_l_35, ↓hp_a_36, ↓hp_s_36, ↓hp_l_36, ↓hp_a_37, ↓hp_s_37, ↓hp_l_37, ↓hp_a_38, ↓hp_s_38, ↓hp_l_38, ↓hp_a_39, ↓hp_s_39, ↓hp_a_40, ↓hp_s_40, ↓hp_a_41, ↓hp_s_41, ↓hp_l_41, ↓hp_a_42, ↓hp_s_42, ↓hp_l_42, ↓hp_a_43, ↓hp_s_43, ↓hp_l_43, ↓hp_a_44, ↓hp_s_44, ↓hp_l_44, ↓hp_a_45, ↓hp_s_45, ↓hp_l_45, ↓hp_a_46, ↓hp_s_46, ↓hp_l_46, ↓hp_a_47, ↓hp_s_47, ↓hp_l_47, ↓hp_a_48, ↓hp_s_48, ↓hp_l_48, ↓hp_a_49, ↓hp_s_49, ↓hp_l_49, ↓hp_a_50, ↓hp_s_50, ↓hp_l_50, m1, n1]
  have huI : i64 ((a * (a - c) - b * b * d) * c') := by unfold i64; omega
  have huJ : i64 (a' * ((a - c) * (a - c) - b * b * d)) := by unfold i64; omega
  have hvI : i64 (-b * c * (-b * c) * d * c' * c') := by unfold i64; omega
  have hvJ : i64 (b' * b' * d' * ((a - c) * (a - c) - b * b * d) * ((a - c) * (a - c) - b * b * d)) := by unfold i64; omega
  have hmI : i64 (-b * c) := by unfold i64; omega
  have hnI : i64 ((a - c) * (a - c) - b * b * d) := by unfold i64; omega
  have hm0 : -b * c ≠ 0 := fun h => by rcases Int.mul_eq_zero.mp h with z | z <;> omega
  clear u1 u2 u3 v1 v2 v3 v4 v5 w1 w2 w3 w4 q1 q2 q3 q4 pr hN hU
  by_cases g3 : (a * (a - c) - b * b * d) * c' = a' * ((a - c) * (a - c) - b * b * d)
  · by_cases g5 : -b * c * (-b * c) * d * c' * c' = b' * b' * d' * ((a - c) * (a - c) - b * b * d) * ((a - c) * (a - c) - b * b * d)
    · rcases Int.lt_or_le 0 (-b * c) with hM | hM
      · skip
        rcases Int.lt_or_le 0 ((a - c) * (a - c) - b * b * d) with hN | hN
        · skip
          rcases Int.lt_or_le 0 (b') with hB | hB
          · skip
            refine ⟨1, ⟨fun _ => ⟨g1, g2, g3, by omega, g5⟩, fun _ => rfl⟩, Or.inr rfl, ?_⟩
            simp (disch := (first | assumption | (unfold i32; omega) | (unfold i64; omega) | omega)) only [↓reduceIte, ki_0, ki_1, ki_2, ki_3, ki_4, ki_5, ki_6, ki_7, ki_8, ki_9, ki_10, ki_11, ki_12, ki_13, ki_14, ki_15, ki_20, ki_21, ki_30, ki_31, ki_40, ki_41, ki_50, ki_51, ki_60, ki_63, ki_64, ki_65, ki_100, ki_158, ki_160, ki_200, ki_212, ki_1000, ki_2000, ki_2001, ki_5000, ki_10000, ki_10001, ki_100000, ki_200000, ki_1000000, ki_2000000, ki_3000000, iO_neg, iO_add, iO_sub, iO_mul, kn_4, kn_8, kn_10, kn_20, kn_24, kn_40, kn_41, kn_50, kn_60, kn_158, kn_160, kn_200, kn_212, kn_2001, tn_lt, fn_lt, tn_le, fn_le, tn_eq, fn_eq, x_lt, x_le, x_eq, x_ix, x_nat, t_lt, f_lt, t_le, f_le, t_eq, f_eq, eq_self, and_self, true_and, and_true, false_and, and_false, if_true, if_false, Int.toNat_natCast, bI_s, bL_s, bA_s, bA_n, bV_s, mq_s, mq_n, en_le, bl_0, bl_1, u_eq, u_ne, w_eq, w_ne, v_eq, v_ne, ↓hp_cc_26, ↓hp_g_26_0, ↓hp_p_26_0, ↓hp_g_26_1, ↓hp_p_26_1, ↓hp_g_26_2, ↓hp_p_26_2, ↓hp_g_26_3, ↓hp_g_26_4, ↓hp_g_26_5, ↓hp_g_26_6, ↓hp_g_26_7, ↓hp_g_26_8, ↓hp_g_26_9, ↓hp_g_26_10, ↓hp_g_26_11, ↓hp_g_26_12, ↓hp_g_26_13, ↓hp_g_26_14, ↓hp_g_26_15, ↓hp_p_26_15, ↓hp_g_26_16, ↓hp_g_26_17, ↓hp_g_26_18, ↓hp_p_26_18, ↓hp_g_26_19, ↓hp_p_26_19, ↓hp_g_26_20, ↓hp_g_26_21, ↓hp_p_26_21, ↓hp_g_26_22, ↓hp_g_26_23, ↓hp_g_26_24, ↓hp_g_26_25, ↓hp_g_26_26, ↓hp_g_26_27, ↓hp_g_26_28, ↓hp_g_26_29, ↓hp_g_26_30, ↓hp_p_26_30, ↓hp_g_26_31, ↓hp_g_26_32, ↓hp_p_26_32, ↓hp_a_27, ↓hp_s_27, ↓hp_l_27, ↓hp_a_28, ↓hp_s_28, ↓hp_l_28, ↓hp_a_29, ↓hp_s_29, ↓hp_l_29, ↓hp_a_30, ↓hp_s_30, ↓hp_l_30, ↓hp_a_31, ↓hp_s_31, ↓hp_l_31, ↓hp_a_32, ↓hp_s_32, ↓hp_l_32, ↓hp_a_33, ↓hp_s_33, ↓hp_l_33, ↓hp_a_34, ↓hp_s_34, ↓hp_l_34, ↓hp_a_35, ↓hp_s_35, ↓hp_l_35, ↓hp_a_36, ↓hp_s_36, ↓hp_l_36, ↓hp_a_37, ↓hp_s_37, ↓hp_l_37, ↓hp_a_38, ↓hp_s_38, ↓hp_l_38, ↓hp_a_39, ↓hp_s_39, ↓hp_a_40, ↓hp_s_40, ↓hp_a_41, ↓hp_s_41, ↓hp_l_41, ↓hp_a_42, ↓hp_s_42, ↓hp_l_42, ↓hp_a_43, ↓hp_s_43, ↓hp_l_43, ↓hp_a_44, ↓hp_s_44, ↓hp_l_44, ↓hp_a_45, ↓hp_s_45, ↓hp_l_45, ↓hp_a_46, ↓hp_s_46, ↓hp_l_46, ↓hp_a_47, ↓hp_s_47, ↓hp_l_47, ↓hp_a_48, ↓hp_s_48, ↓hp_l_48, ↓hp_a_49, ↓hp_s_49, ↓hp_l_49, ↓hp_a_50, ↓hp_s_50, ↓hp_l_50, m0, m1, m2, m3, n0, n1, n2, n3, iO_wide, lO_sub, lO_mul, lO_neg, lO_add, kl_0, lc_lt, lc_le, lc_gt, lc_ge, lc_eq, y_lt, y_le, y_eq, eb_X12_areOne_7, eb_X12_areOne_11]
          · skip
            refine ⟨0, ⟨fun h => by omega, fun h => by have := h.2.2.2.1; omega⟩, Or.inl rfl, ?_⟩
            simp (disch := (first | assumption | (unfold i32; omega) | (unfold i64; omega) | omega)) only [↓reduceIte, ki_0, ki_1, ki_2, ki_3, ki_4, ki_5, ki_6, ki_7, ki_8, ki_9, ki_10, ki_11, ki_12, ki_13, ki_14, ki_15, ki_20, ki_21, ki_30, ki_31, ki_40, ki_41, ki_50, ki_51, ki_60, ki_63, ki_64, ki_65, ki_100, ki_158, ki_160, ki_200, ki_212, ki_1000, ki_2000, ki_2001, ki_5000, ki_10000, ki_10001, ki_100000, ki_200000, ki_1000000, ki_2000000, ki_3000000, iO_neg, iO_add, iO_sub, iO_mul, kn_4, kn_8, kn_10, kn_20, kn_24, kn_40, kn_41, kn_50, kn_60, kn_158, kn_160, kn_200, kn_212, kn_2001, tn_lt, fn_lt, tn_le, fn_le, tn_eq, fn_eq, x_lt, x_le, x_eq, x_ix, x_nat, t_lt, f_lt, t_le, f_le, t_eq, f_eq, eq_self, and_self, true_and, and_true, false_and, and_false, if_true, if_false, Int.toNat_natCast, bI_s, bL_s, bA_s, bA_n, bV_s, mq_s, mq_n, en_le, bl_0, bl_1, u_eq, u_ne, w_eq, w_ne, v_eq, v_ne, ↓hp_cc_26, ↓hp_g_26_0, ↓hp_p_26_0, ↓hp_g_26_1, ↓hp_p_26_1, ↓hp_g_26_2, ↓hp_p_26_2, ↓hp_g_26_3, ↓hp_g_26_4, ↓hp_g_26_5, ↓hp_g_26_6, ↓hp_g_26_7, ↓hp_g_26_8, ↓hp_g_26_9, ↓hp_g_26_10, ↓hp_g_26_11, ↓hp_g_26_12, ↓hp_g_26_13, ↓hp_g_26_14, ↓hp_g_26_15, ↓hp_p_26_15, ↓hp_g_26_16, ↓hp_g_26_17, ↓hp_g_26_18, ↓hp_p_26_18, ↓hp_g_26_19, ↓hp_p_26_19, ↓hp_g_26_20, ↓hp_g_26_21, ↓hp_p_26_21, ↓hp_g_26_22, ↓hp_g_26_23, ↓hp_g_26_24, ↓hp_g_26_25, ↓hp_g_26_26, ↓hp_g_26_27, ↓hp_g_26_28, ↓hp_g_26_29, ↓hp_g_26_30, ↓hp_p_26_30, ↓hp_g_26_31, ↓hp_g_26_32, ↓hp_p_26_32, ↓hp_a_27, ↓hp_s_27, ↓hp_l_27, ↓hp_a_28, ↓hp_s_28, ↓hp_l_28, ↓hp_a_29, ↓hp_s_29, ↓hp_l_29, ↓hp_a_30, ↓hp_s_30, ↓hp_l_30, ↓hp_a_31, ↓hp_s_31, ↓hp_l_31, ↓hp_a_32, ↓hp_s_32, ↓hp_l_32, ↓hp_a_33, ↓hp_s_33, ↓hp_l_33, ↓hp_a_34, ↓hp_s_34, ↓hp_l_34, ↓hp_a_35, ↓hp_s_35, ↓hp_l_35, ↓hp_a_36, ↓hp_s_36, ↓hp_l_36, ↓hp_a_37, ↓hp_s_37, ↓hp_l_37, ↓hp_a_38, ↓hp_s_38, ↓hp_l_38, ↓hp_a_39, ↓hp_s_39, ↓hp_a_40, ↓hp_s_40, ↓hp_a_41, ↓hp_s_41, ↓hp_l_41, ↓hp_a_42, ↓hp_s_42, ↓hp_l_42, ↓hp_a_43, ↓hp_s_43, ↓hp_l_43, ↓hp_a_44, ↓hp_s_44, ↓hp_l_44, ↓hp_a_45, ↓hp_s_45, ↓hp_l_45, ↓hp_a_46, ↓hp_s_46, ↓hp_l_46, ↓hp_a_47, ↓hp_s_47, ↓hp_l_47, ↓hp_a_48, ↓hp_s_48, ↓hp_l_48, ↓hp_a_49, ↓hp_s_49, ↓hp_l_49, ↓hp_a_50, ↓hp_s_50, ↓hp_l_50, m0, m1, m2, m3, n0, n1, n2, n3, iO_wide, lO_sub, lO_mul, lO_neg, lO_add, kl_0, lc_lt, lc_le, lc_gt, lc_ge, lc_eq, y_lt, y_le, y_eq, eb_X12_areOne_7, eb_X12_areOne_11]
        · skip
          rcases Int.lt_or_le 0 (b') with hB | hB
          · skip
            refine ⟨0, ⟨fun h => by omega, fun h => by have := h.2.2.2.1; omega⟩, Or.inl rfl, ?_⟩
            simp (disch := (first | assumption | (unfold i32; omega) | (unfold i64; omega) | omega)) only [↓reduceIte, ki_0, ki_1, ki_2, ki_3, ki_4, ki_5, ki_6, ki_7, ki_8, ki_9, ki_10, ki_11, ki_12, ki_13, ki_14, ki_15, ki_20, ki_21, ki_30, ki_31, ki_40, ki_41, ki_50, ki_51, ki_60, ki_63, ki_64, ki_65, ki_100, ki_158, ki_160, ki_200, ki_212, ki_1000, ki_2000, ki_2001, ki_5000, ki_10000, ki_10001, ki_100000, ki_200000, ki_1000000, ki_2000000, ki_3000000, iO_neg, iO_add, iO_sub, iO_mul, kn_4, kn_8, kn_10, kn_20, kn_24, kn_40, kn_41, kn_50, kn_60, kn_158, kn_160, kn_200, kn_212, kn_2001, tn_lt, fn_lt, tn_le, fn_le, tn_eq, fn_eq, x_lt, x_le, x_eq, x_ix, x_nat, t_lt, f_lt, t_le, f_le, t_eq, f_eq, eq_self, and_self, true_and, and_true, false_and, and_false, if_true, if_false, Int.toNat_natCast, bI_s, bL_s, bA_s, bA_n, bV_s, mq_s, mq_n, en_le, bl_0, bl_1, u_eq, u_ne, w_eq, w_ne, v_eq, v_ne, ↓hp_cc_26, ↓hp_g_26_0, ↓hp_p_26_0, ↓hp_g_26_1, ↓hp_p_26_1, ↓hp_g_26_2, ↓hp_p_26_2, ↓hp_g_26_3, ↓hp_g_26_4, ↓hp_g_26_5, ↓hp_g_26_6, ↓hp_g_26_7, ↓hp_g_26_8, ↓hp_g_26_9, ↓hp_g_26_10, ↓hp_g_26_11, ↓hp_g_26_12, ↓hp_g_26_13, ↓hp_g_26_14, ↓hp_g_26_15, ↓hp_p_26_15, ↓hp_g_26_16, ↓hp_g_26_17, ↓hp_g_26_18, ↓hp_p_26_18, ↓hp_g_26_19, ↓hp_p_26_19, ↓hp_g_26_20, ↓hp_g_26_21, ↓hp_p_26_21, ↓hp_g_26_22, ↓hp_g_26_23, ↓hp_g_26_24, ↓hp_g_26_25, ↓hp_g_26_26, ↓hp_g_26_27, ↓hp_g_26_28, ↓hp_g_26_29, ↓hp_g_26_30, ↓hp_p_26_30, ↓hp_g_26_31, ↓hp_g_26_32, ↓hp_p_26_32, ↓hp_a_27, ↓hp_s_27, ↓hp_l_27, ↓hp_a_28, ↓hp_s_28, ↓hp_l_28, ↓hp_a_29, ↓hp_s_29, ↓hp_l_29, ↓hp_a_30, ↓hp_s_30, ↓hp_l_30, ↓hp_a_31, ↓hp_s_31, ↓hp_l_31, ↓hp_a_32, ↓hp_s_32, ↓hp_l_32, ↓hp_a_33, ↓hp_s_33, ↓hp_l_33, ↓hp_a_34, ↓hp_s_34, ↓hp_l_34, ↓hp_a_35, ↓hp_s_35, ↓hp_l_35, ↓hp_a_36, ↓hp_s_36, ↓hp_l_36, ↓hp_a_37, ↓hp_s_37, ↓hp_l_37, ↓hp_a_38, ↓hp_s_38, ↓hp_l_38, ↓hp_a_39, ↓hp_s_39, ↓hp_a_40, ↓hp_s_40, ↓hp_a_41, ↓hp_s_41, ↓hp_l_41, ↓hp_a_42, ↓hp_s_42, ↓hp_l_42, ↓hp_a_43, ↓hp_s_43, ↓hp_l_43, ↓hp_a_44, ↓hp_s_44, ↓hp_l_44, ↓hp_a_45, ↓hp_s_45, ↓hp_l_45, ↓hp_a_46, ↓hp_s_46, ↓hp_l_46, ↓hp_a_47, ↓hp_s_47, ↓hp_l_47, ↓hp_a_48, ↓hp_s_48, ↓hp_l_48, ↓hp_a_49, ↓hp_s_49, ↓hp_l_49, ↓hp_a_50, ↓hp_s_50, ↓hp_l_50, m0, m1, m2, m3, n0, n1, n2, n3, iO_wide, lO_sub, lO_mul, lO_neg, lO_add, kl_0, lc_lt, lc_le, lc_gt, lc_ge, lc_eq, y_lt, y_le, y_eq, eb_X12_areOne_7, eb_X12_areOne_11]
          · skip
            refine ⟨1, ⟨fun _ => ⟨g1, g2, g3, by omega, g5⟩, fun _ => rfl⟩, Or.inr rfl, ?_⟩
            simp (disch := (first | assumption | (unfold i32; omega) | (unfold i64; omega) | omega)) only [↓reduceIte, ki_0, ki_1, ki_2, ki_3, ki_4, ki_5, ki_6, ki_7, ki_8, ki_9, ki_10, ki_11, ki_12, ki_13, ki_14, ki_15, ki_20, ki_21, ki_30, ki_31, ki_40, ki_41, ki_50, ki_51, ki_60, ki_63, ki_64, ki_65, ki_100, ki_158, ki_160, ki_200, ki_212, ki_1000, ki_2000, ki_2001, ki_5000, ki_10000, ki_10001, ki_100000, ki_200000, ki_1000000, ki_2000000, ki_3000000, iO_neg, iO_add, iO_sub, iO_mul, kn_4, kn_8, kn_10, kn_20, kn_24, kn_40, kn_41, kn_50, kn_60, kn_158, kn_160, kn_200, kn_212, kn_2001, tn_lt, fn_lt, tn_le, fn_le, tn_eq, fn_eq, x_lt, x_le, x_eq, x_ix, x_nat, t_lt, f_lt, t_le, f_le, t_eq, f_eq, eq_self, and_self, true_and, and_true, false_and, and_false, if_true, if_false, Int.toNat_natCast, bI_s, bL_s, bA_s, bA_n, bV_s, mq_s, mq_n, en_le, bl_0, bl_1, u_eq, u_ne, w_eq, w_ne, v_eq, v_ne, ↓hp_cc_26, ↓hp_g_26_0, ↓hp_p_26_0, ↓hp_g_26_1, ↓hp_p_26_1, ↓hp_g_26_2, ↓hp_p_26_2, ↓hp_g_26_3, ↓hp_g_26_4, ↓hp_g_26_5, ↓hp_g_26_6, ↓hp_g_26_7, ↓hp_g_26_8, ↓hp_g_26_9, ↓hp_g_26_10, ↓hp_g_26_11, ↓hp_g_26_12, ↓hp_g_26_13, ↓hp_g_26_14, ↓hp_g_26_15, ↓hp_p_26_15, ↓hp_g_26_16, ↓hp_g_26_17, ↓hp_g_26_18, ↓hp_p_26_18, ↓hp_g_26_19, ↓hp_p_26_19, ↓hp_g_26_20, ↓hp_g_26_21, ↓hp_p_26_21, ↓hp_g_26_22, ↓hp_g_26_23, ↓hp_g_26_24, ↓hp_g_26_25, ↓hp_g_26_26, ↓hp_g_26_27, ↓hp_g_26_28, ↓hp_g_26_29, ↓hp_g_26_30, ↓hp_p_26_30, ↓hp_g_26_31, ↓hp_g_26_32, ↓hp_p_26_32, ↓hp_a_27, ↓hp_s_27, ↓hp_l_27, ↓hp_a_28, ↓hp_s_28, ↓hp_l_28, ↓hp_a_29, ↓hp_s_29, ↓hp_l_29, ↓hp_a_30, ↓hp_s_30, ↓hp_l_30, ↓hp_a_31, ↓hp_s_31, ↓hp_l_31, ↓hp_a_32, ↓hp_s_32, ↓hp_l_32, ↓hp_a_33, ↓hp_s_33, ↓hp_l_33, ↓hp_a_34, ↓hp_s_34, ↓hp_l_34, ↓hp_a_35, ↓hp_s_35, ↓hp_l_35, ↓hp_a_36, ↓hp_s_36, ↓hp_l_36, ↓hp_a_37, ↓hp_s_37, ↓hp_l_37, ↓hp_a_38, ↓hp_s_38, ↓hp_l_38, ↓hp_a_39, ↓hp_s_39, ↓hp_a_40, ↓hp_s_40, ↓hp_a_41, ↓hp_s_41, ↓hp_l_41, ↓hp_a_42, ↓hp_s_42, ↓hp_l_42, ↓hp_a_43, ↓hp_s_43, ↓hp_l_43, ↓hp_a_44, ↓hp_s_44, ↓hp_l_44, ↓hp_a_45, ↓hp_s_45, ↓hp_l_45, ↓hp_a_46, ↓hp_s_46, ↓hp_l_46, ↓hp_a_47, ↓hp_s_47, ↓hp_l_47, ↓hp_a_48, ↓hp_s_48, ↓hp_l_48, ↓hp_a_49, ↓hp_s_49, ↓hp_l_49, ↓hp_a_50, ↓hp_s_50, ↓hp_l_50, m0, m1, m2, m3, n0, n1, n2, n3, iO_wide, lO_sub, lO_mul, lO_neg, lO_add, kl_0, lc_lt, lc_le, lc_gt, lc_ge, lc_eq, y_lt, y_le, y_eq, eb_X12_areOne_7, eb_X12_areOne_11]
      · skip
        rcases Int.lt_or_le 0 ((a - c) * (a - c) - b * b * d) with hN | hN
        · skip
          rcases Int.lt_or_le 0 (b') with hB | hB
          · skip
            refine ⟨0, ⟨fun h => by omega, fun h => by have := h.2.2.2.1; omega⟩, Or.inl rfl, ?_⟩
            simp (disch := (first | assumption | (unfold i32; omega) | (unfold i64; omega) | omega)) only [↓reduceIte, ki_0, ki_1, ki_2, ki_3, ki_4, ki_5, ki_6, ki_7, ki_8, ki_9, ki_10, ki_11, ki_12, ki_13, ki_14, ki_15, ki_20, ki_21, ki_30, ki_31, ki_40, ki_41, ki_50, ki_51, ki_60, ki_63, ki_64, ki_65, ki_100, ki_158, ki_160, ki_200, ki_212, ki_1000, ki_2000, ki_2001, ki_5000, ki_10000, ki_10001, ki_100000, ki_200000, ki_1000000, ki_2000000, ki_3000000, iO_neg, iO_add, iO_sub, iO_mul, kn_4, kn_8, kn_10, kn_20, kn_24, kn_40, kn_41, kn_50, kn_60, kn_158, kn_160, kn_200, kn_212, kn_2001, tn_lt, fn_lt, tn_le, fn_le, tn_eq, fn_eq, x_lt, x_le, x_eq, x_ix, x_nat, t_lt, f_lt, t_le, f_le, t_eq, f_eq, eq_self, and_self, true_and, and_true, false_and, and_false, if_true, if_false, Int.toNat_natCast, bI_s, bL_s, bA_s, bA_n, bV_s, mq_s, mq_n, en_le, bl_0, bl_1, u_eq, u_ne, w_eq, w_ne, v_eq, v_ne, ↓hp_cc_26, ↓hp_g_26_0, ↓hp_p_26_0, ↓hp_g_26_1, ↓hp_p_26_1, ↓hp_g_26_2, ↓hp_p_26_2, ↓hp_g_26_3, ↓hp_g_26_4, ↓hp_g_26_5, ↓hp_g_26_6, ↓hp_g_26_7, ↓hp_g_26_8, ↓hp_g_26_9, ↓hp_g_26_10, ↓hp_g_26_11, ↓hp_g_26_12, ↓hp_g_26_13, ↓hp_g_26_14, ↓hp_g_26_15, ↓hp_p_26_15, ↓hp_g_26_16, ↓hp_g_26_17, ↓hp_g_26_18, ↓hp_p_26_18, ↓hp_g_26_19, ↓hp_p_26_19, ↓hp_g_26_20, ↓hp_g_26_21, ↓hp_p_26_21, ↓hp_g_26_22, ↓hp_g_26_23, ↓hp_g_26_24, ↓hp_g_26_25, ↓hp_g_26_26, ↓hp_g_26_27, ↓hp_g_26_28, ↓hp_g_26_29, ↓hp_g_26_30, ↓hp_p_26_30, ↓hp_g_26_31, ↓hp_g_26_32, ↓hp_p_26_32, ↓hp_a_27, ↓hp_s_27, ↓hp_l_27, ↓hp_a_28, ↓hp_s_28, ↓hp_l_28, ↓hp_a_29, ↓hp_s_29, ↓hp_l_29, ↓hp_a_30, ↓hp_s_30, ↓hp_l_30, ↓hp_a_31, ↓hp_s_31, ↓hp_l_31, ↓hp_a_32, ↓hp_s_32, ↓hp_l_32, ↓hp_a_33, ↓hp_s_33, ↓hp_l_33, ↓hp_a_34, ↓hp_s_34, ↓hp_l_34, ↓hp_a_35, ↓hp_s_35, ↓hp_l_35, ↓hp_a_36, ↓hp_s_36, ↓hp_l_36, ↓hp_a_37, ↓hp_s_37, ↓hp_l_37, ↓hp_a_38, ↓hp_s_38, ↓hp_l_38, ↓hp_a_39, ↓hp_s_39, ↓hp_a_40, ↓hp_s_40, ↓hp_a_41, ↓hp_s_41, ↓hp_l_41, ↓hp_a_42, ↓hp_s_42, ↓hp_l_42, ↓hp_a_43, ↓hp_s_43, ↓hp_l_43, ↓hp_a_44, ↓hp_s_44, ↓hp_l_44, ↓hp_a_45, ↓hp_s_45, ↓hp_l_45, ↓hp_a_46, ↓hp_s_46, ↓hp_l_46, ↓hp_a_47, ↓hp_s_47, ↓hp_l_47, ↓hp_a_48, ↓hp_s_48, ↓hp_l_48, ↓hp_a_49, ↓hp_s_49, ↓hp_l_49, ↓hp_a_50, ↓hp_s_50, ↓hp_l_50, m0, m1, m2, m3, n0, n1, n2, n3, iO_wide, lO_sub, lO_mul, lO_neg, lO_add, kl_0, lc_lt, lc_le, lc_gt, lc_ge, lc_eq, y_lt, y_le, y_eq, eb_X12_areOne_7, eb_X12_areOne_11]
          · skip
            refine ⟨1, ⟨fun _ => ⟨g1, g2, g3, by omega, g5⟩, fun _ => rfl⟩, Or.inr rfl, ?_⟩
            simp (disch := (first | assumption | (unfold i32; omega) | (unfold i64; omega) | omega)) only [↓reduceIte, ki_0, ki_1, ki_2, ki_3, ki_4, ki_5, ki_6, ki_7, ki_8, ki_9, ki_10, ki_11, ki_12, ki_13, ki_14, ki_15, ki_20, ki_21, ki_30, ki_31, ki_40, ki_41, ki_50, ki_51, ki_60, ki_63, ki_64, ki_65, ki_100, ki_158, ki_160, ki_200, ki_212, ki_1000, ki_2000, ki_2001, ki_5000, ki_10000, ki_10001, ki_100000, ki_200000, ki_1000000, ki_2000000, ki_3000000, iO_neg, iO_add, iO_sub, iO_mul, kn_4, kn_8, kn_10, kn_20, kn_24, kn_40, kn_41, kn_50, kn_60, kn_158, kn_160, kn_200, kn_212, kn_2001, tn_lt, fn_lt, tn_le, fn_le, tn_eq, fn_eq, x_lt, x_le, x_eq, x_ix, x_nat, t_lt, f_lt, t_le, f_le, t_eq, f_eq, eq_self, and_self, true_and, and_true, false_and, and_false, if_true, if_false, Int.toNat_natCast, bI_s, bL_s, bA_s, bA_n, bV_s, mq_s, mq_n, en_le, bl_0, bl_1, u_eq, u_ne, w_eq, w_ne, v_eq, v_ne, ↓hp_cc_26, ↓hp_g_26_0, ↓hp_p_26_0, ↓hp_g_26_1, ↓hp_p_26_1, ↓hp_g_26_2, ↓hp_p_26_2, ↓hp_g_26_3, ↓hp_g_26_4, ↓hp_g_26_5, ↓hp_g_26_6, ↓hp_g_26_7, ↓hp_g_26_8, ↓hp_g_26_9, ↓hp_g_26_10, ↓hp_g_26_11, ↓hp_g_26_12, ↓hp_g_26_13, ↓hp_g_26_14, ↓hp_g_26_15, ↓hp_p_26_15, ↓hp_g_26_16, ↓hp_g_26_17, ↓hp_g_26_18, ↓hp_p_26_18, ↓hp_g_26_19, ↓hp_p_26_19, ↓hp_g_26_20, ↓hp_g_26_21, ↓hp_p_26_21, ↓hp_g_26_22, ↓hp_g_26_23, ↓hp_g_26_24, ↓hp_g_26_25, ↓hp_g_26_26, ↓hp_g_26_27, ↓hp_g_26_28, ↓hp_g_26_29, ↓hp_g_26_30, ↓hp_p_26_30, ↓hp_g_26_31, ↓hp_g_26_32, ↓hp_p_26_32, ↓hp_a_27, ↓hp_s_27, ↓hp_l_27, ↓hp_a_28, ↓hp_s_28, ↓hp_l_28, ↓hp_a_29, ↓hp_s_29, ↓hp_l_29, ↓hp_a_30, ↓hp_s_30, ↓hp_l_30, ↓hp_a_31, ↓hp_s_31, ↓hp_l_31, ↓hp_a_32, ↓hp_s_32, ↓hp_l_32, ↓hp_a_33, ↓hp_s_33, ↓hp_l_33, ↓hp_a_34, ↓hp_s_34, ↓hp_l_34, ↓hp_a_35, ↓hp_s_35, ↓hp_l_35, ↓hp_a_36, ↓hp_s_36, ↓hp_l_36, ↓hp_a_37, ↓hp_s_37, ↓hp_l_37, ↓hp_a_38, ↓hp_s_38, ↓hp_l_38, ↓hp_a_39, ↓hp_s_39, ↓hp_a_40, ↓hp_s_40, ↓hp_a_41, ↓hp_s_41, ↓hp_l_41, ↓hp_a_42, ↓hp_s_42, ↓hp_l_42, ↓hp_a_43, ↓hp_s_43, ↓hp_l_43, ↓hp_a_44, ↓hp_s_44, ↓hp_l_44, ↓hp_a_45, ↓hp_s_45, ↓hp_l_45, ↓hp_a_46, ↓hp_s_46, ↓hp_l_46, ↓hp_a_47, ↓hp_s_47, ↓hp_l_47, ↓hp_a_48, ↓hp_s_48, ↓hp_l_48, ↓hp_a_49, ↓hp_s_49, ↓hp_l_49, ↓hp_a_50, ↓hp_s_50, ↓hp_l_50, m0, m1, m2, m3, n0, n1, n2, n3, iO_wide, lO_sub, lO_mul, lO_neg, lO_add, kl_0, lc_lt, lc_le, lc_gt, lc_ge, lc_eq, y_lt, y_le, y_eq, eb_X12_areOne_7, eb_X12_areOne_11]
        · skip
          rcases Int.lt_or_le 0 (b') with hB | hB
          · skip
            refine ⟨1, ⟨fun _ => ⟨g1, g2, g3, by omega, g5⟩, fun _ => rfl⟩, Or.inr rfl, ?_⟩
            simp (disch := (first | assumption | (unfold i32; omega) | (unfold i64; omega) | omega)) only [↓reduceIte, ki_0, ki_1, ki_2, ki_3, ki_4, ki_5, ki_6, ki_7, ki_8, ki_9, ki_10, ki_11, ki_12, ki_13, ki_14, ki_15, ki_20, ki_21, ki_30, ki_31, ki_40, ki_41, ki_50, ki_51, ki_60, ki_63, ki_64, ki_65, ki_100, ki_158, ki_160, ki_200, ki_212, ki_1000, ki_2000, ki_2001, ki_5000, ki_10000, ki_10001, ki_100000, ki_200000, ki_1000000, ki_2000000, ki_3000000, iO_neg, iO_add, iO_sub, iO_mul, kn_4, kn_8, kn_10, kn_20, kn_24, kn_40, kn_41, kn_50, kn_60, kn_158, kn_160, kn_200, kn_212, kn_2001, tn_lt, fn_lt, tn_le, fn_le, tn_eq, fn_eq, x_lt, x_le, x_eq, x_ix, x_nat, t_lt, f_lt, t_le, f_le, t_eq, f_eq, eq_self, and_self, true_and, and_true, false_and, and_false, if_true, if_false, Int.toNat_natCast, bI_s, bL_s, bA_s, bA_n, bV_s, mq_s, mq_n, en_le, bl_0, bl_1, u_eq, u_ne, w_eq, w_ne, v_eq, v_ne, ↓hp_cc_26, ↓hp_g_26_0, ↓hp_p_26_0, ↓hp_g_26_1, ↓hp_p_26_1, ↓hp_g_26_2, ↓hp_p_26_2, ↓hp_g_26_3, ↓hp_g_26_4, ↓hp_g_26_5, ↓hp_g_26_6, ↓hp_g_26_7, ↓hp_g_26_8, ↓hp_g_26_9, ↓hp_g_26_10, ↓hp_g_26_11, ↓hp_g_26_12, ↓hp_g_26_13, ↓hp_g_26_14, ↓hp_g_26_15, ↓hp_p_26_15, ↓hp_g_26_16, ↓hp_g_26_17, ↓hp_g_26_18, ↓hp_p_26_18, ↓hp_g_26_19, ↓hp_p_26_19, ↓hp_g_26_20, ↓hp_g_26_21, ↓hp_p_26_21, ↓hp_g_26_22, ↓hp_g_26_23, ↓hp_g_26_24, ↓hp_g_26_25, ↓hp_g_26_26, ↓hp_g_26_27, ↓hp_g_26_28, ↓hp_g_26_29, ↓hp_g_26_30, ↓hp_p_26_30, ↓hp_g_26_31, ↓hp_g_26_32, ↓hp_p_26_32, ↓hp_a_27, ↓hp_s_27, ↓hp_l_27, ↓hp_a_28, ↓hp_s_28, ↓hp_l_28, ↓hp_a_29, ↓hp_s_29, ↓hp_l_29, ↓hp_a_30, ↓hp_s_30, ↓hp_l_30, ↓hp_a_31, ↓hp_s_31, ↓hp_l_31, ↓hp_a_32, ↓hp_s_32, ↓hp_l_32, ↓hp_a_33, ↓hp_s_33, ↓hp_l_33, ↓hp_a_34, ↓hp_s_34, ↓hp_l_34, ↓hp_a_35, ↓hp_s_35, ↓hp_l_35, ↓hp_a_36, ↓hp_s_36, ↓hp_l_36, ↓hp_a_37, ↓hp_s_37, ↓hp_l_37, ↓hp_a_38, ↓hp_s_38, ↓hp_l_38, ↓hp_a_39, ↓hp_s_39, ↓hp_a_40, ↓hp_s_40, ↓hp_a_41, ↓hp_s_41, ↓hp_l_41, ↓hp_a_42, ↓hp_s_42, ↓hp_l_42, ↓hp_a_43, ↓hp_s_43, ↓hp_l_43, ↓hp_a_44, ↓hp_s_44, ↓hp_l_44, ↓hp_a_45, ↓hp_s_45, ↓hp_l_45, ↓hp_a_46, ↓hp_s_46, ↓hp_l_46, ↓hp_a_47, ↓hp_s_47, ↓hp_l_47, ↓hp_a_48, ↓hp_s_48, ↓hp_l_48, ↓hp_a_49, ↓hp_s_49, ↓hp_l_49, ↓hp_a_50, ↓hp_s_50, ↓hp_l_50, m0, m1, m2, m3, n0, n1, n2, n3, iO_wide, lO_sub, lO_mul, lO_neg, lO_add, kl_0, lc_lt, lc_le, lc_gt, lc_ge, lc_eq, y_lt, y_le, y_eq, eb_X12_areOne_7, eb_X12_areOne_11]
          · skip
            refine ⟨0, ⟨fun h => by omega, fun h => by have := h.2.2.2.1; omega⟩, Or.inl rfl, ?_⟩
            simp (disch := (first | assumption | (unfold i32; omega) | (unfold i64; omega) | omega)) only [↓reduceIte, ki_0, ki_1, ki_2, ki_3, ki_4, ki_5, ki_6, ki_7, ki_8, ki_9, ki_10, ki_11, ki_12, ki_13, ki_14, ki_15, ki_20, ki_21, ki_30, ki_31, ki_40, ki_41, ki_50, ki_51, ki_60, ki_63, ki_64, ki_65, ki_100, ki_158, ki_160, ki_200, ki_212, ki_1000, ki_2000, ki_2001, ki_5000, ki_10000, ki_10001, ki_100000, ki_200000, ki_1000000, ki_2000000, ki_3000000, iO_neg, iO_add, iO_sub, iO_mul, kn_4, kn_8, kn_10, kn_20, kn_24, kn_40, kn_41, kn_50, kn_60, kn_158, kn_160, kn_200, kn_212, kn_2001, tn_lt, fn_lt, tn_le, fn_le, tn_eq, fn_eq, x_lt, x_le, x_eq, x_ix, x_nat, t_lt, f_lt, t_le, f_le, t_eq, f_eq, eq_self, and_self, true_and, and_true, false_and, and_false, if_true, if_false, Int.toNat_natCast, bI_s, bL_s, bA_s, bA_n, bV_s, mq_s, mq_n, en_le, bl_0, bl_1, u_eq, u_ne, w_eq, w_ne, v_eq, v_ne, ↓hp_cc_26, ↓hp_g_26_0, ↓hp_p_26_0, ↓hp_g_26_1, ↓hp_p_26_1, ↓hp_g_26_2, ↓hp_p_26_2, ↓hp_g_26_3, ↓hp_g_26_4, ↓hp_g_26_5, ↓hp_g_26_6, ↓hp_g_26_7, ↓hp_g_26_8, ↓hp_g_26_9, ↓hp_g_26_10, ↓hp_g_26_11, ↓hp_g_26_12, ↓hp_g_26_13, ↓hp_g_26_14, ↓hp_g_26_15, ↓hp_p_26_15, ↓hp_g_26_16, ↓hp_g_26_17, ↓hp_g_26_18, ↓hp_p_26_18, ↓hp_g_26_19, ↓hp_p_26_19, ↓hp_g_26_20, ↓hp_g_26_21, ↓hp_p_26_21, ↓hp_g_26_22, ↓hp_g_26_23, ↓hp_g_26_24, ↓hp_g_26_25, ↓hp_g_26_26, ↓hp_g_26_27, ↓hp_g_26_28, ↓hp_g_26_29, ↓hp_g_26_30, ↓hp_p_26_30, ↓hp_g_26_31, ↓hp_g_26_32, ↓hp_p_26_32, ↓hp_a_27, ↓hp_s_27, ↓hp_l_27, ↓hp_a_28, ↓hp_s_28, ↓hp_l_28, ↓hp_a_29, ↓hp_s_29, ↓hp_l_29, ↓hp_a_30, ↓hp_s_30, ↓hp_l_30, ↓hp_a_31, ↓hp_s_31, ↓hp_l_31, ↓hp_a_32, ↓hp_s_32, ↓hp_l_32, ↓hp_a_33, ↓hp_s_33, ↓hp_l_33, ↓hp_a_34, ↓hp_s_34, ↓hp_l_34, ↓hp_a_35, ↓hp_s_35, ↓hp_l_35, ↓hp_a_36, ↓hp_s_36, ↓hp_l_36, ↓hp_a_37, ↓hp_s_37, ↓hp_l_37, ↓hp_a_38, ↓hp_s_38, ↓hp_l_38, ↓hp_a_39, ↓hp_s_39, ↓hp_a_40, ↓hp_s_40, ↓hp_a_41, ↓hp_s_41, ↓hp_l_41, ↓hp_a_42, ↓hp_s_42, ↓hp_l_42, ↓hp_a_43, ↓hp_s_43, ↓hp_l_43, ↓hp_a_44, ↓hp_s_44, ↓hp_l_44, ↓hp_a_45, ↓hp_s_45, ↓hp_l_45, ↓hp_a_46, ↓hp_s_46, ↓hp_l_46, ↓hp_a_47, ↓hp_s_47, ↓hp_l_47, ↓hp_a_48, ↓hp_s_48, ↓hp_l_48, ↓hp_a_49, ↓hp_s_49, ↓hp_l_49, ↓hp_a_50, ↓hp_s_50, ↓hp_l_50, m0, m1, m2, m3, n0, n1, n2, n3, iO_wide, lO_sub, lO_mul, lO_neg, lO_add, kl_0, lc_lt, lc_le, lc_gt, lc_ge, lc_eq, y_lt, y_le, y_eq, eb_X12_areOne_7, eb_X12_areOne_11]
    · rcases Int.lt_or_le 0 (-b * c) with hM | hM
      · skip
        rcases Int.lt_or_le 0 ((a - c) * (a - c) - b * b * d) with hN | hN
        · skip
          rcases Int.lt_or_le 0 (b') with hB | hB
          · skip
            refine ⟨0, ⟨fun h => by omega, fun h => absurd h.2.2.2.2 g5⟩, Or.inl rfl, ?_⟩
            simp (disch := (first | assumption | (unfold i32; omega) | (unfold i64; omega) | omega)) only [↓reduceIte, ki_0, ki_1, ki_2, ki_3, ki_4, ki_5, ki_6, ki_7, ki_8, ki_9, ki_10, ki_11, ki_12, ki_13, ki_14, ki_15, ki_20, ki_21, ki_30, ki_31, ki_40, ki_41, ki_50, ki_51, ki_60, ki_63, ki_64, ki_65, ki_100, ki_158, ki_160, ki_200, ki_212, ki_1000, ki_2000, ki_2001, ki_5000, ki_10000, ki_10001, ki_100000, ki_200000, ki_1000000, ki_2000000, ki_3000000, iO_neg, iO_add, iO_sub, iO_mul, kn_4, kn_8, kn_10, kn_20, kn_24, kn_40, kn_41, kn_50, kn_60, kn_158, kn_160, kn_200, kn_212, kn_2001, tn_lt, fn_lt, tn_le, fn_le, tn_eq, fn_eq, x_lt, x_le, x_eq, x_ix, x_nat, t_lt, f_lt, t_le, f_le, t_eq, f_eq, eq_self, and_self, true_and, and_true, false_and, and_false, if_true, if_false, Int.toNat_natCast, bI_s, bL_s, bA_s, bA_n, bV_s, mq_s, mq_n, en_le, bl_0, bl_1, u_eq, u_ne, w_eq, w_ne, v_eq, v_ne, ↓hp_cc_26, ↓hp_g_26_0, ↓hp_p_26_0, ↓hp_g_26_1, ↓hp_p_26_1, ↓hp_g_26_2, ↓hp_p_26_2, ↓hp_g_26_3, ↓hp_g_26_4, ↓hp_g_26_5, ↓hp_g_26_6, ↓hp_g_26_7, ↓hp_g_26_8, ↓hp_g_26_9, ↓hp_g_26_10, ↓hp_g_26_11, ↓hp_g_26_12, ↓hp_g_26_13, ↓hp_g_26_14, ↓hp_g_26_15, ↓hp_p_26_15, ↓hp_g_26_16, ↓hp_g_26_17, ↓hp_g_26_18, ↓hp_p_26_18, ↓hp_g_26_19, ↓hp_p_26_19, ↓hp_g_26_20, ↓hp_g_26_21, ↓hp_p_26_21, ↓hp_g_26_22, ↓hp_g_26_23, ↓hp_g_26_24, ↓hp_g_26_25, ↓hp_g_26_26, ↓hp_g_26_27, ↓hp_g_26_28, ↓hp_g_26_29, ↓hp_g_26_30, ↓hp_p_26_30, ↓hp_g_26_31, ↓hp_g_26_32, ↓hp_p_26_32, ↓hp_a_27, ↓hp_s_27, ↓hp_l_27, ↓hp_a_28, ↓hp_s_28, ↓hp_l_28, ↓hp_a_29, ↓hp_s_29, ↓hp_l_29, ↓hp_a_30, ↓hp_s_30, ↓hp_l_30, ↓hp_a_31, ↓hp_s_31, ↓hp_l_31, ↓hp_a_32, ↓hp_s_32, ↓hp_l_32, ↓hp_a_33, ↓hp_s_33, ↓hp_l_33, ↓hp_a_34, ↓hp_s_34, ↓hp_l_34, ↓hp_a_35, ↓hp_s_35, ↓hp_l_35, ↓hp_a_36, ↓hp_s_36, ↓hp_l_36, ↓hp_a_37, ↓hp_s_37, ↓hp_l_37, ↓hp_a_38, ↓hp_s_38, ↓hp_l_38, ↓hp_a_39, ↓hp_s_39, ↓hp_a_40, ↓hp_s_40, ↓hp_a_41, ↓hp_s_41, ↓hp_l_41, ↓hp_a_42, ↓hp_s_42, ↓hp_l_42, ↓hp_a_43, ↓hp_s_43, ↓hp_l_43, ↓hp_a_44, ↓hp_s_44, ↓hp_l_44, ↓hp_a_45, ↓hp_s_45, ↓hp_l_45, ↓hp_a_46, ↓hp_s_46, ↓hp_l_46, ↓hp_a_47, ↓hp_s_47, ↓hp_l_47, ↓hp_a_48, ↓hp_s_48, ↓hp_l_48, ↓hp_a_49, ↓hp_s_49, ↓hp_l_49, ↓hp_a_50, ↓hp_s_50, ↓hp_l_50, m0, m1, m2, m3, n0, n1, n2, n3, iO_wide, lO_sub, lO_mul, lO_neg, lO_add, kl_0, lc_lt, lc_le, lc_gt, lc_ge, lc_eq, y_lt, y_le, y_eq, eb_X12_areOne_7, eb_X12_areOne_11]
          · skip
            refine ⟨0, ⟨fun h => by omega, fun h => absurd h.2.2.2.2 g5⟩, Or.inl rfl, ?_⟩
            simp (disch := (first | assumption | (unfold i32; omega) | (unfold i64; omega) | omega)) only [↓reduceIte, ki_0, ki_1, ki_2, ki_3, ki_4, ki_5, ki_6, ki_7, ki_8, ki_9, ki_10, ki_11, ki_12, ki_13, ki_14, ki_15, ki_20, ki_21, ki_30, ki_31, ki_40, ki_41, ki_50, ki_51, ki_60, ki_63, ki_64, ki_65, ki_100, ki_158, ki_160, ki_200, ki_212, ki_1000, ki_2000, ki_2001, ki_5000, ki_10000, ki_10001, ki_100000, ki_200000, ki_1000000, ki_2000000, ki_3000000, iO_neg, iO_add, iO_sub, iO_mul, kn_4, kn_8, kn_10, kn_20, kn_24, kn_40, kn_41, kn_50, kn_60, kn_158, kn_160, kn_200, kn_212, kn_2001, tn_lt, fn_lt, tn_le, fn_le, tn_eq, fn_eq, x_lt, x_le, x_eq, x_ix, x_nat, t_lt, f_lt, t_le, f_le, t_eq, f_eq, eq_self, and_self, true_and, and_true, false_and, and_false, if_true, if_false, Int.toNat_natCast, bI_s, bL_s, bA_s, bA_n, bV_s, mq_s, mq_n, en_le, bl_0, bl_1, u_eq, u_ne, w_eq, w_ne, v_eq, v_ne, ↓hp_cc_26, ↓hp_g_26_0, ↓hp_p_26_0, ↓hp_g_26_1, ↓hp_p_26_1, ↓hp_g_26_2, ↓hp_p_26_2, ↓hp_g_26_3, ↓hp_g_26_4, ↓hp_g_26_5, ↓hp_g_26_6, ↓hp_g_26_7, ↓hp_g_26_8, ↓hp_g_26_9, ↓hp_g_26_10, ↓hp_g_26_11, ↓hp_g_26_12, ↓hp_g_26_13, ↓hp_g_26_14, ↓hp_g_26_15, ↓hp_p_26_15, ↓hp_g_26_16, ↓hp_g_26_17, ↓hp_g_26_18, ↓hp_p_26_18, ↓hp_g_26_19, ↓hp_p_26_19, ↓hp_g_26_20, ↓hp_g_26_21, ↓hp_p_26_21, ↓hp_g_26_22, ↓hp_g_26_23, ↓hp_g_26_24, ↓hp_g_26_25, ↓hp_g_26_26, ↓hp_g_26_27, ↓hp_g_26_28, ↓hp_g_26_29, ↓hp_g_26_30, ↓hp_p_26_30, ↓hp_g_26_31, ↓hp_g_26_32, ↓hp_p_26_32, ↓hp_a_27, ↓hp_s_27, ↓hp_l_27, ↓hp_a_28, ↓hp_s_28, ↓hp_l_28, ↓hp_a_29, ↓hp_s_29, ↓hp_l_29, ↓hp_a_30, ↓hp_s_30, ↓hp_l_30, ↓hp_a_31, ↓hp_s_31, ↓hp_l_31, ↓hp_a_32, ↓hp_s_32, ↓hp_l_32, ↓hp_a_33, ↓hp_s_33, ↓hp_l_33, ↓hp_a_34, ↓hp_s_34, ↓hp_l_34, ↓hp_a_35, ↓hp_s_35, ↓hp_l_35, ↓hp_a_36, ↓hp_s_36, ↓hp_l_36, ↓hp_a_37, ↓hp_s_37, ↓hp_l_37, ↓hp_a_38, ↓hp_s_38, ↓hp_l_38, ↓hp_a_39, ↓hp_s_39, ↓hp_a_40, ↓hp_s_40, ↓hp_a_41, ↓hp_s_41, ↓hp_l_41, ↓hp_a_42, ↓hp_s_42, ↓hp_l_42, ↓hp_a_43, ↓hp_s_43, ↓hp_l_43, ↓hp_a_44, ↓hp_s_44, ↓hp_l_44, ↓hp_a_45, ↓hp_s_45, ↓hp_l_45, ↓hp_a_46, ↓hp_s_46, ↓hp_l_46, ↓hp_a_47, ↓hp_s_47, ↓hp_l_47, ↓hp_a_48, ↓hp_s_48, ↓hp_l_48, ↓hp_a_49, ↓hp_s_49, ↓hp_l_49, ↓hp_a_50, ↓hp_s_50, ↓hp_l_50, m0, m1, m2, m3, n0, n1, n2, n3, iO_wide, lO_sub, lO_mul, lO_neg, lO_add, kl_0, lc_lt, lc_le, lc_gt, lc_ge, lc_eq, y_lt, y_le, y_eq, eb_X12_areOne_7, eb_X12_areOne_11]
        · skip
          rcases Int.lt_or_le 0 (b') with hB | hB
          · skip
            refine ⟨0, ⟨fun h => by omega, fun h => absurd h.2.2.2.2 g5⟩, Or.inl rfl, ?_⟩
            simp (disch := (first | assumption | (unfold i32; omega) | (unfold i64; omega) | omega)) only [↓reduceIte, ki_0, ki_1, ki_2, ki_3, ki_4, ki_5, ki_6, ki_7, ki_8, ki_9, ki_10, ki_11, ki_12, ki_13, ki_14, ki_15, ki_20, ki_21, ki_30, ki_31, ki_40, ki_41, ki_50, ki_51, ki_60, ki_63, ki_64, ki_65, ki_100, ki_158, ki_160, ki_200, ki_212, ki_1000, ki_2000, ki_2001, ki_5000, ki_10000, ki_10001, ki_100000, ki_200000, ki_1000000, ki_2000000, ki_3000000, iO_neg, iO_add, iO_sub, iO_mul, kn_4, kn_8, kn_10, kn_20, kn_24, kn_40, kn_41, kn_50, kn_60, kn_158, kn_160, kn_200, kn_212, kn_2001, tn_lt, fn_lt, tn_le, fn_le, tn_eq, fn_eq, x_lt, x_le, x_eq, x_ix, x_nat, t_lt, f_lt, t_le, f_le, t_eq, f_eq, eq_self, and_self, true_and, and_true, false_and, and_false, if_true, if_false, Int.toNat_natCast, bI_s, bL_s, bA_s, bA_n, bV_s, mq_s, mq_n, en_le, bl_0, bl_1, u_eq, u_ne, w_eq, w_ne, v_eq, v_ne, ↓hp_cc_26, ↓hp_g_26_0, ↓hp_p_26_0, ↓hp_g_26_1, ↓hp_p_26_1, ↓hp_g_26_2, ↓hp_p_26_2, ↓hp_g_26_3, ↓hp_g_26_4, ↓hp_g_26_5, ↓hp_g_26_6, ↓hp_g_26_7, ↓hp_g_26_8, ↓hp_g_26_9, ↓hp_g_26_10, ↓hp_g_26_11, ↓hp_g_26_12, ↓hp_g_26_13, ↓hp_g_26_14, ↓hp_g_26_15, ↓hp_p_26_15, ↓hp_g_26_16, ↓hp_g_26_17, ↓hp_g_26_18, ↓hp_p_26_18, ↓hp_g_26_19, ↓hp_p_26_19, ↓hp_g_26_20, ↓hp_g_26_21, ↓hp_p_26_21, ↓hp_g_26_22, ↓hp_g_26_23, ↓hp_g_26_24, ↓hp_g_26_25, ↓hp_g_26_26, ↓hp_g_26_27, ↓hp_g_26_28, ↓hp_g_26_29, ↓hp_g_26_30, ↓hp_p_26_30, ↓hp_g_26_31, ↓hp_g_26_32, ↓hp_p_26_32, ↓hp_a_27, ↓hp_s_27, ↓hp_l_27, ↓hp_a_28, ↓hp_s_28, ↓hp_l_28, ↓hp_a_29, ↓hp_s_29, ↓hp_l_29, ↓hp_a_30, ↓hp_s_30, ↓hp_l_30, ↓hp_a_31, ↓hp_s_31, ↓hp_l_31, ↓hp_a_32, ↓hp_s_32, ↓hp_l_32, ↓hp_a_33, ↓hp_s_33, ↓hp_l_33, ↓hp_a_34, ↓hp_s_34, ↓hp_l_34, ↓hp_a_35, ↓hp_s_35, ↓hp_l_35, ↓hp_a_36, ↓hp_s_36, ↓hp_l_36, ↓hp_a_37, ↓hp_s_37, ↓hp_l_37, ↓hp_a_38, ↓hp_s_38, ↓hp_l_38, ↓hp_a_39, ↓hp_s_39, ↓hp_a_40, ↓hp_s_40, ↓hp_a_41, ↓hp_s_41, ↓hp_l_41, ↓hp_a_42, ↓hp_s_42, ↓hp_l_42, ↓hp_a_43, ↓hp_s_43, ↓hp_l_43, ↓hp_a_44, ↓hp_s_44, ↓hp_l_44, ↓hp_a_45, ↓hp_s_45, ↓hp_l_45, ↓hp_a_46, ↓hp_s_46, ↓hp_l_46, ↓hp_a_47, ↓hp_s_47, ↓hp_l_47, ↓hp_a_48, ↓hp_s_48, ↓hp_l_48, ↓hp_a_49, ↓hp_s_49, ↓hp_l_49, ↓hp_a_50, ↓hp_s_50, ↓hp_l_50, m0, m1, m2, m3, n0, n1, n2, n3, iO_wide, lO_sub, lO_mul, lO_neg, lO_add, kl_0, lc_lt, lc_le, lc_gt, lc_ge, lc_eq, y_lt, y_le, y_eq, eb_X12_areOne_7, eb_X12_areOne_11]
          · skip
            refine ⟨0, ⟨fun h => by omega, fun h => absurd h.2.2.2.2 g5⟩, Or.inl rfl, ?_⟩
            simp (disch := (first | assumption | (unfold i32; omega) | (unfold i64; omega) | omega)) only [↓reduceIte, ki_0, ki_1, ki_2, ki_3, ki_4, ki_5, ki_6, ki_7, ki_8, ki_9, ki_10, ki_11, ki_12, ki_13, ki_14, ki_15, ki_20, ki_21, ki_30, ki_31, ki_40, ki_41, ki_50, ki_51, ki_60, ki_63, ki_64, ki_65, ki_100, ki_158, ki_160, ki_200, ki_212, ki_1000, ki_2000, ki_2001, ki_5000, ki_10000, ki_10001, ki_100000, ki_200000, ki_1000000, ki_2000000, ki_3000000, iO_neg, iO_add, iO_sub, iO_mul, kn_4, kn_8, kn_10, kn_20, kn_24, kn_40, kn_41, kn_50, kn_60, kn_158, kn_160, kn_200, kn_212, kn_2001, tn_lt, fn_lt, tn_le, fn_le, tn_eq, fn_eq, x_lt, x_le, x_eq, x_ix, x_nat, t_lt, f_lt, t_le, f_le, t_eq, f_eq, eq_self, and_self, true_and, and_true, false_and, and_false, if_true, if_false, Int.toNat_natCast, bI_s, bL_s, bA_s, bA_n, bV_s, mq_s, mq_n, en_le, bl_0, bl_1, u_eq, u_ne, w_eq, w_ne, v_eq, v_ne, ↓hp_cc_26, ↓hp_g_26_0, ↓hp_p_26_0, ↓hp_g_26_1, ↓hp_p_26_1, ↓hp_g_26_2, ↓hp_p_26_2, ↓hp_g_26_3, ↓hp_g_26_4, ↓hp_g_26_5, ↓hp_g_26_6, ↓hp_g_26_7, ↓hp_g_26_8, ↓hp_g_26_9, ↓hp_g_26_10, ↓hp_g_26_11, ↓hp_g_26_12, ↓hp_g_26_13, ↓hp_g_26_14, ↓hp_g_26_15, ↓hp_p_26_15, ↓hp_g_26_16, ↓hp_g_26_17, ↓hp_g_26_18, ↓hp_p_26_18, ↓hp_g_26_19, ↓hp_p_26_19, ↓hp_g_26_20, ↓hp_g_26_21, ↓hp_p_26_21, ↓hp_g_26_22, ↓hp_g_26_23, ↓hp_g_26_24, ↓hp_g_26_25, ↓hp_g_26_26, ↓hp_g_26_27, ↓hp_g_26_28, ↓hp_g_26_29, ↓hp_g_26_30, ↓hp_p_26_30, ↓hp_g_26_31, ↓hp_g_26_32, ↓hp_p_26_32, ↓hp_a_27, ↓hp_s_27, ↓hp_l_27, ↓hp_a_28, ↓hp_s_28, ↓hp_l_28, ↓hp_a_29, ↓hp_s_29, ↓hp_l_29, ↓hp_a_30, ↓hp_s_30, ↓hp_l_30, ↓hp_a_31, ↓hp_s_31, ↓hp_l_31, ↓hp_a_32, ↓hp_s_32, ↓hp_l_32, ↓hp_a_33, ↓hp_s_33, ↓hp_l_33, ↓hp_a_34, ↓hp_s_34, ↓hp_l_34, ↓hp_a_35, ↓hp_s_35, ↓hp_l_35, ↓hp_a_36, ↓hp_s_36, ↓hp_l_36, ↓hp_a_37, ↓hp_s_37, ↓hp_l_37, ↓hp_a_38, ↓hp_s_38, ↓hp_l_38, ↓hp_a_39, ↓hp_s_39, ↓hp_a_40, ↓hp_s_40, ↓hp_a_41, ↓hp_s_41, ↓hp_l_41, ↓hp_a_42, ↓hp_s_42, ↓hp_l_42, ↓hp_a_43, ↓hp_s_43, ↓hp_l_43, ↓hp_a_44, ↓hp_s_44, ↓hp_l_44, ↓hp_a_45, ↓hp_s_45, ↓hp_l_45, ↓hp_a_46, ↓hp_s_46, ↓hp_l_46, ↓hp_a_47, ↓hp_s_47, ↓hp_l_47, ↓hp_a_48, ↓hp_s_48, ↓hp_l_48, ↓hp_a_49, ↓hp_s_49, ↓hp_l_49, ↓hp_a_50, ↓hp_s_50, ↓hp_l_50, m0, m1, m2, m3, n0, n1, n2, n3, iO_wide, lO_sub, lO_mul, lO_neg, lO_add, kl_0, lc_lt, lc_le, lc_gt, lc_ge, lc_eq, y_lt, y_le, y_eq, eb_X12_areOne_7, eb_X12_areOne_11]
      · skip
        rcases Int.lt_or_le 0 ((a - c) * (a - c) - b * b * d) with hN | hN
        · skip
          rcases Int.lt_or_le 0 (b') with hB | hB
          · skip
            refine ⟨0, ⟨fun h => by omega, fun h => absurd h.2.2.2.2 g5⟩, Or.inl rfl, ?_⟩
            simp (disch := (first | assumption | (unfold i32; omega) | (unfold i64; omega) | omega)) only [↓reduceIte, ki_0, ki_1, ki_2, ki_3, ki_4, ki_5, ki_6, ki_7, ki_8, ki_9, ki_10, ki_11, ki_12, ki_13, ki_14, ki_15, ki_20, ki_21, ki_30, ki_31, ki_40, ki_41, ki_50, ki_51, ki_60, ki_63, ki_64, ki_65, ki_100, ki_158, ki_160, ki_200, ki_212, ki_1000, ki_2000, ki_2001, ki_5000, ki_10000, ki_10001, ki_100000, ki_200000, ki_1000000, ki_2000000, ki_3000000, iO_neg, iO_add, iO_sub, iO_mul, kn_4, kn_8, kn_10, kn_20, kn_24, kn_40, kn_41, kn_50, kn_60, kn_158, kn_160, kn_200, kn_212, kn_2001, tn_lt, fn_lt, tn_le, fn_le, tn_eq, fn_eq, x_lt, x_le, x_eq, x_ix, x_nat, t_lt, f_lt, t_le, f_le, t_eq, f_eq, eq_self, and_self, true_and, and_true, false_and, and_false, if_true, if_false, Int.toNat_natCast, bI_s, bL_s, bA_s, bA_n, bV_s, mq_s, mq_n, en_le, bl_0, bl_1, u_eq, u_ne, w_eq, w_ne, v_eq, v_ne, ↓hp_cc_26, ↓hp_g_26_0, ↓hp_p_26_0, ↓hp_g_26_1, ↓hp_p_26_1, ↓hp_g_26_2, ↓hp_p_26_2, ↓hp_g_26_3, ↓hp_g_26_4, ↓hp_g_26_5, ↓hp_g_26_6, ↓hp_g_26_7, ↓hp_g_26_8, ↓hp_g_26_9, ↓hp_g_26_10, ↓hp_g_26_11, ↓hp_g_26_12, ↓hp_g_26_13, ↓hp_g_26_14, ↓hp_g_26_15, ↓hp_p_26_15, ↓hp_g_26_16, ↓hp_g_26_17, ↓hp_g_26_18, ↓hp_p_26_18, ↓hp_g_26_19, ↓hp_p_26_19, ↓hp_g_26_20, ↓hp_g_26_21, ↓hp_p_26_21, ↓hp_g_26_22, ↓hp_g_26_23, ↓hp_g_26_24, ↓hp_g_26_25, ↓hp_g_26_26, ↓hp_g_26_27, ↓hp_g_26_28, ↓hp_g_26_29, ↓hp_g_26_30, ↓hp_p_26_30, ↓hp_g_26_31, ↓hp_g_26_32, ↓hp_p_26_32, ↓hp_a_27, ↓hp_s_27, ↓hp_l_27, ↓hp_a_28, ↓hp_s_28, ↓hp_l_28, ↓hp_a_29, ↓hp_s_29, ↓hp_l_29, ↓hp_a_30, ↓hp_s_30, ↓hp_l_30, ↓hp_a_31, ↓hp_s_31, ↓hp_l_31, ↓hp_a_32, ↓hp_s_32, ↓hp_l_32, ↓hp_a_33, ↓hp_s_33, ↓hp_l_33, ↓hp_a_34, ↓hp_s_34, ↓hp_l_34, ↓hp_a_35, ↓hp_s_35, ↓hp_l_35, ↓hp_a_36, ↓hp_s_36, ↓hp_l_36, ↓hp_a_37, ↓hp_s_37, ↓hp_l_37, ↓hp_a_38, ↓hp_s_38, ↓hp_l_38, ↓hp_a_39, ↓hp_s_39, ↓hp_a_40, ↓hp_s_40, ↓hp_a_41, ↓hp_s_41, ↓hp_l_41, ↓hp_a_42, ↓hp_s_42, ↓hp_l_42, ↓hp_a_43, ↓hp_s_43, ↓hp_l_43, ↓hp_a_44, ↓hp_s_44, ↓hp_l_44, ↓hp_a_45, ↓hp_s_45, ↓hp_l_45, ↓hp_a_46, ↓hp_s_46, ↓hp_l_46, ↓hp_a_47, ↓hp_s_47, ↓hp_l_47, ↓hp_a_48, ↓hp_s_48, ↓hp_l_48, ↓hp_a_49, ↓hp_s_49, ↓hp_l_49, ↓hp_a_50, ↓hp_s_50, ↓hp_l_50, m0, m1, m2, m3, n0, n1, n2, n3, iO_wide, lO_sub, lO_mul, lO_neg, lO_add, kl_0, lc_lt, lc_le, lc_gt, lc_ge, lc_eq, y_lt, y_le, y_eq, eb_X12_areOne_7, eb_X12_areOne_11]
          · skip
            refine ⟨0, ⟨fun h => by omega, fun h => absurd h.2.2.2.2 g5⟩, Or.inl rfl, ?_⟩
            simp (disch := (first | assumption | (unfold i32; omega) | (unfold i64; omega) | omega)) only [↓reduceIte, ki_0, ki_1, ki_2, ki_3, ki_4, ki_5, ki_6, ki_7, ki_8, ki_9, ki_10, ki_11, ki_12, ki_13, ki_14, ki_15, ki_20, ki_21, ki_30, ki_31, ki_40, ki_41, ki_50, ki_51, ki_60, ki_63, ki_64, ki_65, ki_100, ki_158, ki_160, ki_200, ki_212, ki_1000, ki_2000, ki_2001, ki_5000, ki_10000, ki_10001, ki_100000, ki_200000, ki_1000000, ki_2000000, ki_3000000, iO_neg, iO_add, iO_sub, iO_mul, kn_4, kn_8, kn_10, kn_20, kn_24, kn_40, kn_41, kn_50, kn_60, kn_158, kn_160, kn_200, kn_212, kn_2001, tn_lt, fn_lt, tn_le, fn_le, tn_eq, fn_eq, x_lt, x_le, x_eq, x_ix, x_nat, t_lt, f_lt, t_le, f_le, t_eq, f_eq, eq_self, and_self, true_and, and_true, false_and, and_false, if_true, if_false, Int.toNat_natCast, bI_s, bL_s, bA_s, bA_n, bV_s, mq_s, mq_n, en_le, bl_0, bl_1, u_eq, u_ne, w_eq, w_ne, v_eq, v_ne, ↓hp_cc_26, ↓hp_g_26_0, ↓hp_p_26_0, ↓hp_g_26_1, ↓hp_p_26_1, ↓hp_g_26_2, ↓hp_p_26_2, ↓hp_g_26_3, ↓hp_g_26_4, ↓hp_g_26_5, ↓hp_g_26_6, ↓hp_g_26_7, ↓hp_g_26_8, ↓hp_g_26_9, ↓hp_g_26_10, ↓hp_g_26_11, ↓hp_g_26_12, ↓hp_g_26_13, ↓hp_g_26_14, ↓hp_g_26_15, ↓hp_p_26_15, ↓hp_g_26_16, ↓hp_g_26_17, ↓hp_g_26_18, ↓hp_p_26_18, ↓hp_g_26_19, ↓hp_p_26_19, ↓hp_g_26_20, ↓hp_g_26_21, ↓hp_p_26_21, ↓hp_g_26_22, ↓hp_g_26_23, ↓hp_g_26_24, ↓hp_g_26_25, ↓hp_g_26_26, ↓hp_g_26_27, ↓hp_g_26_28, ↓hp_g_26_29, ↓hp_g_26_30, ↓hp_p_26_30, ↓hp_g_26_31, ↓hp_g_26_32, ↓hp_p_26_32, ↓hp_a_27, ↓hp_s_27, ↓hp_l_27, ↓hp_a_28, ↓hp_s_28, ↓hp_l_28, ↓hp_a_29, ↓hp_s_29, ↓hp_l_29, ↓hp_a_30, ↓hp_s_30, ↓hp_l_30, ↓hp_a_31, ↓hp_s_31, ↓hp_l_31, ↓hp_a_32, ↓hp_s_32, ↓hp_l_32, ↓hp_a_33, ↓hp_s_33, ↓hp_l_33, ↓hp_a_34, ↓hp_s_34, ↓hp_l_34, ↓hp_a_35, ↓hp_s_35, ↓hp_l_35, ↓hp_a_36, ↓hp_s_36, ↓hp_l_36, ↓hp_a_37, ↓hp_s_37, ↓hp_l_37, ↓hp_a_38, ↓hp_s_38, ↓hp_l_38, ↓hp_a_39, ↓hp_s_39, ↓hp_a_40, ↓hp_s_40, ↓hp_a_41, ↓hp_s_41, ↓hp_l_41, ↓hp_a_42, ↓hp_s_42, ↓hp_l_42, ↓hp_a_43, ↓hp_s_43, ↓hp_l_43, ↓hp_a_44, ↓hp_s_44, ↓hp_l_44, ↓hp_a_45, ↓hp_s_45, ↓hp_l_45, ↓hp_a_46, ↓hp_s_46, ↓hp_l_46, ↓hp_a_47, ↓hp_s_47, ↓hp_l_47, ↓hp_a_48, ↓hp_s_48, ↓hp_l_48, ↓hp_a_49, ↓hp_s_49, ↓hp_l_49, ↓hp_a_50, ↓hp_s_50, ↓hp_l_50, m0, m1, m2, m3, n0, n1, n2, n3, iO_wide, lO_sub, lO_mul, lO_neg, lO_add, kl_0, lc_lt, lc_le, lc_gt, lc_ge, lc_eq, y_lt, y_le, y_eq, eb_X12_areOne_7, eb_X12_areOne_11]
        · skip
          rcases Int.lt_or_le 0 (b') with hB | hB
          · skip
            refine ⟨0, ⟨fun h => by omega, fun h => absurd h.2.2.2.2 g5⟩, Or.inl rfl, ?_⟩
            simp (disch := (first | assumption | (unfold i32; omega) | (unfold i64; omega) | omega)) only [↓reduceIte, ki_0, ki_1, ki_2, ki_3, ki_4, ki_5, ki_6, ki_7, ki_8, ki_9, ki_10, ki_11, ki_12, ki_13, ki_14, ki_15, ki_20, ki_21, ki_30, ki_31, ki_40, ki_41, ki_50, ki_51, ki_60, ki_63, ki_64, ki_65, ki_100, ki_158, ki_160, ki_200, ki_212, ki_1000, ki_2000, ki_2001, ki_5000, ki_10000, ki_10001, ki_100000, ki_200000, ki_1000000, ki_2000000, ki_3000000, iO_neg, iO_add, iO_sub, iO_mul, kn_4, kn_8, kn_10, kn_20, kn_24, kn_40, kn_41, kn_50, kn_60, kn_158, kn_160, kn_200, kn_212, kn_2001, tn_lt, fn_lt, tn_le, fn_le, tn_eq, fn_eq, x_lt, x_le, x_eq, x_ix, x_nat, t_lt, f_lt, t_le, f_le, t_eq, f_eq, eq_self, and_self, true_and, and_true, false_and, and_false, if_true, if_false, Int.toNat_natCast, bI_s, bL_s, bA_s, bA_n, bV_s, mq_s, mq_n, en_le, bl_0, bl_1, u_eq, u_ne, w_eq, w_ne, v_eq, v_ne, ↓hp_cc_26, ↓hp_g_26_0, ↓hp_p_26_0, ↓hp_g_26_1, ↓hp_p_26_1, ↓hp_g_26_2, ↓hp_p_26_2, ↓hp_g_26_3, ↓hp_g_26_4, ↓hp_g_26_5, ↓hp_g_26_6, ↓hp_g_26_7, ↓hp_g_26_8, ↓hp_g_26_9, ↓hp_g_26_10, ↓hp_g_26_11, ↓hp_g_26_12, ↓hp_g_26_13, ↓hp_g_26_14, ↓hp_g_26_15, ↓hp_p_26_15, ↓hp_g_26_16, ↓hp_g_26_17, ↓hp_g_26_18, ↓hp_p_26_18, ↓hp_g_26_19, ↓hp_p_26_19, ↓hp_g_26_20, ↓hp_g_26_21, ↓hp_p_26_21, ↓hp_g_26_22, ↓hp_g_26_23, ↓hp_g_26_24, ↓hp_g_26_25, ↓hp_g_26_26, ↓hp_g_26_27, ↓hp_g_26_28, ↓hp_g_26_29, ↓hp_g_26_30, ↓hp_p_26_30, ↓hp_g_26_31, ↓hp_g_26_32, ↓hp_p_26_32, ↓hp_a_27, ↓hp_s_27, ↓hp_l_27, ↓hp_a_28, ↓hp_s_28, ↓hp_l_28, ↓hp_a_29, ↓hp_s_29, ↓hp_l_29, ↓hp_a_30, ↓hp_s_30, ↓hp_l_30, ↓hp_a_31, ↓hp_s_31, ↓hp_l_31, ↓hp_a_32, ↓hp_s_32, ↓hp_l_32, ↓hp_a_33, ↓hp_s_33, ↓hp_l_33, ↓hp_a_34, ↓hp_s_34, ↓hp_l_34, ↓hp_a_35, ↓hp_s_35, ↓hp_l_35, ↓hp_a_36, ↓hp_s_36, ↓hp_l_36, ↓hp_a_37, ↓hp_s_37, ↓hp_l_37, ↓hp_a_38, ↓hp_s_38, ↓hp_l_38, ↓hp_a_39, ↓hp_s_39, ↓hp_a_40, ↓hp_s_40, ↓hp_a_41, ↓hp_s_41, ↓hp_l_41, ↓hp_a_42, ↓hp_s_42, ↓hp_l_42, ↓hp_a_43, ↓hp_s_43, ↓hp_l_43, ↓hp_a_44, ↓hp_s_44, ↓hp_l_44, ↓hp_a_45, ↓hp_s_45, ↓hp_l_45, ↓hp_a_46, ↓hp_s_46, ↓hp_l_46, ↓hp_a_47, ↓hp_s_47, ↓hp_l_47, ↓hp_a_48, ↓hp_s_48, ↓hp_l_48, ↓hp_a_49, ↓hp_s_49, ↓hp_l_49, ↓hp_a_50, ↓hp_s_50, ↓hp_l_50, m0, m1, m2, m3, n0, n1, n2, n3, iO_wide, lO_sub, lO_mul, lO_neg, lO_add, kl_0, lc_lt, lc_le, lc_gt, lc_ge, lc_eq, y_lt, y_le, y_eq, eb_X12_areOne_7, eb_X12_areOne_11]
          · skip
            refine ⟨0, ⟨fun h => by omega, fun h => absurd h.2.2.2.2 g5⟩, Or.inl rfl, ?_⟩
            simp (disch := (first | assumption | (unfold i32; omega) | (unfold i64; omega) | omega)) only [↓reduceIte, ki_0, ki_1, ki_2, ki_3, ki_4, ki_5, ki_6, ki_7, ki_8, ki_9, ki_10, ki_11, ki_12, ki_13, ki_14, ki_15, ki_20, ki_21, ki_30, ki_31, ki_40, ki_41, ki_50, ki_51, ki_60, ki_63, ki_64, ki_65, ki_100, ki_158, ki_160, ki_200, ki_212, ki_1000, ki_2000, ki_2001, ki_5000, ki_10000, ki_10001, ki_100000, ki_200000, ki_1000000, ki_2000000, ki_3000000, iO_neg, iO_add, iO_sub, iO_mul, kn_4, kn_8, kn_10, kn_20, kn_24, kn_40, kn_41, kn_50, kn_60, kn_158, kn_160, kn_200, kn_212, kn_2001, tn_lt, fn_lt, tn_le, fn_le, tn_eq, fn_eq, x_lt, x_le, x_eq, x_ix, x_nat, t_lt, f_lt, t_le, f_le, t_eq, f_eq, eq_self, and_self, true_and, and_true, false_and, and_false, if_true, if_false, Int.toNat_natCast, bI_s, bL_s, bA_s, bA_n, bV_s, mq_s, mq_n, en_le, bl_0, bl_1, u_eq, u_ne, w_eq, w_ne, v_eq, v_ne, ↓hp_cc_26, ↓hp_g_26_0, ↓hp_p_26_0, ↓hp_g_26_1, ↓hp_p_26_1, ↓hp_g_26_2, ↓hp_p_26_2, ↓hp_g_26_3, ↓hp_g_26_4, ↓hp_g_26_5, ↓hp_g_26_6, ↓hp_g_26_7, ↓hp_g_26_8, ↓hp_g_26_9, ↓hp_g_26_10, ↓hp_g_26_11, ↓hp_g_26_12, ↓hp_g_26_13, ↓hp_g_26_14, ↓hp_g_26_15, ↓hp_p_26_15, ↓hp_g_26_16, ↓hp_g_26_17, ↓hp_g_26_18, ↓hp_p_26_18, ↓hp_g_26_19, ↓hp_p_26_19, ↓hp_g_26_20, ↓hp_g_26_21, ↓hp_p_26_21, ↓hp_g_26_22, ↓hp_g_26_23, ↓hp_g_26_24, ↓hp_g_26_25, ↓hp_g_26_26, ↓hp_g_26_27, ↓hp_g_26_28, ↓hp_g_26_29, ↓hp_g_26_30, ↓hp_p_26_30, ↓hp_g_26_31, ↓hp_g_26_32, ↓hp_p_26_32, ↓hp_a_27, ↓hp_s_27, ↓hp_l_27, ↓hp_a_28, ↓hp_s_28, ↓hp_l_28, ↓hp_a_29, ↓hp_s_29, ↓hp_l_29, ↓hp_a_30, ↓hp_s_30, ↓hp_l_30, ↓hp_a_31, ↓hp_s_31, ↓hp_l_31, ↓hp_a_32, ↓hp_s_32, ↓hp_l_32, ↓hp_a_33, ↓hp_s_33, ↓hp_l_33, ↓hp_a_34, ↓hp_s_34, ↓hp_l_34, ↓hp_a_35, ↓hp_s_35, ↓hp_l_35, ↓hp_a_36, ↓hp_s_36, ↓hp_l_36, ↓hp_a_37, ↓hp_s_37, ↓hp_l_37, ↓hp_a_38, ↓hp_s_38, ↓hp_l_38, ↓hp_a_39, ↓hp_s_39, ↓hp_a_40, ↓hp_s_40, ↓hp_a_41, ↓hp_s_41, ↓hp_l_41, ↓hp_a_42, ↓hp_s_42, ↓hp_l_42, ↓hp_a_43, ↓hp_s_43, ↓hp_l_43, ↓hp_a_44, ↓hp_s_44, ↓hp_l_44, ↓hp_a_45, ↓hp_s_45, ↓hp_l_45, ↓hp_a_46, ↓hp_s_46, ↓hp_l_46, ↓hp_a_47, ↓hp_s_47, ↓hp_l_47, ↓hp_a_48, ↓hp_s_48, ↓hp_l_48, ↓hp_a_49, ↓hp_s_49, ↓hp_l_49, ↓hp_a_50, ↓hp_s_50, ↓hp_l_50, m0, m1, m2, m3, n0, n1, n2, n3, iO_wide, lO_sub, lO_mul, lO_neg, lO_add, kl_0, lc_lt, lc_le, lc_gt, lc_ge, lc_eq, y_lt, y_le, y_eq, eb_X12_areOne_7, eb_X12_areOne_11]
  · refine ⟨0, ⟨fun h => by omega, fun h => absurd h.2.2.1 g3⟩, Or.inl rfl, ?_⟩
    simp (disch := (first | assumption | (unfold i32; omega) | (unfold i64; omega) | omega)) only [↓reduceIte, ki_0, ki_1, ki_2, ki_3, ki_4, ki_5, ki_6, ki_7, ki_8, ki_9, ki_10, ki_11, ki_12, ki_13, ki_14, ki_15, ki_20, ki_21, ki_30, ki_31, ki_40, ki_41, ki_50, ki_51, ki_60, ki_63, ki_64, ki_65, ki_100, ki_158, ki_160, ki_200, ki_212, ki_1000, ki_2000, ki_2001, ki_5000, ki_10000, ki_10001, ki_100000, ki_200000, ki_1000000, ki_2000000, ki_3000000, iO_neg, iO_add, iO_sub, iO_mul, kn_4, kn_8, kn_10, kn_20, kn_24, kn_40, kn_41, kn_50, kn_60, kn_158, kn_160, kn_200, kn_212, kn_2001, tn_lt, fn_lt, tn_le, fn_le, tn_eq, fn_eq, x_lt, x_le, x_eq, x_ix, x_nat, t_lt, f_lt, t_le, f_le, t_eq, f_eq, eq_self, and_self, true_and, and_true, false_and, and_false, if_true, if_false, Int.toNat_natCast, bI_s, bL_s, bA_s, bA_n, bV_s, mq_s, mq_n, en_le, bl_0, bl_1, u_eq, u_ne, w_eq, w_ne, v_eq, v_ne, ↓hp_cc_26, ↓hp_g_26_0, ↓hp_p_26_0, ↓hp_g_26_1, ↓hp_p_26_1, ↓hp_g_26_2, ↓hp_p_26_2, ↓hp_g_26_3, ↓hp_g_26_4, ↓hp_g_26_5, ↓hp_g_26_6, ↓hp_g_26_7, ↓hp_g_26_8, ↓hp_g_26_9, ↓hp_g_26_10, ↓hp_g_26_11, ↓hp_g_26_12, ↓hp_g_26_13, ↓hp_g_26_14, ↓hp_g_26_15, ↓hp_p_26_15, ↓hp_g_26_16, ↓hp_g_26_17, ↓hp_g_26_18, ↓hp_p_26_18, ↓hp_g_26_19, ↓hp_p_26_19, ↓hp_g_26_20, ↓hp_g_26_21, ↓hp_p_26_21, ↓hp_g_26_22, ↓hp_g_26_23, ↓hp_g_26_24, ↓hp_g_26_25, ↓hp_g_26_26, ↓hp_g_26_27, ↓hp_g_26_28, ↓hp_g_26_29, ↓hp_g_26_30, ↓hp_p_26_30, ↓hp_g_26_31, ↓hp_g_26_32, ↓hp_p_26_32, ↓hp_a_27, ↓hp_s_27, ↓hp_l_27, ↓hp_a_28, ↓hp_s_28, ↓hp_l_28, ↓hp_a_29, ↓hp_s_29, ↓hp_l_29, ↓hp_a_30, ↓hp_s_30, ↓hp_l_30, ↓hp_a_31, ↓hp_s_31, ↓hp_l_31, ↓hp_a_32, ↓hp_s_32, ↓hp_l_32, ↓hp_a_33, ↓hp_s_33, ↓hp_l_33, ↓hp_a_34, ↓hp_s_34, ↓hp_l_34, ↓hp_a_35, ↓hp_s_35, ↓hp_l_35, ↓hp_a_36, ↓hp_s_36, ↓hp_l_36, ↓hp_a_37, ↓hp_s_37, ↓hp_l_37, ↓hp_a_38, ↓hp_s_38, ↓hp_l_38, ↓hp_a_39, ↓hp_s_39, ↓hp_a_40, ↓hp_s_40, ↓hp_a_41, ↓hp_s_41, ↓hp_l_41, ↓hp_a_42, ↓hp_s_42, ↓hp_l_42, ↓hp_a_43, ↓hp_s_43, ↓hp_l_43, ↓hp_a_44, ↓hp_s_44, ↓hp_l_44, ↓hp_a_45, ↓hp_s_45, ↓hp_l_45, ↓hp_a_46, ↓hp_s_46, ↓hp_l_46, ↓hp_a_47, ↓hp_s_47, ↓hp_l_47, ↓hp_a_48, ↓hp_s_48, ↓hp_l_48, ↓hp_a_49, ↓hp_s_49, ↓hp_l_49, ↓hp_a_50, ↓hp_s_50, ↓hp_l_50, m0, m1, m2, m3, n0, n1, n2, n3, iO_wide, lO_sub, lO_mul, lO_neg, lO_add, kl_0, lc_lt, lc_le, lc_gt, lc_ge, lc_eq, y_lt, y_le, y_eq, eb_X12_areOne_7, eb_X12_areOne_11]
theorem m_whn (hk : k < 8) (hM : MS MA k l.1 l.2.1 l.2.2.1 l.2.2.2) (hS : SL l.1 l.2.1 l.2.2.1 l.2.2.2) {N : Nat} (hN : N ≤ 100000) : f_X12_wholeOf sc (n + 3) 26 (iO (k : Int)) (iO (N : Int)) (hp XI XA XP XC MI MA ML D) = some (some (.int (iO (WNn l N))), hp XI XA XP XC MI MA ML D) := e_mwhole hk hM hS (by omega) (by omega)
/-- the first multiple that is 1 or more -/
theorem idx1 {W : Nat → Int} (h2 : 1 ≤ W 2) : idxw W 1 = if W 1 = 0 then 2 else 1 := by
  show 1 + cntw W 1 0 = _
  unfold cntw
  show 1 + (if W 1 = 0 then (if W 2 = 0 then 2 else 1) else 0) = _
  by_cases g : W 1 = 0
  · rw [if_pos g, if_pos g, if_neg (by omega)]
  · rw [if_neg g, if_neg g]
theorem m_share67 (hk : k < 8) (hk' : k' < 8) (hM : MS MA k l.1 l.2.1 l.2.2.1 l.2.2.2) (hM' : MS MA k' m.1 m.2.1 m.2.2.1 m.2.2.2) (hS : SL l.1 l.2.1 l.2.2.1 l.2.2.2) (hS' : SL m.1 m.2.1 m.2.2.1 m.2.2.2) (hs : 0 < sgn l (-1) 2) (hs' : 0 < sgn m (-1) 2) : b_X12_share_6 sc (n + 3) 26 (iO (k : Int)) (iO (k' : Int)) (iO 1) (iO 1) (hp XI XA XP XC MI MA ML D) = b_X12_share_9 sc (n + 3) 26 (iO (k : Int)) (iO (k' : Int)) (iO (idxw (WNn l) 1 : Int)) (iO (idxw (WNn m) 1 : Int)) (iO 1) (hp XI XA XP XC MI MA ML D) := by
  obtain ⟨o0, o1, o2, o3⟩ := WNn_ok hS hs
  obtain ⟨p0, p1, p2, p3⟩ := WNn_ok hS' hs'
  have a1 := o0 1
  have a2 := o3 1
  have a3 : 1 ≤ WNn l 2 := by have t : WNn l 0 + 1 ≤ WNn l 2 := o2 0; have := o0 0; omega
  have a4 := o3 2
  have c1 := p0 1
  have c2 := p3 1
  have c3 : 1 ≤ WNn m 2 := by have t : WNn m 0 + 1 ≤ WNn m 2 := p2 0; have := p0 0; omega
  have c4 := p3 2
  have e1 := m_whn (sc := sc) (n := n) (XI := XI) (XA := XA) (XP := XP) (XC := XC) (MI := MI) (ML := ML) (D := D) hk hM hS (N := 1) (by omega)
  have e2 := m_whn (sc := sc) (n := n) (XI := XI) (XA := XA) (XP := XP) (XC := XC) (MI := MI) (ML := ML) (D := D) hk hM hS (N := 2) (by omega)
  have f1 := m_whn (sc := sc) (n := n) (XI := XI) (XA := XA) (XP := XP) (XC := XC) (MI := MI) (ML := ML) (D := D) hk' hM' hS' (N := 1) (by omega)
  have f2 := m_whn (sc := sc) (n := n) (XI := XI) (XA := XA) (XP := XP) (XC := XC) (MI := MI) (ML := ML) (D := D) hk' hM' hS' (N := 2) (by omega)
  have e1 : f_X12_wholeOf sc (n + 3) 26 (iO (k : Int)) (iO 1) (hp XI XA XP XC MI MA ML D) = _ := e1
  have e2 : f_X12_wholeOf sc (n + 3) 26 (iO (k : Int)) (iO (1 + 1)) (hp XI XA XP XC MI MA ML D) = _ := e2
  have f1 : f_X12_wholeOf sc (n + 3) 26 (iO (k' : Int)) (iO 1) (hp XI XA XP XC MI MA ML D) = _ := f1
  have f2 : f_X12_wholeOf sc (n + 3) 26 (iO (k' : Int)) (iO (1 + 1)) (hp XI XA XP XC MI MA ML D) = _ := f2
  rw [idx1 a3, idx1 c3]
  clear o0 o1 o2 o3 p0 p1 p2 p3 hM hM' hs hs'
  generalize WNn l 1 = P1 at *
  generalize WNn l 2 = P2 at *
  generalize WNn m 1 = Q1 at *
  generalize WNn m 2 = Q2 at *
  have st : b_X12_share_6 sc (n + 3) 26 (iO (k : Int)) (iO (k' : Int)) (iO 1) (iO 1) (hp XI XA XP XC MI MA ML D) = b_X12_share_7 sc (n + 3) 26 (iO (k : Int)) (iO (k' : Int)) (iO ((if P1 = 0 then 2 else 1 : Nat) : Int)) (iO 1) (hp XI XA XP XC MI MA ML D) := by
    by_cases g : P1 = 0
    · rw [if_pos g, eb_X12_share_6, hp_cc_26, if_pos rfl, e1, bI_s, if_neg (show ¬ 1 ≤ iO P1 from nle (a := 1) (b := P1) (by unfold i32; omega) (by unfold i32; omega) (by omega)), en_le, ki_1, iO_add, eb_X12_share_6, hp_cc_26, if_pos rfl, e2, bI_s, if_pos (show 1 ≤ iO P2 from ple (a := 1) (b := P2) (by unfold i32; omega) (by unfold i32; omega) (by omega))]
      rfl
    · rw [if_neg g, eb_X12_share_6, hp_cc_26, if_pos rfl, e1, bI_s, if_pos (show 1 ≤ iO P1 from ple (a := 1) (b := P1) (by unfold i32; omega) (by unfold i32; omega) (by omega))]
      rfl
  rw [st]
  generalize iO ((if P1 = 0 then 2 else 1 : Nat) : Int) = I1
  by_cases g : Q1 = 0
  · rw [if_pos g, eb_X12_share_7, hp_cc_26, if_pos rfl, f1, bI_s, if_neg (show ¬ 1 ≤ iO Q1 from nle (a := 1) (b := Q1) (by unfold i32; omega) (by unfold i32; omega) (by omega)), en_le, ki_1, iO_add, eb_X12_share_7, hp_cc_26, if_pos rfl, f2, bI_s, if_pos (show 1 ≤ iO Q2 from ple (a := 1) (b := Q2) (by unfold i32; omega) (by unfold i32; omega) (by omega))]
    rfl
  · rw [if_neg g, eb_X12_share_7, hp_cc_26, if_pos rfl, f1, bI_s, if_pos (show 1 ≤ iO Q1 from ple (a := 1) (b := Q1) (by unfold i32; omega) (by unfold i32; omega) (by omega))]
    rfl
theorem m_share9 (hk : k < 8) (hk' : k' < 8) (hM : MS MA k l.1 l.2.1 l.2.2.1 l.2.2.2) (hM' : MS MA k' m.1 m.2.1 m.2.2.1 m.2.2.2) (hS : SL l.1 l.2.1 l.2.2.1 l.2.2.2) (hS' : SL m.1 m.2.1 m.2.2.1 m.2.2.2) (hs : 0 < sgn l (-1) 2) (hs' : 0 < sgn m (-1) 2) : ∀ (j v : Nat), v + j = 5001 → 1 ≤ v → b_X12_share_9 sc (n + 3) 26 (iO (k : Int)) (iO (k' : Int)) (iO (idxw (WNn l) v : Int)) (iO (idxw (WNn m) v : Int)) (iO (v : Int)) (hp XI XA XP XC MI MA ML D) = some (some (.int (iO (shrw (WNn l) (WNn m) j v))), hp XI XA XP XC MI MA ML D) := by
  obtain ⟨o0, o1, o2, o3⟩ := WNn_ok hS hs
  obtain ⟨p0, p1, p2, p3⟩ := WNn_ok hS' hs'
  intro j
  induction j with
  | zero =>
    intro v hv h1
    rw [eb_X12_share_9, shrw]
    clear o0 o1 o2 o3 p0 p1 p2 p3 hM hM'
    simp (disch := (first | assumption | (unfold i32; omega) | (unfold i64; omega) | omega)) only [↓reduceIte, ki_0, ki_1, ki_2, ki_3, ki_4, ki_5, ki_6, ki_7, ki_8, ki_9, ki_10, ki_11, ki_12, ki_13, ki_14, ki_15, ki_20, ki_21, ki_30, ki_31, ki_40, ki_41, ki_50, ki_51, ki_60, ki_63, ki_64, ki_65, ki_100, ki_158, ki_160, ki_200, ki_212, ki_1000, ki_2000, ki_2001, ki_5000, ki_10000, ki_10001, ki_100000, ki_200000, ki_1000000, ki_2000000, ki_3000000, iO_neg, iO_add, iO_sub, iO_mul, kn_4, kn_8, kn_10, kn_20, kn_24, kn_40, kn_41, kn_50, kn_60, kn_158, kn_160, kn_200, kn_212, kn_2001, tn_lt, fn_lt, tn_le, fn_le, tn_eq, fn_eq, x_lt, x_le, x_eq, x_ix, x_nat, t_lt, f_lt, t_le, f_le, t_eq, f_eq, eq_self, and_self, true_and, and_true, false_and, and_false, if_true, if_false, Int.toNat_natCast, bI_s, bL_s, bA_s, bA_n, bV_s, mq_s, mq_n, en_le, bl_0, bl_1, u_eq, u_ne, w_eq, w_ne, v_eq, v_ne]
  | succ j ih =>
    intro v hv h1
    have i1 := idxw_le (W := WNn l) v
    have i2 := idxw_le (W := WNn m) v
    have g1 := idxw_ge o0 o1 o2 v
    have g2 := idxw_ge p0 p1 p2 v
    have ih' := ih (v + 1) (by omega) (by omega)
    rw [idxw, idxw] at ih'
    -- the first slope
    have st1 : ∀ J : Int32, b_X12_share_10 sc (n + 3) 26 (iO (k : Int)) (iO (k' : Int)) (iO (idxw (WNn l) v : Int)) J (iO (v : Int)) (iO 0) (hp XI XA XP XC MI MA ML D) = b_X12_share_11 sc (n + 3) 26 (iO (k : Int)) (iO (k' : Int)) (iO ((idxw (WNn l) v + cntw (WNn l) (idxw (WNn l) v) v : Nat) : Int)) J (iO (v : Int)) (iO (cntw (WNn l) (idxw (WNn l) v) v : Int)) (hp XI XA XP XC MI MA ML D) := by
      intro J
      generalize hI : idxw (WNn l) v = I at *
      have e0 := m_whn (sc := sc) (n := n) (XI := XI) (XA := XA) (XP := XP) (XC := XC) (MI := MI) (ML := ML) (D := D) hk hM hS (N := I) (by omega)
      have e1 := m_whn (sc := sc) (n := n) (XI := XI) (XA := XA) (XP := XP) (XC := XC) (MI := MI) (ML := ML) (D := D) hk hM hS (N := I + 1) (by omega)
      have e2 := m_whn (sc := sc) (n := n) (XI := XI) (XA := XA) (XP := XP) (XC := XC) (MI := MI) (ML := ML) (D := D) hk hM hS (N := I + 2) (by omega)
      have b0 := o0 I
      have b1 := o1 I
      have b2 := o2 I
      have b3 := o3 I
      have b4 := o3 (I + 1)
      have b5 := o3 (I + 2)
      have b6 := o0 (I + 1)
      have b7 := o0 (I + 2)
      rw [show ((I + 1 : Nat) : Int) = (I : Int) + 1 by omega] at e1 b4
      rw [show ((I + 2 : Nat) : Int) = (I : Int) + 1 + 1 by omega] at e2 b5
      unfold cntw
      generalize WNn l I = P0 at *
      generalize WNn l (I + 1) = P1 at *
      generalize WNn l (I + 2) = P2 at *
      have ne : ∀ x : Int, 0 ≤ x → x ≤ 500000 → (iO x = iO (v : Int) ↔ x = (v : Int)) := fun x hx hx2 => iO_eq (by unfold i32; omega) (by unfold i32; omega)
      by_cases c0 : P0 = (v : Int)
      · rw [if_pos c0, eb_X12_share_10, hp_cc_26, if_pos rfl, e0, bI_s, if_pos ((ne P0 (by omega) (by omega)).mpr c0), en_le, en_le, ki_1, iO_add, iO_add, eb_X12_share_10, hp_cc_26, if_pos rfl, e1, bI_s]
        by_cases c1 : P1 = (v : Int)
        · rw [if_pos c1, if_pos ((ne P1 (by omega) (by omega)).mpr c1), en_le, en_le, ki_1, iO_add, iO_add, eb_X12_share_10, hp_cc_26, if_pos rfl, e2, bI_s, if_neg (fun h => by have := (ne P2 (by omega) (by omega)).mp h; omega)]
          rfl
        · rw [if_neg c1, if_neg (fun h => c1 ((ne P1 (by omega) (by omega)).mp h))]
          rfl
      · rw [if_neg c0, eb_X12_share_10, hp_cc_26, if_pos rfl, e0, bI_s, if_neg (fun h => c0 ((ne P0 (by omega) (by omega)).mp h))]
        rfl
    -- the second one
    have st2 : ∀ (I1 : Int32) (t : Nat), t ≤ 2 → b_X12_share_11 sc (n + 3) 26 (iO (k : Int)) (iO (k' : Int)) I1 (iO (idxw (WNn m) v : Int)) (iO (v : Int)) (iO (t : Int)) (hp XI XA XP XC MI MA ML D) = if t + cntw (WNn m) (idxw (WNn m) v) v = 1 then b_X12_share_9 sc (n + 3) 26 (iO (k : Int)) (iO (k' : Int)) I1 (iO ((idxw (WNn m) v + cntw (WNn m) (idxw (WNn m) v) v : Nat) : Int)) (iO ((v + 1 : Nat) : Int)) (hp XI XA XP XC MI MA ML D) else some (some (.int (iO (v : Int))), hp XI XA XP XC MI MA ML D) := by
      intro I1 t ht
      generalize hI : idxw (WNn m) v = I at *
      have e0 := m_whn (sc := sc) (n := n) (XI := XI) (XA := XA) (XP := XP) (XC := XC) (MI := MI) (ML := ML) (D := D) hk' hM' hS' (N := I) (by omega)
      have e1 := m_whn (sc := sc) (n := n) (XI := XI) (XA := XA) (XP := XP) (XC := XC) (MI := MI) (ML := ML) (D := D) hk' hM' hS' (N := I + 1) (by omega)
      have e2 := m_whn (sc := sc) (n := n) (XI := XI) (XA := XA) (XP := XP) (XC := XC) (MI := MI) (ML := ML) (D := D) hk' hM' hS' (N := I + 2) (by omega)
      have b0 := p0 I
      have b1 := p1 I
      have b2 := p2 I
      have b3 := p3 I
      have b4 := p3 (I + 1)
      have b5 := p3 (I + 2)
      have b6 := p0 (I + 1)
      have b7 := p0 (I + 2)
      rw [show ((I + 1 : Nat) : Int) = (I : Int) + 1 by omega] at e1 b4
      rw [show ((I + 2 : Nat) : Int) = (I : Int) + 1 + 1 by omega] at e2 b5
      unfold cntw
      generalize WNn m I = P0 at *
      generalize WNn m (I + 1) = P1 at *
      generalize WNn m (I + 2) = P2 at *
      have ne : ∀ x : Int, 0 ≤ x → x ≤ 500000 → (iO x = iO (v : Int) ↔ x = (v : Int)) := fun x hx hx2 => iO_eq (by unfold i32; omega) (by unfold i32; omega)
      have n1 : ∀ x : Int, 0 ≤ x → x ≤ 10 → (iO x = 1 ↔ x = 1) := fun x hx hx2 => iO_eq (a := x) (b := 1) (by unfold i32; omega) (by unfold i32; omega)
      have fin : ∀ (x : Nat) (J : Int32), x ≤ 10 → (if iO (x : Int) = 1 then en_le (iO (v : Int) + 1) (fun x6 => b_X12_share_9 sc (n + 3) 26 (iO (k : Int)) (iO (k' : Int)) I1 J x6 (hp XI XA XP XC MI MA ML D)) else some (some (.int (iO (v : Int))), hp XI XA XP XC MI MA ML D)) = if x = 1 then b_X12_share_9 sc (n + 3) 26 (iO (k : Int)) (iO (k' : Int)) I1 J (iO ((v + 1 : Nat) : Int)) (hp XI XA XP XC MI MA ML D) else some (some (.int (iO (v : Int))), hp XI XA XP XC MI MA ML D) := by
        intro x J hx
        by_cases c : x = 1
        · rw [if_pos c, if_pos ((n1 (x : Int) (by omega) (by omega)).mpr (by omega)), en_le, ki_1, iO_add]
          rfl
        · rw [if_neg c, if_neg (fun h => c (by have := (n1 (x : Int) (by omega) (by omega)).mp h; omega))]
      by_cases c0 : P0 = (v : Int)
      · rw [if_pos c0, eb_X12_share_11, hp_cc_26, if_pos rfl, e0, bI_s, if_pos ((ne P0 (by omega) (by omega)).mpr c0), en_le, en_le, ki_1, iO_add, iO_add, eb_X12_share_11, hp_cc_26, if_pos rfl, e1, bI_s]
        by_cases c1 : P1 = (v : Int)
        · rw [if_pos c1, if_pos ((ne P1 (by omega) (by omega)).mpr c1), en_le, en_le, ki_1, iO_add, iO_add, eb_X12_share_11, hp_cc_26, if_pos rfl, e2, bI_s, if_neg (fun h => by have := (ne P2 (by omega) (by omega)).mp h; omega)]
          exact fin (t + 2) _ (by omega)
        · rw [if_neg c1, if_neg (fun h => c1 ((ne P1 (by omega) (by omega)).mp h))]
          exact fin (t + 1) _ (by omega)
      · rw [if_neg c0, eb_X12_share_11, hp_cc_26, if_pos rfl, e0, bI_s, if_neg (fun h => c0 ((ne P0 (by omega) (by omega)).mp h))]
        exact fin t _ (by omega)
    have c1 : cntw (WNn l) (idxw (WNn l) v) v ≤ 2 := by unfold cntw; split <;> (try split) <;> omega
    rw [eb_X12_share_9, if_neg (show ¬ 5000 < iO (v : Int) from nlt (a := 5000) (b := (v : Int)) (by unfold i32; omega) (by unfold i32; omega) (by omega))]
    refine Eq.trans (st1 _) ?_
    rw [st2 _ _ c1, shrw]
    by_cases c : cntw (WNn l) (idxw (WNn l) v) v + cntw (WNn m) (idxw (WNn m) v) v = 1
    · rw [if_pos c, if_pos c]
      exact ih'
    · rw [if_neg c, if_neg c]
end SHM
section SHN
variable {sc : en_S} {n : Nat} {S : ST5}
theorem mc_share (hS : OK5 S) {r s : Int} (hr : i32 r) (hs : i32 s) : MC S S (p_share S r s) (fun z => f_X12_share sc (n + 40) 26 (iO r) (iO s) z) := by
  apply mc_ask
  intro XI XA XP XC MI MA ML D hV
  have h8 := hS.1
  show f_X12_share sc (n + 40) 26 (iO r) (iO s) _ = _
  rw [e_X12_share]
  unfold p_share
  cases hq : slq S r with
  | none =>
    have := slq_none hq
    rw [hp_cc_26, if_pos rfl, e_misSlope hV hS hr, if_neg (by omega)]
    rfl
  | some l =>
    obtain ⟨k, rfl, hk, hq1'⟩ := slq_some hq
    have hM := hV.2.2.2.2.1 k l hq1'
    have hSl := hS.2.2.1 l (List.mem_of_getElem? hq1')
    rw [hp_cc_26, if_pos rfl, e_misSlope hV hS hr, if_pos (by omega), bI_s, if_neg (show ¬ iO 1 = 0 by decide), hp_cc_26, if_pos rfl, e_misSlope hV hS hs]
    cases hq2 : slq S s with
    | none =>
      have := slq_none hq2
      rw [if_neg (by omega)]
      rfl
    | some m =>
      obtain ⟨k', rfl, hk', hq2'⟩ := slq_some hq2
      have hM' := hV.2.2.2.2.1 k' m hq2'
      have hSm := hS.2.2.1 m (List.mem_of_getElem? hq2')
      obtain ⟨w, w1, w2, w3⟩ := m_areOne (sc := sc) (n := n + 38) (XI := XI) (XA := XA) (XP := XP) (XC := XC) (MI := MI) (ML := ML) (D := D) (k := k) (k' := k') (by omega) (by omega) hM hM' hSl hSm
      have sd : ∀ (q : Nat) (u : SL4), q < 8 → MS MA q u.1 u.2.1 u.2.2.1 u.2.2.2 → SL u.1 u.2.1 u.2.2.1 u.2.2.2 → f_X12_side sc (n + 39) 26 (iO (q : Int)) 1 1 2 (hp XI XA XP XC MI MA ML D) = some (some (.int (iO (sgn u (-1) 2))), hp XI XA XP XC MI MA ML D) := by
        intro q u hq8 hMu hSu
        obtain ⟨a1, a2, b1, b2, c1, c2, d1, d2, -⟩ := id hSu
        have s1 := sq_bd (x := 2 * u.1 * 1 - 1 * u.2.2.1) (K := 3000) (by omega) (by omega)
        have s2 := sq_bd (x := 2 * u.2.1 * 1) (K := 40) (by omega) (by omega)
        have s3 := mul_bd (x := 2 * u.2.1 * 1 * (2 * u.2.1 * 1)) (y := u.2.2.2) (a := 1600) (b := 50) (by omega) (by omega) (by omega) d2
        have h := e_side (sc := sc) (n := n + 37) (XI := XI) (XA := XA) (XP := XP) (XC := XC) (MI := MI) (ML := ML) (D0 := D) hq8 hMu hSu (N := 1) (m := 1) (q := 2) (by unfold i64; omega) (by unfold i64; omega) (by unfold i64; omega) (by unfold i64; omega)
        have e : sg (2 * u.1 * 1 - 1 * u.2.2.1) (2 * u.2.1 * 1) u.2.2.2 = sgn u (-1) 2 := by
          unfold sgn
          congr 1 <;> omega
        rw [e] at h
        exact h
      have s1 := sd k l (by omega) hM hSl
      have s2 := sd k' m (by omega) hM' hSm
      have r1 : sgn l (-1) 2 = -1 ∨ sgn l (-1) 2 = 0 ∨ sgn l (-1) 2 = 1 := sg_range _ _ _
      have r2 : sgn m (-1) 2 = -1 ∨ sgn m (-1) 2 = 0 ∨ sgn m (-1) 2 = 1 := sg_range _ _ _
      rw [if_pos (by omega), bI_s, if_neg (show ¬ iO 1 = 0 by decide), hp_cc_26, if_pos rfl, w3, bI_s]
      dsimp only
      rcases w2 with e | e
      · rw [if_neg (show ¬ oneP l m from fun h => by have := w1.mpr h; omega), e, if_pos (show iO 0 = 0 from rfl), hp_cc_26, if_pos rfl, s1, bI_s]
        by_cases g1 : sgn l (-1) 2 ≤ 0
        · rw [if_pos (show iO (sgn l (-1) 2) ≤ 0 from ple (a := sgn l (-1) 2) (b := 0) (by unfold i32; omega) (by unfold i32; omega) g1), if_pos (Or.inl g1)]
          rfl
        · rw [if_neg (show ¬ iO (sgn l (-1) 2) ≤ 0 from nle (a := sgn l (-1) 2) (b := 0) (by unfold i32; omega) (by unfold i32; omega) (by omega)), hp_cc_26, if_pos rfl, s2, bI_s]
          by_cases g2 : sgn m (-1) 2 ≤ 0
          · rw [if_neg (show ¬ 0 < iO (sgn m (-1) 2) from nlt (a := 0) (b := sgn m (-1) 2) (by unfold i32; omega) (by unfold i32; omega) (by omega)), if_pos (Or.inr g2)]
            rfl
          · rw [if_pos (show 0 < iO (sgn m (-1) 2) from plt (a := 0) (b := sgn m (-1) 2) (by unfold i32; omega) (by unfold i32; omega) (by omega)), if_neg (by omega)]
            have t1 := m_share67 (sc := sc) (n := n + 36) (XI := XI) (XA := XA) (XP := XP) (XC := XC) (MI := MI) (ML := ML) (D := D) (k := k) (k' := k') (by omega) (by omega) hM hM' hSl hSm (by omega) (by omega)
            have t2 := m_share9 (sc := sc) (n := n + 36) (XI := XI) (XA := XA) (XP := XP) (XC := XC) (MI := MI) (ML := ML) (D := D) (k := k) (k' := k') (by omega) (by omega) hM hM' hSl hSm (by omega) (by omega) 5000 1 (by omega) (by omega)
            exact t1.trans t2
      · rw [if_pos (w1.mp e), e, if_neg (show ¬ iO 1 = 0 by decide)]
        rfl
end SHN
