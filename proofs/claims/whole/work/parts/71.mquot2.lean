/-! THE MODEL's quotients: fractions; quotient -/
section MQ2
variable {sc : en_S} {n : Nat} {XI : Nat → Int32} {XA : Nat → Nat → Int32} {XP : Nat → Nat → Option Nat} {XC : Value} {MI : Nat → Int32} {MA : Nat → Nat → Int32} {D0 : en_H}
theorem m_qrat {D : Int} (hD : 2 ≤ D) (hD2 : D ≤ 50) : ∀ (k cnt : Nat) (a c : Int) (ML : Nat → Nat → Int64), cnt + k = 20 → 0 ≤ a → a ≤ 1000 → 1 ≤ c → c ≤ 1000 → ∃ ML', b_X12_quotientsOf_1 sc (n + 2) 26 (lO a) (lO 0) (lO c) (lO D) 1 (hp XI XA XP XC (va_up MI 4 (iO (cnt : Nat))) MA ML D0) = some (none, hp XI XA XP XC (va_up MI 4 (iO ((cnt + (ql k a 0 c D).length : Nat) : Int))) MA ML' D0) ∧ (∀ i, i < cnt → ML' 0 i = ML 0 i) ∧ (∀ (i : Nat) (x : Int), (ql k a 0 c D)[i]? = some x → ML' 0 (cnt + i) = lO x) ∧ (∀ m, m ≠ 0 → ML' m = ML m) := by
  intro k
  induction k with
  | zero =>
    intro cnt a c ML hc h1 h2 h3 h4
    obtain rfl : cnt = 20 := by omega
    refine ⟨ML, ?_, fun _ _ => rfl, fun i x h => by simp [ql] at h, fun _ _ => rfl⟩
    rw [eb_X12_quotientsOf_1]
    simp (disch := (first | assumption | (unfold i32; omega) | (unfold i64; omega) | omega)) only [ki_0, ki_1, ki_2, ki_3, ki_4, ki_5, ki_6, ki_7, ki_8, ki_9, ki_10, ki_11, ki_12, ki_13, ki_14, ki_15, ki_20, ki_21, ki_30, ki_31, ki_40, ki_41, ki_50, ki_51, ki_60, ki_63, ki_64, ki_65, ki_100, ki_158, ki_160, ki_200, ki_212, ki_1000, ki_2000, ki_2001, ki_5000, ki_10000, ki_10001, ki_100000, ki_200000, ki_1000000, ki_2000000, ki_3000000, iO_neg, iO_add, iO_sub, iO_mul, kn_4, kn_8, kn_10, kn_20, kn_24, kn_40, kn_41, kn_50, kn_60, kn_158, kn_160, kn_200, kn_212, kn_2001, tn_lt, fn_lt, tn_le, fn_le, tn_eq, fn_eq, x_lt, x_le, x_eq, x_ix, x_nat, t_lt, f_lt, t_le, f_le, t_eq, f_eq, eq_self, and_self, true_and, and_true, false_and, and_false, if_true, if_false, Int.toNat_natCast, bI_s, bL_s, bA_s, bA_n, bV_s, mq_s, mq_n, en_le, bl_0, bl_1, u_eq, u_ne, w_eq, w_ne, v_eq, v_ne, hp_cc_26, hp_g_26_0, hp_p_26_0, hp_g_26_1, hp_p_26_1, hp_g_26_2, hp_p_26_2, hp_g_26_3, hp_g_26_4, hp_g_26_5, hp_g_26_6, hp_g_26_7, hp_g_26_8, hp_g_26_9, hp_g_26_10, hp_g_26_11, hp_g_26_12, hp_g_26_13, hp_g_26_14, hp_g_26_15, hp_p_26_15, hp_g_26_16, hp_g_26_17, hp_g_26_18, hp_p_26_18, hp_g_26_19, hp_p_26_19, hp_g_26_20, hp_g_26_21, hp_p_26_21, hp_g_26_22, hp_g_26_23, hp_g_26_24, hp_g_26_25, hp_g_26_26, hp_g_26_27, hp_g_26_28, hp_g_26_29, hp_g_26_30, hp_p_26_30, hp_g_26_31, hp_g_26_32, hp_p_26_32, hp_a_27, hp_s_27, hp_l_27, hp_a_28, hp_s_28, hp_l_28, hp_a_29, hp_s_29, hp_l_29, hp_a_30, hp_s_30, hp_l_30, hp_a_31, hp_s_31, hp_l_31, hp_a_32, hp_s_32, hp_l_32, hp_a_33, hp_s_33, hp_l_33, hp_a_34, hp_s_34, hp_l_34, hp_a_35, hp_s_35, hp_l_35, hp_a_36, hp_s_36, hp_l_36, hp_a_37, hp_s_37, hp_l_37, hp_a_38, hp_s_38, hp_l_38, hp_a_39, hp_s_39, hp_a_40, hp_s_40, hp_a_41, hp_s_41, hp_l_41, hp_a_42, hp_s_42, hp_l_42, hp_a_43, hp_s_43, hp_l_43, hp_a_44, hp_s_44, hp_l_44, hp_a_45, hp_s_45, hp_l_45, hp_a_46, hp_s_46, hp_l_46, hp_a_47, hp_s_47, hp_l_47, hp_a_48, hp_s_48, hp_l_48, hp_a_49, hp_s_49, hp_l_49, hp_a_50, hp_s_50, hp_l_50]
    rfl
  | succ k ih =>
    intro cnt a c ML hc h1 h2 h3 h4
    have hFB : FB a 0 c D := ⟨by omega, by omega, by omega, by omega, by omega, by omega, hD, hD2, fun h => absurd rfl h, Or.inl ⟨by omega, Or.inl h1⟩⟩
    have hfl : ∀ z, f_X12_floorOf sc (n + 2) (lO a) (lO 0) (lO c) (lO D) z = some (some (.long (lO (a / c))), z) := fun z => by
      rw [← whl_0 a D c]; exact m_floor hFB
    have m1 := Int.emod_nonneg a (show c ≠ 0 by omega)
    have m2 := Int.emod_lt_of_pos a (show 0 < c by omega)
    have e1 : a - a / c * c = a % c := by
      have := Int.emod_add_mul_ediv a c
      rw [Int.mul_comm] at this
      omega
    have hz0 : lg_cmp (lO 0) 0 = 0 := by decide
    have hz1 : lg_cmp (lO 0) (lO 0) = iO 0 := by decide
    rw [ql_0 (by omega)]
    by_cases g : a % c = 0
    · rw [if_pos g]
      refine ⟨va_up ML 0 (vp_updL (ML 0) cnt (lO (a / c))), ?_, ?_, ?_, fun m hm => w_ne hm⟩
      · rw [eb_X12_quotientsOf_1]
        clear ih hFB
        simp (disch := (first | assumption | (unfold i32; omega) | (unfold i64; omega) | omega)) only [ki_0, ki_1, ki_2, ki_3, ki_4, ki_5, ki_6, ki_7, ki_8, ki_9, ki_10, ki_11, ki_12, ki_13, ki_14, ki_15, ki_20, ki_21, ki_30, ki_31, ki_40, ki_41, ki_50, ki_51, ki_60, ki_63, ki_64, ki_65, ki_100, ki_158, ki_160, ki_200, ki_212, ki_1000, ki_2000, ki_2001, ki_5000, ki_10000, ki_10001, ki_100000, ki_200000, ki_1000000, ki_2000000, ki_3000000, iO_neg, iO_add, iO_sub, iO_mul, kn_4, kn_8, kn_10, kn_20, kn_24, kn_40, kn_41, kn_50, kn_60, kn_158, kn_160, kn_200, kn_212, kn_2001, tn_lt, fn_lt, tn_le, fn_le, tn_eq, fn_eq, x_lt, x_le, x_eq, x_ix, x_nat, t_lt, f_lt, t_le, f_le, t_eq, f_eq, eq_self, and_self, true_and, and_true, false_and, and_false, if_true, if_false, Int.toNat_natCast, bI_s, bL_s, bA_s, bA_n, bV_s, mq_s, mq_n, en_le, bl_0, bl_1, u_eq, u_ne, w_eq, w_ne, v_eq, v_ne, hp_cc_26, hp_g_26_0, hp_p_26_0, hp_g_26_1, hp_p_26_1, hp_g_26_2, hp_p_26_2, hp_g_26_3, hp_g_26_4, hp_g_26_5, hp_g_26_6, hp_g_26_7, hp_g_26_8, hp_g_26_9, hp_g_26_10, hp_g_26_11, hp_g_26_12, hp_g_26_13, hp_g_26_14, hp_g_26_15, hp_p_26_15, hp_g_26_16, hp_g_26_17, hp_g_26_18, hp_p_26_18, hp_g_26_19, hp_p_26_19, hp_g_26_20, hp_g_26_21, hp_p_26_21, hp_g_26_22, hp_g_26_23, hp_g_26_24, hp_g_26_25, hp_g_26_26, hp_g_26_27, hp_g_26_28, hp_g_26_29, hp_g_26_30, hp_p_26_30, hp_g_26_31, hp_g_26_32, hp_p_26_32, hp_a_27, hp_s_27, hp_l_27, hp_a_28, hp_s_28, hp_l_28, hp_a_29, hp_s_29, hp_l_29, hp_a_30, hp_s_30, hp_l_30, hp_a_31, hp_s_31, hp_l_31, hp_a_32, hp_s_32, hp_l_32, hp_a_33, hp_s_33, hp_l_33, hp_a_34, hp_s_34, hp_l_34, hp_a_35, hp_s_35, hp_l_35, hp_a_36, hp_s_36, hp_l_36, hp_a_37, hp_s_37, hp_l_37, hp_a_38, hp_s_38, hp_l_38, hp_a_39, hp_s_39, hp_a_40, hp_s_40, hp_a_41, hp_s_41, hp_l_41, hp_a_42, hp_s_42, hp_l_42, hp_a_43, hp_s_43, hp_l_43, hp_a_44, hp_s_44, hp_l_44, hp_a_45, hp_s_45, hp_l_45, hp_a_46, hp_s_46, hp_l_46, hp_a_47, hp_s_47, hp_l_47, hp_a_48, hp_s_48, hp_l_48, hp_a_49, hp_s_49, hp_l_49, hp_a_50, hp_s_50, hp_l_50, hfl, lO_mul, lO_sub, up_up, kl_0, e1, g, hz1]
        rw [eb_X12_quotientsOf_1]
        simp (disch := (first | assumption | (unfold i32; omega) | (unfold i64; omega) | omega)) only [ki_0, ki_1, ki_2, ki_3, ki_4, ki_5, ki_6, ki_7, ki_8, ki_9, ki_10, ki_11, ki_12, ki_13, ki_14, ki_15, ki_20, ki_21, ki_30, ki_31, ki_40, ki_41, ki_50, ki_51, ki_60, ki_63, ki_64, ki_65, ki_100, ki_158, ki_160, ki_200, ki_212, ki_1000, ki_2000, ki_2001, ki_5000, ki_10000, ki_10001, ki_100000, ki_200000, ki_1000000, ki_2000000, ki_3000000, iO_neg, iO_add, iO_sub, iO_mul, kn_4, kn_8, kn_10, kn_20, kn_24, kn_40, kn_41, kn_50, kn_60, kn_158, kn_160, kn_200, kn_212, kn_2001, tn_lt, fn_lt, tn_le, fn_le, tn_eq, fn_eq, x_lt, x_le, x_eq, x_ix, x_nat, t_lt, f_lt, t_le, f_le, t_eq, f_eq, eq_self, and_self, true_and, and_true, false_and, and_false, if_true, if_false, Int.toNat_natCast, bI_s, bL_s, bA_s, bA_n, bV_s, mq_s, mq_n, en_le, bl_0, bl_1, u_eq, u_ne, w_eq, w_ne, v_eq, v_ne]
        rfl
      · intro i hi
        rw [w_eq rfl, v_ne (by omega)]
      · intro i x hx
        match i, hx with
        | 0, hx => simp at hx; subst hx; rw [w_eq rfl, v_eq (Nat.add_zero cnt)]
        | i + 1, hx => simp at hx
    · rw [if_neg g]
      obtain ⟨gg, x2, y2, w2, g0, g1, g2, g3, g4, g5⟩ := m_q9 (sc := sc) (n := n + 1) (XI := XI) (XA := XA) (XP := XP) (XC := XC) (MI := va_up MI 4 (iO ((cnt : Int) + 1))) (MA := MA) (D0 := D0) (D := D) (x := c) (y := 0) (w := a % c) (mo := 1) (ML := va_up ML 0 (vp_updL (ML 0) cnt (lO (a / c)))) (by omega) (by omega) (by omega) (by omega) (by omega) (by omega)
      have hy : y2 = 0 := by
        rcases Int.mul_eq_zero.mp g3.symm with y | y <;> omega
      subst hy
      have hw2 : 0 < w2 := Int.pos_of_mul_pos_left (show 0 < w2 * gg by omega) (by omega)
      have hx2 := dv_bd (g := gg) (a := x2) (A := c) (K := 1000) (by omega) (by rw [g2, Int.mul_comm]) (by omega) (by omega)
      have hx20 : 0 < x2 := Int.pos_of_mul_pos_left (show 0 < x2 * gg by omega) (by omega)
      have hw22 := dv_bd (g := gg) (a := w2) (A := a % c) (K := 1000) (by omega) (by rw [g4, Int.mul_comm]) (by omega) (by omega)
      obtain ⟨ML', f1, f2, f3, f4⟩ := ih (cnt + 1) x2 w2 (va_up ML 0 (vp_updL (ML 0) cnt (lO (a / c)))) (by omega) (by omega) (by omega) (by omega) (by omega)
      have hsc : ql k c 0 (a % c) D = ql k x2 0 w2 D := by
        have := ql_scale (n := k) (g := gg) (a := x2) (b := 0) (c := w2) (d := D) g0 hw2 (by omega) (fun h => absurd rfl h)
        rw [Int.mul_zero, Int.mul_comm gg x2, Int.mul_comm gg w2, ← g2, ← g4] at this
        exact this
      refine ⟨ML', ?_, ?_, ?_, ?_⟩
      · have hge : ¬ (lg_cmp (lO (a % c)) (lO 0) = iO 0) := by
          show ¬ (lg_cmp (lO (a % c)) 0 = 0)
          rw [lg_cmp_eq, kl_0, lO_eq (by unfold i64; omega) (by unfold i64; omega)]
          exact g
        have hge2 : 0 ≤ lg_cmp (lO (a % c)) 0 := by
          rw [lg_cmp_ge, kl_0, lO_le (by unfold i64; omega) (by unfold i64; omega)]
          exact m1
        have run : b_X12_quotientsOf_1 sc (n + 2) 26 (lO a) (lO 0) (lO c) (lO D) 1 (hp XI XA XP XC (va_up MI 4 (iO (cnt : Nat))) MA ML D0) = b_X12_quotientsOf_2 sc (n + 2) 26 (lO 0) (lO c) (lO D) 1 (lO (a % c)) (hp XI XA XP XC (va_up MI 4 (iO ((cnt : Int) + 1))) MA (va_up ML 0 (vp_updL (ML 0) cnt (lO (a / c)))) D0) := by
          rw [eb_X12_quotientsOf_1]
          clear ih hFB f1 f2 f3 f4 g5 g1 hsc
          simp (disch := (first | assumption | (unfold i32; omega) | (unfold i64; omega) | omega)) only [ki_0, ki_1, ki_2, ki_3, ki_4, ki_5, ki_6, ki_7, ki_8, ki_9, ki_10, ki_11, ki_12, ki_13, ki_14, ki_15, ki_20, ki_21, ki_30, ki_31, ki_40, ki_41, ki_50, ki_51, ki_60, ki_63, ki_64, ki_65, ki_100, ki_158, ki_160, ki_200, ki_212, ki_1000, ki_2000, ki_2001, ki_5000, ki_10000, ki_10001, ki_100000, ki_200000, ki_1000000, ki_2000000, ki_3000000, iO_neg, iO_add, iO_sub, iO_mul, kn_4, kn_8, kn_10, kn_20, kn_24, kn_40, kn_41, kn_50, kn_60, kn_158, kn_160, kn_200, kn_212, kn_2001, tn_lt, fn_lt, tn_le, fn_le, tn_eq, fn_eq, x_lt, x_le, x_eq, x_ix, x_nat, t_lt, f_lt, t_le, f_le, t_eq, f_eq, eq_self, and_self, true_and, and_true, false_and, and_false, if_true, if_false, Int.toNat_natCast, bI_s, bL_s, bA_s, bA_n, bV_s, mq_s, mq_n, en_le, bl_0, bl_1, u_eq, u_ne, w_eq, w_ne, v_eq, v_ne, hp_cc_26, hp_g_26_0, hp_p_26_0, hp_g_26_1, hp_p_26_1, hp_g_26_2, hp_p_26_2, hp_g_26_3, hp_g_26_4, hp_g_26_5, hp_g_26_6, hp_g_26_7, hp_g_26_8, hp_g_26_9, hp_g_26_10, hp_g_26_11, hp_g_26_12, hp_g_26_13, hp_g_26_14, hp_g_26_15, hp_p_26_15, hp_g_26_16, hp_g_26_17, hp_g_26_18, hp_p_26_18, hp_g_26_19, hp_p_26_19, hp_g_26_20, hp_g_26_21, hp_p_26_21, hp_g_26_22, hp_g_26_23, hp_g_26_24, hp_g_26_25, hp_g_26_26, hp_g_26_27, hp_g_26_28, hp_g_26_29, hp_g_26_30, hp_p_26_30, hp_g_26_31, hp_g_26_32, hp_p_26_32, hp_a_27, hp_s_27, hp_l_27, hp_a_28, hp_s_28, hp_l_28, hp_a_29, hp_s_29, hp_l_29, hp_a_30, hp_s_30, hp_l_30, hp_a_31, hp_s_31, hp_l_31, hp_a_32, hp_s_32, hp_l_32, hp_a_33, hp_s_33, hp_l_33, hp_a_34, hp_s_34, hp_l_34, hp_a_35, hp_s_35, hp_l_35, hp_a_36, hp_s_36, hp_l_36, hp_a_37, hp_s_37, hp_l_37, hp_a_38, hp_s_38, hp_l_38, hp_a_39, hp_s_39, hp_a_40, hp_s_40, hp_a_41, hp_s_41, hp_l_41, hp_a_42, hp_s_42, hp_l_42, hp_a_43, hp_s_43, hp_l_43, hp_a_44, hp_s_44, hp_l_44, hp_a_45, hp_s_45, hp_l_45, hp_a_46, hp_s_46, hp_l_46, hp_a_47, hp_s_47, hp_l_47, hp_a_48, hp_s_48, hp_l_48, hp_a_49, hp_s_49, hp_l_49, hp_a_50, hp_s_50, hp_l_50, hfl, lO_mul, lO_sub, up_up, kl_0, e1, if_neg hge]
        rw [run, eb_X12_quotientsOf_2, if_pos hz0, eb_X12_quotientsOf_4, if_pos hz0, eb_X12_quotientsOf_6, if_pos hz0, eb_X12_quotientsOf_8, if_pos hge2]
        show b_X12_quotientsOf_9 sc (n + 1 + 1) 26 (lO D) 1 (lO c) (lO 0) (lO (a % c)) _ = _
        rw [g5, hsc, List.length_cons, show cnt + ((ql k x2 0 w2 D).length + 1) = cnt + 1 + (ql k x2 0 w2 D).length by omega]
        exact f1
      · intro i hi
        rw [f2 i (by omega), w_eq rfl, v_ne (by omega)]
      · intro i x hx
        match i, hx with
        | 0, hx => simp at hx; subst hx; rw [Nat.add_zero, f2 cnt (by omega), w_eq rfl, v_eq rfl]
        | i + 1, hx =>
          rw [List.getElem?_cons_succ, hsc] at hx
          rw [← f3 i x hx]
          congr 1
          omega
      · intro m hm
        rw [f4 m hm, w_ne hm]
/-- quotientsOf -/
theorem m_quotientsOf {ML : Nat → Nat → Int64} {s : Nat} {q : SL4} (hs : s < 8) (hM : MS MA s q.1 q.2.1 q.2.2.1 q.2.2.2) (hS : SL q.1 q.2.1 q.2.2.1 q.2.2.2) : ∃ ML', f_X12_quotientsOf sc (n + 3) 26 (iO (s : Nat)) (hp XI XA XP XC MI MA ML D0) = some (none, hp XI XA XP XC (va_up MI 4 (iO ((qls q).length : Nat))) MA ML' D0) ∧ (∀ (i : Nat) (x : Int), (qls q)[i]? = some x → ML' 0 i = lO x) ∧ (∀ m, m ≠ 0 → ML' m = ML m) := by
  obtain ⟨m0, m1, m2, m3⟩ := hM
  obtain ⟨A1, A2, B1, B2, C1, C2, D1, D2, hns, hb0, -⟩ := id hS
  have start : f_X12_quotientsOf sc (n + 3) 26 (iO (s : Nat)) (hp XI XA XP XC MI MA ML D0) = b_X12_quotientsOf_1 sc (n + 2) 26 (lO q.1) (lO q.2.1) (lO q.2.2.1) (lO q.2.2.2) 1 (hp XI XA XP XC (va_up MI 4 (iO ((0 : Nat) : Int))) MA ML D0) := by
    rw [e_X12_quotientsOf]
    simp (disch := (first | assumption | (unfold i32; omega) | (unfold i64; omega) | omega)) only [ki_0, ki_1, ki_2, ki_3, ki_4, ki_5, ki_6, ki_7, ki_8, ki_9, ki_10, ki_11, ki_12, ki_13, ki_14, ki_15, ki_20, ki_21, ki_30, ki_31, ki_40, ki_41, ki_50, ki_51, ki_60, ki_63, ki_64, ki_65, ki_100, ki_158, ki_160, ki_200, ki_212, ki_1000, ki_2000, ki_2001, ki_5000, ki_10000, ki_10001, ki_100000, ki_200000, ki_1000000, ki_2000000, ki_3000000, iO_neg, iO_add, iO_sub, iO_mul, kn_4, kn_8, kn_10, kn_20, kn_24, kn_40, kn_41, kn_50, kn_60, kn_158, kn_160, kn_200, kn_212, kn_2001, tn_lt, fn_lt, tn_le, fn_le, tn_eq, fn_eq, x_lt, x_le, x_eq, x_ix, x_nat, t_lt, f_lt, t_le, f_le, t_eq, f_eq, eq_self, and_self, true_and, and_true, false_and, and_false, if_true, if_false, Int.toNat_natCast, bI_s, bL_s, bA_s, bA_n, bV_s, mq_s, mq_n, en_le, bl_0, bl_1, u_eq, u_ne, w_eq, w_ne, v_eq, v_ne, hp_cc_26, hp_g_26_0, hp_p_26_0, hp_g_26_1, hp_p_26_1, hp_g_26_2, hp_p_26_2, hp_g_26_3, hp_g_26_4, hp_g_26_5, hp_g_26_6, hp_g_26_7, hp_g_26_8, hp_g_26_9, hp_g_26_10, hp_g_26_11, hp_g_26_12, hp_g_26_13, hp_g_26_14, hp_g_26_15, hp_p_26_15, hp_g_26_16, hp_g_26_17, hp_g_26_18, hp_p_26_18, hp_g_26_19, hp_p_26_19, hp_g_26_20, hp_g_26_21, hp_p_26_21, hp_g_26_22, hp_g_26_23, hp_g_26_24, hp_g_26_25, hp_g_26_26, hp_g_26_27, hp_g_26_28, hp_g_26_29, hp_g_26_30, hp_p_26_30, hp_g_26_31, hp_g_26_32, hp_p_26_32, hp_a_27, hp_s_27, hp_l_27, hp_a_28, hp_s_28, hp_l_28, hp_a_29, hp_s_29, hp_l_29, hp_a_30, hp_s_30, hp_l_30, hp_a_31, hp_s_31, hp_l_31, hp_a_32, hp_s_32, hp_l_32, hp_a_33, hp_s_33, hp_l_33, hp_a_34, hp_s_34, hp_l_34, hp_a_35, hp_s_35, hp_l_35, hp_a_36, hp_s_36, hp_l_36, hp_a_37, hp_s_37, hp_l_37, hp_a_38, hp_s_38, hp_l_38, hp_a_39, hp_s_39, hp_a_40, hp_s_40, hp_a_41, hp_s_41, hp_l_41, hp_a_42, hp_s_42, hp_l_42, hp_a_43, hp_s_43, hp_l_43, hp_a_44, hp_s_44, hp_l_44, hp_a_45, hp_s_45, hp_l_45, hp_a_46, hp_s_46, hp_l_46, hp_a_47, hp_s_47, hp_l_47, hp_a_48, hp_s_48, hp_l_48, hp_a_49, hp_s_49, hp_l_49, hp_a_50, hp_s_50, hp_l_50, m0, m1, m2, m3, iO_wide]
    rfl
  have fin : ∀ ML', (b_X12_quotientsOf_1 sc (n + 2) 26 (lO q.1) (lO q.2.1) (lO q.2.2.1) (lO q.2.2.2) 1 (hp XI XA XP XC (va_up MI 4 (iO ((0 : Nat) : Int))) MA ML D0) = some (none, hp XI XA XP XC (va_up MI 4 (iO ((0 + (qls q).length : Nat) : Int))) MA ML' D0)) → (∀ (i : Nat) (x : Int), (qls q)[i]? = some x → ML' 0 (0 + i) = lO x) → (∀ m, m ≠ 0 → ML' m = ML m) → ∃ ML', f_X12_quotientsOf sc (n + 3) 26 (iO (s : Nat)) (hp XI XA XP XC MI MA ML D0) = some (none, hp XI XA XP XC (va_up MI 4 (iO ((qls q).length : Nat))) MA ML' D0) ∧ (∀ (i : Nat) (x : Int), (qls q)[i]? = some x → ML' 0 i = lO x) ∧ (∀ m, m ≠ 0 → ML' m = ML m) := by
    intro ML' f1 f3 f4
    rw [Nat.zero_add] at f1
    exact ⟨ML', start.trans f1, fun i x hx => by have := f3 i x hx; rwa [Nat.zero_add] at this, f4⟩
  by_cases hb : q.2.1 = 0
  · have hpos : 0 ≤ q.1 := by
      have h1 := hS.nn0
      rw [hb] at h1
      rcases h1 with ⟨-, h | h⟩ | ⟨h, -⟩
      · exact h
      · rw [Int.zero_mul, Int.zero_mul] at h; have := sq_zero h; omega
      · omega
    obtain ⟨ML', f1, f2, f3, f4⟩ := m_qrat (sc := sc) (n := n) (XI := XI) (XA := XA) (XP := XP) (XC := XC) (MI := MI) (MA := MA) (D0 := D0) D1 D2 20 0 q.1 q.2.2.1 ML (by omega) hpos A2 C1 (by omega)
    have hq : ql 20 q.1 0 q.2.2.1 q.2.2.2 = qls q := by unfold qls; rw [hb]
    rw [hq] at f1 f3
    refine fin ML' ?_ f3 f4
    rw [hb]
    exact f1
  · have hns := hns hb
    have he0 : 1 ≤ (if 0 < q.2.1 then q.2.1 else -q.2.1) ∧ (if 0 < q.2.1 then q.2.1 else -q.2.1) ≤ 20 := by split <;> omega
    generalize hE : (if 0 < q.2.1 then q.2.1 else -q.2.1) * q.2.2.1 = e
    have he : 0 < e := by rw [← hE]; exact Int.mul_pos (by omega) (by omega)
    have he2 : e ≤ 2000 := by rw [← hE]; exact (mul_le_mul' (a := _) (b := 20) (c := q.2.2.1) (d := 100) (by omega) he0.2 (by omega) C2)
    have hn0 : 0 ≤ e * e * q.2.2.2 := Int.mul_nonneg (sq_nn e) (by omega)
    obtain ⟨r1, r2⟩ := isq_int hn0
    have hnb : e * e * q.2.2.2 ≤ 200000000 := by
      have := sq_bd (x := e) (K := 2000) (by omega) he2
      have := mul_le_mul' (a := e * e) (b := 4000000) (c := q.2.2.2) (d := 50) (by omega) (by omega) (by omega) D2
      omega
    have hr3 : (isq (e * e * q.2.2.2).toNat : Int) ≤ 15000 := rt_le (by omega) (by omega)
    have hcc := sq_bd (x := q.2.2.1) (K := 100) (by omega) C2
    have hcc0 := Int.mul_pos (show 0 < q.2.2.1 by omega) (show 0 < q.2.2.1 by omega)
    have hac := mul_bd (x := q.1) (y := q.2.2.1) (a := 1000) (b := 100) (by omega) (by omega) (by omega) (by omega)
    have hB : BND e q.2.2.2 (isq (e * e * q.2.2.2).toNat : Int) q.1 q.2.1 q.2.2.1 20 := by
      refine ⟨he, he2, D1, D2, hns, by omega, by omega, r1, r2, by omega, hS.nn0, ?_⟩
      by_cases g : 0 < q.2.1
      · rw [if_pos g] at hE
        refine ⟨q.1 * q.2.2.1, q.2.2.1 * q.2.2.1, 60000, ⟨by omega, ⟨q.2.1 * q.2.1 * q.2.2.2 - q.1 * q.1, ?_⟩, by omega, by omega⟩, ?_, ?_, ⟨q.2.2.1, rfl⟩, by omega, by omega, by omega, by omega⟩
        · rw [← hE]; clear hns hS; grind
        · clear hns hS; grind
        · rw [← hE]; clear hns hS; grind
      · rw [if_neg g] at hE
        refine ⟨-(q.1 * q.2.2.1), -(q.2.2.1 * q.2.2.1), 60000, ⟨by omega, ⟨-(q.2.1 * q.2.1 * q.2.2.2 - q.1 * q.1), ?_⟩, by omega, by omega⟩, ?_, ?_, ⟨-q.2.2.1, by rw [Int.mul_neg]⟩, by omega, by omega, by omega, by omega⟩
        · rw [← hE]; clear hns hS; grind
        · clear hns hS; grind
        · rw [← hE]; clear hns hS; grind
    obtain ⟨ML', f1, f2, f3, f4⟩ := m_qroot (sc := sc) (n := n) (XI := XI) (XA := XA) (XP := XP) (XC := XC) (MI := MI) (MA := MA) (D0 := D0) 20 0 q.1 q.2.1 q.2.2.1 ML (by omega) hB
    exact fin ML' f1 f3 f4
variable {S : ST5}
theorem MV.i4 {k : Int32} (h : MV S MI MA) : MV S (va_up MI 4 k) MA := h
theorem mc_quotient (hS : OK5 S) {s i : Int} (hs : i32 s) (hi : i32 i) : MC S S (p_quotient S s i) (fun z => f_X12_quotient sc (n + 40) 26 (iO s) (iO i) z) := by
  obtain ⟨i1, i2⟩ := id hi
  have h8 := hS.1
  unfold p_quotient
  cases hq : slq S s with
  | none =>
    apply mc_ask
    intro XI XA XP XC MI MA ML D hV
    have := slq_none hq
    show f_X12_quotient sc (n + 40) 26 (iO s) (iO i) _ = _
    rw [e_X12_quotient, hp_cc_26, if_pos rfl, e_misSlope hV hS hs, if_neg (by omega)]
    rfl
  | some l =>
    obtain ⟨k, rfl, hk, hq2⟩ := slq_some hq
    have hSL := hS.2.2.1 l (List.mem_of_getElem? hq2)
    obtain ⟨-, L1, L2⟩ := qls_QB hSL
    show MC S S (if 0 ≤ i ∧ i < ((qls l).length : Nat) then (qls l).getD i.toNat 0 else -1) _
    by_cases g0 : i < 0
    · rw [if_neg (by omega)]
      apply mc_ask
      intro XI XA XP XC MI MA ML D hV
      show f_X12_quotient sc (n + 40) 26 (iO (k : Int)) (iO i) _ = _
      rw [e_X12_quotient, hp_cc_26, if_pos rfl, e_misSlope hV hS hs, if_pos (by omega)]
      simp (disch := (first | assumption | (unfold i32; omega) | (unfold i64; omega) | omega)) only [ki_0, ki_1, ki_2, ki_3, ki_4, ki_5, ki_6, ki_7, ki_8, ki_9, ki_10, ki_11, ki_12, ki_13, ki_14, ki_15, ki_20, ki_21, ki_30, ki_31, ki_40, ki_41, ki_50, ki_51, ki_60, ki_63, ki_64, ki_65, ki_100, ki_158, ki_160, ki_200, ki_212, ki_1000, ki_2000, ki_2001, ki_5000, ki_10000, ki_10001, ki_100000, ki_200000, ki_1000000, ki_2000000, ki_3000000, iO_neg, iO_add, iO_sub, iO_mul, kn_4, kn_8, kn_10, kn_20, kn_24, kn_40, kn_41, kn_50, kn_60, kn_158, kn_160, kn_200, kn_212, kn_2001, tn_lt, fn_lt, tn_le, fn_le, tn_eq, fn_eq, x_lt, x_le, x_eq, x_ix, x_nat, t_lt, f_lt, t_le, f_le, t_eq, f_eq, eq_self, and_self, true_and, and_true, false_and, and_false, if_true, if_false, Int.toNat_natCast, bI_s, bL_s, bA_s, bA_n, bV_s, mq_s, mq_n, en_le, bl_0, bl_1, u_eq, u_ne, w_eq, w_ne, v_eq, v_ne]
    · intro XI XA XP XC MI MA ML D hV hP
      have hM := hV.2.2.2.2.1 k l hq2
      obtain ⟨ML', f1, f2, f3⟩ := m_quotientsOf (sc := sc) (n := n + 36) (XI := XI) (XA := XA) (XP := XP) (XC := XC) (MI := MI) (MA := MA) (D0 := D) (ML := ML) (s := k) (by omega) hM hSL
      refine ⟨va_up MI 4 (iO ((qls l).length : Nat)), MA, ML', ?_, hV.i4, hP⟩
      show f_X12_quotient sc (n + 40) 26 (iO (k : Int)) (iO i) _ = _
      rw [e_X12_quotient, hp_cc_26, if_pos rfl, e_misSlope hV hS hs, if_pos (by omega)]
      obtain ⟨y, rfl⟩ : ∃ y : Nat, i = y := ⟨i.toNat, by omega⟩
      by_cases g : y < (qls l).length
      · rw [if_pos (by omega), Int.toNat_natCast]
        have hy := f2 y _ (getD_get g)
        clear hV hP hM f2 f3 hSL
        simp (disch := (first | assumption | (unfold i32; omega) | (unfold i64; omega) | omega)) only [ki_0, ki_1, ki_2, ki_3, ki_4, ki_5, ki_6, ki_7, ki_8, ki_9, ki_10, ki_11, ki_12, ki_13, ki_14, ki_15, ki_20, ki_21, ki_30, ki_31, ki_40, ki_41, ki_50, ki_51, ki_60, ki_63, ki_64, ki_65, ki_100, ki_158, ki_160, ki_200, ki_212, ki_1000, ki_2000, ki_2001, ki_5000, ki_10000, ki_10001, ki_100000, ki_200000, ki_1000000, ki_2000000, ki_3000000, iO_neg, iO_add, iO_sub, iO_mul, kn_4, kn_8, kn_10, kn_20, kn_24, kn_40, kn_41, kn_50, kn_60, kn_158, kn_160, kn_200, kn_212, kn_2001, tn_lt, fn_lt, tn_le, fn_le, tn_eq, fn_eq, x_lt, x_le, x_eq, x_ix, x_nat, t_lt, f_lt, t_le, f_le, t_eq, f_eq, eq_self, and_self, true_and, and_true, false_and, and_false, if_true, if_false, Int.toNat_natCast, bI_s, bL_s, bA_s, bA_n, bV_s, mq_s, mq_n, en_le, bl_0, bl_1, u_eq, u_ne, w_eq, w_ne, v_eq, v_ne, hp_cc_26, hp_g_26_0, hp_p_26_0, hp_g_26_1, hp_p_26_1, hp_g_26_2, hp_p_26_2, hp_g_26_3, hp_g_26_4, hp_g_26_5, hp_g_26_6, hp_g_26_7, hp_g_26_8, hp_g_26_9, hp_g_26_10, hp_g_26_11, hp_g_26_12, hp_g_26_13, hp_g_26_14, hp_g_26_15, hp_p_26_15, hp_g_26_16, hp_g_26_17, hp_g_26_18, hp_p_26_18, hp_g_26_19, hp_p_26_19, hp_g_26_20, hp_g_26_21, hp_p_26_21, hp_g_26_22, hp_g_26_23, hp_g_26_24, hp_g_26_25, hp_g_26_26, hp_g_26_27, hp_g_26_28, hp_g_26_29, hp_g_26_30, hp_p_26_30, hp_g_26_31, hp_g_26_32, hp_p_26_32, hp_a_27, hp_s_27, hp_l_27, hp_a_28, hp_s_28, hp_l_28, hp_a_29, hp_s_29, hp_l_29, hp_a_30, hp_s_30, hp_l_30, hp_a_31, hp_s_31, hp_l_31, hp_a_32, hp_s_32, hp_l_32, hp_a_33, hp_s_33, hp_l_33, hp_a_34, hp_s_34, hp_l_34, hp_a_35, hp_s_35, hp_l_35, hp_a_36, hp_s_36, hp_l_36, hp_a_37, hp_s_37, hp_l_37, hp_a_38, hp_s_38, hp_l_38, hp_a_39, hp_s_39, hp_a_40, hp_s_40, hp_a_41, hp_s_41, hp_l_41, hp_a_42, hp_s_42, hp_l_42, hp_a_43, hp_s_43, hp_l_43, hp_a_44, hp_s_44, hp_l_44, hp_a_45, hp_s_45, hp_l_45, hp_a_46, hp_s_46, hp_l_46, hp_a_47, hp_s_47, hp_l_47, hp_a_48, hp_s_48, hp_l_48, hp_a_49, hp_s_49, hp_l_49, hp_a_50, hp_s_50, hp_l_50, f1, hy, lO_narrow]
      · rw [if_neg (by omega)]
        clear hV hP hM f2 f3 hSL
        simp (disch := (first | assumption | (unfold i32; omega) | (unfold i64; omega) | omega)) only [ki_0, ki_1, ki_2, ki_3, ki_4, ki_5, ki_6, ki_7, ki_8, ki_9, ki_10, ki_11, ki_12, ki_13, ki_14, ki_15, ki_20, ki_21, ki_30, ki_31, ki_40, ki_41, ki_50, ki_51, ki_60, ki_63, ki_64, ki_65, ki_100, ki_158, ki_160, ki_200, ki_212, ki_1000, ki_2000, ki_2001, ki_5000, ki_10000, ki_10001, ki_100000, ki_200000, ki_1000000, ki_2000000, ki_3000000, iO_neg, iO_add, iO_sub, iO_mul, kn_4, kn_8, kn_10, kn_20, kn_24, kn_40, kn_41, kn_50, kn_60, kn_158, kn_160, kn_200, kn_212, kn_2001, tn_lt, fn_lt, tn_le, fn_le, tn_eq, fn_eq, x_lt, x_le, x_eq, x_ix, x_nat, t_lt, f_lt, t_le, f_le, t_eq, f_eq, eq_self, and_self, true_and, and_true, false_and, and_false, if_true, if_false, Int.toNat_natCast, bI_s, bL_s, bA_s, bA_n, bV_s, mq_s, mq_n, en_le, bl_0, bl_1, u_eq, u_ne, w_eq, w_ne, v_eq, v_ne, hp_cc_26, hp_g_26_0, hp_p_26_0, hp_g_26_1, hp_p_26_1, hp_g_26_2, hp_p_26_2, hp_g_26_3, hp_g_26_4, hp_g_26_5, hp_g_26_6, hp_g_26_7, hp_g_26_8, hp_g_26_9, hp_g_26_10, hp_g_26_11, hp_g_26_12, hp_g_26_13, hp_g_26_14, hp_g_26_15, hp_p_26_15, hp_g_26_16, hp_g_26_17, hp_g_26_18, hp_p_26_18, hp_g_26_19, hp_p_26_19, hp_g_26_20, hp_g_26_21, hp_p_26_21, hp_g_26_22, hp_g_26_23, hp_g_26_24, hp_g_26_25, hp_g_26_26, hp_g_26_27, hp_g_26_28, hp_g_26_29, hp_g_26_30, hp_p_26_30, hp_g_26_31, hp_g_26_32, hp_p_26_32, hp_a_27, hp_s_27, hp_l_27, hp_a_28, hp_s_28, hp_l_28, hp_a_29, hp_s_29, hp_l_29, hp_a_30, hp_s_30, hp_l_30, hp_a_31, hp_s_31, hp_l_31, hp_a_32, hp_s_32, hp_l_32, hp_a_33, hp_s_33, hp_l_33, hp_a_34, hp_s_34, hp_l_34, hp_a_35, hp_s_35, hp_l_35, hp_a_36, hp_s_36, hp_l_36, hp_a_37, hp_s_37, hp_l_37, hp_a_38, hp_s_38, hp_l_38, hp_a_39, hp_s_39, hp_a_40, hp_s_40, hp_a_41, hp_s_41, hp_l_41, hp_a_42, hp_s_42, hp_l_42, hp_a_43, hp_s_43, hp_l_43, hp_a_44, hp_s_44, hp_l_44, hp_a_45, hp_s_45, hp_l_45, hp_a_46, hp_s_46, hp_l_46, hp_a_47, hp_s_47, hp_l_47, hp_a_48, hp_s_48, hp_l_48, hp_a_49, hp_s_49, hp_l_49, hp_a_50, hp_s_50, hp_l_50, f1]
end MQ2
