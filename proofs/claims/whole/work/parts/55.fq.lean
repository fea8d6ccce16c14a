/-! THE CLASS's rows of quotients and lines -/
abbrev ia (g : Nat → Int32) : va_E := .inl (0, 20, .inl g)
section FQ
variable {sc : en_S} {n : Nat} {XI : Nat → Int32} {XA : Nat → Nat → Int32} {XP : Nat → Nat → Option Nat} {XC : Value} {MI : Nat → Int32} {MA : Nat → Nat → Int32} {ML : Nat → Nat → Int64} {D : en_H} {q : Nat}
theorem ia_ln {g : Nat → Int32} {e : va_E} (h : en_nt D q = some e) (f : Int32 → Option en_R) : en_ln sc (hp XI XA XP XC MI MA ML (D.set q (ia g))) (q + 51) f = f (iO 20) := d_ln (nt_set_eq h) (by decide) f
theorem ia_s {g : Nat → Int32} {e : va_E} (h : en_nt D q = some e) (i v : Int32) (f : en_H → Option en_R) : en_sI (hp XI XA XP XC MI MA ML (D.set q (ia g))) (q + 51) i v f = if en_ix i 20 then f (hp XI XA XP XC MI MA ML (D.set q (ia (upd g i.toNatClampNeg v)))) else none := by
  rw [d_sI (nt_set_eq h), List.set_set]
theorem fq_loop {e : va_E} (he : en_nt D q = some e) : ∀ (k cnt : Nat) (over under : Int) (g : Nat → Int32), cnt + k = 20 → 0 < under → under ≤ 1000 → 0 ≤ over → over ≤ 1000 → ∃ g', b_X7_findQuotients_1 sc (n + 1) (q + 51) (iO (cnt : Nat)) (lO over) (lO under) (hp XI XA XP XC MI MA ML (D.set q (ia g))) = some (some (.int (iO ((cnt + (ql k over 0 under 2).length : Nat) : Int))), hp XI XA XP XC MI MA ML (D.set q (ia g'))) ∧ (∀ i, i < cnt → g' i = g i) ∧ (∀ (i : Nat) (x : Int), (ql k over 0 under 2)[i]? = some x → g' (cnt + i) = iO x) := by
  intro k
  induction k with
  | zero =>
    intro cnt over under g hc h1 h2 h3 h4
    obtain rfl : cnt = 20 := by omega
    refine ⟨g, ?_, fun _ _ => rfl, fun i x h => by simp [ql] at h⟩
    rw [eb_X7_findQuotients_1]
    simp (disch := (first | assumption | (unfold i32; omega) | (unfold i64; omega) | omega)) only [ki_0, ki_1, ki_2, ki_3, ki_4, ki_5, ki_6, ki_7, ki_8, ki_9, ki_10, ki_11, ki_12, ki_13, ki_14, ki_15, ki_20, ki_21, ki_30, ki_31, ki_40, ki_41, ki_50, ki_51, ki_60, ki_63, ki_64, ki_65, ki_100, ki_158, ki_160, ki_200, ki_212, ki_1000, ki_2000, ki_2001, ki_5000, ki_10000, ki_10001, ki_100000, ki_200000, ki_1000000, ki_2000000, ki_3000000, iO_neg, iO_add, iO_sub, iO_mul, kn_4, kn_8, kn_10, kn_20, kn_24, kn_40, kn_41, kn_50, kn_60, kn_158, kn_160, kn_200, kn_212, kn_2001, tn_lt, fn_lt, tn_le, fn_le, tn_eq, fn_eq, x_lt, x_le, x_eq, x_ix, x_nat, t_lt, f_lt, t_le, f_le, t_eq, f_eq, eq_self, and_self, true_and, and_true, false_and, and_false, if_true, if_false, Int.toNat_natCast, bI_s, bL_s, bA_s, bA_n, bV_s, mq_s, mq_n, en_le, bl_0, bl_1, u_eq, u_ne, w_eq, w_ne, v_eq, v_ne, ia_ln he]
    rfl
  | succ k ih =>
    intro cnt over under g hc h1 h2 h3 h4
    rw [ql_0 h1, eb_X7_findQuotients_1]
    have m1 := Int.emod_nonneg over (show under ≠ 0 by omega)
    have m2 := Int.emod_lt_of_pos over h1
    have e1 : over - over / under * under = over % under := by
      have := Int.emod_add_mul_ediv over under
      rw [Int.mul_comm] at this
      omega
    have hfd := e_floorDivL (sc := sc) (n := n) (a := over) (b := under) (z := hp XI XA XP XC MI MA ML (D.set q (ia g))) (by unfold i64; omega) (by omega) (by unfold i64; omega) h1
    by_cases z : over % under = 0
    · rw [if_pos z]
      refine ⟨upd g cnt (iO (over / under)), ?_, ?_, ?_⟩
      · simp (disch := (first | assumption | (unfold i32; omega) | (unfold i64; omega) | omega)) only [ki_0, ki_1, ki_2, ki_3, ki_4, ki_5, ki_6, ki_7, ki_8, ki_9, ki_10, ki_11, ki_12, ki_13, ki_14, ki_15, ki_20, ki_21, ki_30, ki_31, ki_40, ki_41, ki_50, ki_51, ki_60, ki_63, ki_64, ki_65, ki_100, ki_158, ki_160, ki_200, ki_212, ki_1000, ki_2000, ki_2001, ki_5000, ki_10000, ki_10001, ki_100000, ki_200000, ki_1000000, ki_2000000, ki_3000000, iO_neg, iO_add, iO_sub, iO_mul, kn_4, kn_8, kn_10, kn_20, kn_24, kn_40, kn_41, kn_50, kn_60, kn_158, kn_160, kn_200, kn_212, kn_2001, tn_lt, fn_lt, tn_le, fn_le, tn_eq, fn_eq, x_lt, x_le, x_eq, x_ix, x_nat, t_lt, f_lt, t_le, f_le, t_eq, f_eq, eq_self, and_self, true_and, and_true, false_and, and_false, if_true, if_false, Int.toNat_natCast, bI_s, bL_s, bA_s, bA_n, bV_s, mq_s, mq_n, en_le, bl_0, bl_1, u_eq, u_ne, w_eq, w_ne, v_eq, v_ne, ia_ln he, lc_lt, lc_le, lc_gt, lc_ge, lc_eq, y_lt, y_le, y_eq, kl_0, hfd, ia_s he, lO_narrow, lO_mul, lO_sub, e1, z]
        rw [eb_X7_findQuotients_1]
        by_cases y : cnt + 1 = 20
        · simp (disch := (first | assumption | (unfold i32; omega) | (unfold i64; omega) | omega)) only [ki_0, ki_1, ki_2, ki_3, ki_4, ki_5, ki_6, ki_7, ki_8, ki_9, ki_10, ki_11, ki_12, ki_13, ki_14, ki_15, ki_20, ki_21, ki_30, ki_31, ki_40, ki_41, ki_50, ki_51, ki_60, ki_63, ki_64, ki_65, ki_100, ki_158, ki_160, ki_200, ki_212, ki_1000, ki_2000, ki_2001, ki_5000, ki_10000, ki_10001, ki_100000, ki_200000, ki_1000000, ki_2000000, ki_3000000, iO_neg, iO_add, iO_sub, iO_mul, kn_4, kn_8, kn_10, kn_20, kn_24, kn_40, kn_41, kn_50, kn_60, kn_158, kn_160, kn_200, kn_212, kn_2001, tn_lt, fn_lt, tn_le, fn_le, tn_eq, fn_eq, x_lt, x_le, x_eq, x_ix, x_nat, t_lt, f_lt, t_le, f_le, t_eq, f_eq, eq_self, and_self, true_and, and_true, false_and, and_false, if_true, if_false, Int.toNat_natCast, bI_s, bL_s, bA_s, bA_n, bV_s, mq_s, mq_n, en_le, bl_0, bl_1, u_eq, u_ne, w_eq, w_ne, v_eq, v_ne, ia_ln he]
          rfl
        · simp (disch := (first | assumption | (unfold i32; omega) | (unfold i64; omega) | omega)) only [ki_0, ki_1, ki_2, ki_3, ki_4, ki_5, ki_6, ki_7, ki_8, ki_9, ki_10, ki_11, ki_12, ki_13, ki_14, ki_15, ki_20, ki_21, ki_30, ki_31, ki_40, ki_41, ki_50, ki_51, ki_60, ki_63, ki_64, ki_65, ki_100, ki_158, ki_160, ki_200, ki_212, ki_1000, ki_2000, ki_2001, ki_5000, ki_10000, ki_10001, ki_100000, ki_200000, ki_1000000, ki_2000000, ki_3000000, iO_neg, iO_add, iO_sub, iO_mul, kn_4, kn_8, kn_10, kn_20, kn_24, kn_40, kn_41, kn_50, kn_60, kn_158, kn_160, kn_200, kn_212, kn_2001, tn_lt, fn_lt, tn_le, fn_le, tn_eq, fn_eq, x_lt, x_le, x_eq, x_ix, x_nat, t_lt, f_lt, t_le, f_le, t_eq, f_eq, eq_self, and_self, true_and, and_true, false_and, and_false, if_true, if_false, Int.toNat_natCast, bI_s, bL_s, bA_s, bA_n, bV_s, mq_s, mq_n, en_le, bl_0, bl_1, u_eq, u_ne, w_eq, w_ne, v_eq, v_ne, ia_ln he, lc_lt, lc_le, lc_gt, lc_ge, lc_eq, y_lt, y_le, y_eq, kl_0]
          rfl
      · intro i hi
        rw [u_ne (by omega)]
      · intro i x hx
        match i, hx with
        | 0, hx => simp at hx; subst hx; rw [u_eq (by omega)]
        | i + 1, hx => simp at hx
    · rw [if_neg z]
      obtain ⟨g', f1, f2, f3⟩ := ih (cnt + 1) under (over % under) (upd g cnt (iO (over / under))) (by omega) (by omega) (by omega) (by omega) (by omega)
      refine ⟨g', ?_, ?_, ?_⟩
      · simp (disch := (first | assumption | (unfold i32; omega) | (unfold i64; omega) | omega)) only [ki_0, ki_1, ki_2, ki_3, ki_4, ki_5, ki_6, ki_7, ki_8, ki_9, ki_10, ki_11, ki_12, ki_13, ki_14, ki_15, ki_20, ki_21, ki_30, ki_31, ki_40, ki_41, ki_50, ki_51, ki_60, ki_63, ki_64, ki_65, ki_100, ki_158, ki_160, ki_200, ki_212, ki_1000, ki_2000, ki_2001, ki_5000, ki_10000, ki_10001, ki_100000, ki_200000, ki_1000000, ki_2000000, ki_3000000, iO_neg, iO_add, iO_sub, iO_mul, kn_4, kn_8, kn_10, kn_20, kn_24, kn_40, kn_41, kn_50, kn_60, kn_158, kn_160, kn_200, kn_212, kn_2001, tn_lt, fn_lt, tn_le, fn_le, tn_eq, fn_eq, x_lt, x_le, x_eq, x_ix, x_nat, t_lt, f_lt, t_le, f_le, t_eq, f_eq, eq_self, and_self, true_and, and_true, false_and, and_false, if_true, if_false, Int.toNat_natCast, bI_s, bL_s, bA_s, bA_n, bV_s, mq_s, mq_n, en_le, bl_0, bl_1, u_eq, u_ne, w_eq, w_ne, v_eq, v_ne, ia_ln he, lc_lt, lc_le, lc_gt, lc_ge, lc_eq, y_lt, y_le, y_eq, kl_0, hfd, ia_s he, lO_narrow, lO_mul, lO_sub, e1]
        rw [show (cnt : Int) + 1 = ((cnt + 1 : Nat) : Int) by omega, f1, List.length_cons]
        congr 5
        omega
      · intro i hi
        rw [f2 i (by omega), u_ne (by omega)]
      · intro i x hx
        match i, hx with
        | 0, hx => simp at hx; subst hx; rw [Nat.add_zero, f2 cnt (by omega), u_eq rfl]
        | i + 1, hx =>
          rw [List.getElem?_cons_succ] at hx
          have := f3 i x hx
          rw [← this]
          congr 1
          omega
theorem repq_len {e d r : Int} (he : 0 < e) (hd : 0 < d) (hns : nsq d) (hr : 0 ≤ r) (h1 : r * r ≤ e * e * d) (h2 : e * e * d < (r + 1) * (r + 1)) : ∀ (k : Nat) (P Q K : Int), 2 * r + 1 ≤ K → PQ (e * e * d) P Q K → (repq k P e Q d).length = k := by
  have hne : ∀ x : Int, e * e * d - x * x ≠ 0 := fun x h => nc_ne (e := x) (b := e) (d := d) (by omega) hns (by omega)
  intro k
  induction k with
  | zero => intro P Q K _ _; unfold repq ql; split <;> rfl
  | succ k ih =>
    intro P Q K hK hPQ
    obtain ⟨P1, Q1, a1, a2, a3, a4, a5⟩ := pq_next hr h1 h2 hne hK hPQ
    rw [repq_step he hd hns hr h1 h2 hPQ.1 a1 a2 a3.1, List.length_cons, ih P1 Q1 (K + 2 * r) (by omega) a3]
theorem fr_loop {e0 : va_E} (he0 : en_nt D q = some e0) {e d r : Int} (he : 0 < e) (hd : 0 < d) (hns : nsq d) (hr : 0 ≤ r) (hr2 : r ≤ 20000) (h1 : r * r ≤ e * e * d) (h2 : e * e * d < (r + 1) * (r + 1)) : ∀ (k cnt : Nat) (P Q K : Int) (g : Nat → Int32), cnt + k = 20 → 2 * r + 1 ≤ K → K + 40000 * k ≤ 1000000 → PQ (e * e * d) P Q K → -1200000 ≤ P → P ≤ 1200000 → ∃ g', b_X7_findRootQuotients_5 sc (n + 1) (q + 51) (lO (e * e * d)) (lO r) (lO P) (lO Q) (iO (cnt : Nat)) (hp XI XA XP XC MI MA ML (D.set q (ia g))) = some (some (.int (iO 20)), hp XI XA XP XC MI MA ML (D.set q (ia g'))) ∧ (∀ i, i < cnt → g' i = g i) ∧ (∀ (i : Nat) (x : Int), (repq k P e Q d)[i]? = some x → g' (cnt + i) = iO x) := by
  have hne : ∀ x : Int, e * e * d - x * x ≠ 0 := fun x h => nc_ne (e := x) (b := e) (d := d) (by omega) hns (by omega)
  have hrr := sq_bd (x := r + 1) (K := 20001) (by omega) (by omega)
  have hr0 := sq_nn r
  intro k
  induction k with
  | zero =>
    intro cnt P Q K g hc _ _ _ _ _
    obtain rfl : cnt = 20 := by omega
    have e1 : repq 0 P e Q d = [] := by unfold repq ql; split <;> rfl
    refine ⟨g, ?_, fun _ _ => rfl, fun i x h => by rw [e1] at h; simp at h⟩
    rw [eb_X7_findRootQuotients_5]
    simp (disch := (first | assumption | (unfold i32; omega) | (unfold i64; omega) | omega)) only [ki_0, ki_1, ki_2, ki_3, ki_4, ki_5, ki_6, ki_7, ki_8, ki_9, ki_10, ki_11, ki_12, ki_13, ki_14, ki_15, ki_20, ki_21, ki_30, ki_31, ki_40, ki_41, ki_50, ki_51, ki_60, ki_63, ki_64, ki_65, ki_100, ki_158, ki_160, ki_200, ki_212, ki_1000, ki_2000, ki_2001, ki_5000, ki_10000, ki_10001, ki_100000, ki_200000, ki_1000000, ki_2000000, ki_3000000, iO_neg, iO_add, iO_sub, iO_mul, kn_4, kn_8, kn_10, kn_20, kn_24, kn_40, kn_41, kn_50, kn_60, kn_158, kn_160, kn_200, kn_212, kn_2001, tn_lt, fn_lt, tn_le, fn_le, tn_eq, fn_eq, x_lt, x_le, x_eq, x_ix, x_nat, t_lt, f_lt, t_le, f_le, t_eq, f_eq, eq_self, and_self, true_and, and_true, false_and, and_false, if_true, if_false, Int.toNat_natCast, bI_s, bL_s, bA_s, bA_n, bV_s, mq_s, mq_n, en_le, bl_0, bl_1, u_eq, u_ne, w_eq, w_ne, v_eq, v_ne, ia_ln he0]
    rfl
  | succ k ih =>
    intro cnt P Q K g hc hK hK2 hPQ p1 p2
    obtain ⟨P1, Q1, a1, a2, a3, a4, a5⟩ := pq_next hr h1 h2 hne hK hPQ
    obtain ⟨q0, q1, q2, q3⟩ := id hPQ
    obtain ⟨w1, w2⟩ := pqw_bd (K := 1200000) hr (by omega) hPQ.1 a1 (by omega) (by omega) p1 p2
    rw [repq_step he hd hns hr h1 h2 hPQ.1 a1 a2 a3.1]
    obtain ⟨g', f1, f2, f3⟩ := ih (cnt + 1) P1 Q1 (K + 2 * r) (upd g cnt (iO (pqw r P Q))) (by omega) (by omega) (by omega) a3 (by omega) (by omega)
    refine ⟨g', ?_, ?_, ?_⟩
    · have hs := sq_bd (x := P1) (K := 1100000) (by omega) (by omega)
      have hdiv : (e * e * d - P1 * P1).tdiv Q = Q1 := by rw [← a2]; exact Int.mul_tdiv_cancel _ q0
      have hQ1b := a3.2.2
      have tail : b_X7_findRootQuotients_7 sc (n + 1) (q + 51) (lO (e * e * d)) (lO r) (lO P) (lO Q) (iO (cnt : Nat)) (lO (pqw r P Q)) (hp XI XA XP XC MI MA ML (D.set q (ia g))) = some (some (.int (iO 20)), hp XI XA XP XC MI MA ML (D.set q (ia g'))) := by
        rw [eb_X7_findRootQuotients_7]
        simp (disch := (first | assumption | (unfold i32; omega) | (unfold i64; omega) | omega)) only [ki_0, ki_1, ki_2, ki_3, ki_4, ki_5, ki_6, ki_7, ki_8, ki_9, ki_10, ki_11, ki_12, ki_13, ki_14, ki_15, ki_20, ki_21, ki_30, ki_31, ki_40, ki_41, ki_50, ki_51, ki_60, ki_63, ki_64, ki_65, ki_100, ki_158, ki_160, ki_200, ki_212, ki_1000, ki_2000, ki_2001, ki_5000, ki_10000, ki_10001, ki_100000, ki_200000, ki_1000000, ki_2000000, ki_3000000, iO_neg, iO_add, iO_sub, iO_mul, kn_4, kn_8, kn_10, kn_20, kn_24, kn_40, kn_41, kn_50, kn_60, kn_158, kn_160, kn_200, kn_212, kn_2001, tn_lt, fn_lt, tn_le, fn_le, tn_eq, fn_eq, x_lt, x_le, x_eq, x_ix, x_nat, t_lt, f_lt, t_le, f_le, t_eq, f_eq, eq_self, and_self, true_and, and_true, false_and, and_false, if_true, if_false, Int.toNat_natCast, bI_s, bL_s, bA_s, bA_n, bV_s, mq_s, mq_n, en_le, bl_0, bl_1, u_eq, u_ne, w_eq, w_ne, v_eq, v_ne, ia_s he0, lO_narrow, lO_mul, lO_sub, kl_0, y_eq]
        rw [← a1, lO_div (by unfold i64; omega) (by unfold i64; omega) (by rw [hdiv]; unfold i64; omega), hdiv]
        exact f1
      rw [eb_X7_findRootQuotients_5]
      by_cases y : 0 < Q
      · have hw : pqw r P Q = (P + r) / Q := by unfold pqw; rw [if_pos y]
        have hfd := e_floorDivL (sc := sc) (n := n) (a := P + r) (b := Q) (z := hp XI XA XP XC MI MA ML (D.set q (ia g))) (by unfold i64; omega) (by omega) (by unfold i64; omega) y
        rw [← hw] at hfd
        simp (disch := (first | assumption | (unfold i32; omega) | (unfold i64; omega) | omega)) only [ki_0, ki_1, ki_2, ki_3, ki_4, ki_5, ki_6, ki_7, ki_8, ki_9, ki_10, ki_11, ki_12, ki_13, ki_14, ki_15, ki_20, ki_21, ki_30, ki_31, ki_40, ki_41, ki_50, ki_51, ki_60, ki_63, ki_64, ki_65, ki_100, ki_158, ki_160, ki_200, ki_212, ki_1000, ki_2000, ki_2001, ki_5000, ki_10000, ki_10001, ki_100000, ki_200000, ki_1000000, ki_2000000, ki_3000000, iO_neg, iO_add, iO_sub, iO_mul, kn_4, kn_8, kn_10, kn_20, kn_24, kn_40, kn_41, kn_50, kn_60, kn_158, kn_160, kn_200, kn_212, kn_2001, tn_lt, fn_lt, tn_le, fn_le, tn_eq, fn_eq, x_lt, x_le, x_eq, x_ix, x_nat, t_lt, f_lt, t_le, f_le, t_eq, f_eq, eq_self, and_self, true_and, and_true, false_and, and_false, if_true, if_false, Int.toNat_natCast, bI_s, bL_s, bA_s, bA_n, bV_s, mq_s, mq_n, en_le, bl_0, bl_1, u_eq, u_ne, w_eq, w_ne, v_eq, v_ne, ia_ln he0, lc_lt, lc_le, lc_gt, lc_ge, lc_eq, y_lt, y_le, y_eq, kl_0, lO_add, hfd]
        exact tail
      · have hw : pqw r P Q = (-P - r - 1) / (-Q) := by unfold pqw; rw [if_neg y]
        have hfd := e_floorDivL (sc := sc) (n := n) (a := -P - r - 1) (b := -Q) (z := hp XI XA XP XC MI MA ML (D.set q (ia g))) (by unfold i64; omega) (by omega) (by unfold i64; omega) (by omega)
        rw [← hw] at hfd
        simp (disch := (first | assumption | (unfold i32; omega) | (unfold i64; omega) | omega)) only [ki_0, ki_1, ki_2, ki_3, ki_4, ki_5, ki_6, ki_7, ki_8, ki_9, ki_10, ki_11, ki_12, ki_13, ki_14, ki_15, ki_20, ki_21, ki_30, ki_31, ki_40, ki_41, ki_50, ki_51, ki_60, ki_63, ki_64, ki_65, ki_100, ki_158, ki_160, ki_200, ki_212, ki_1000, ki_2000, ki_2001, ki_5000, ki_10000, ki_10001, ki_100000, ki_200000, ki_1000000, ki_2000000, ki_3000000, iO_neg, iO_add, iO_sub, iO_mul, kn_4, kn_8, kn_10, kn_20, kn_24, kn_40, kn_41, kn_50, kn_60, kn_158, kn_160, kn_200, kn_212, kn_2001, tn_lt, fn_lt, tn_le, fn_le, tn_eq, fn_eq, x_lt, x_le, x_eq, x_ix, x_nat, t_lt, f_lt, t_le, f_le, t_eq, f_eq, eq_self, and_self, true_and, and_true, false_and, and_false, if_true, if_false, Int.toNat_natCast, bI_s, bL_s, bA_s, bA_n, bV_s, mq_s, mq_n, en_le, bl_0, bl_1, u_eq, u_ne, w_eq, w_ne, v_eq, v_ne, ia_ln he0, lc_lt, lc_le, lc_gt, lc_ge, lc_eq, y_lt, y_le, y_eq, kl_0, kl_1, lO_neg, lO_sub, hfd]
        exact tail
    · intro i hi
      rw [f2 i (by omega), u_ne (by omega)]
    · intro i x hx
      match i, hx with
      | 0, hx => simp at hx; subst hx; rw [Nat.add_zero, f2 cnt (by omega), u_eq rfl]
      | i + 1, hx =>
        rw [List.getElem?_cons_succ] at hx
        rw [← f3 i x hx]
        congr 1
        omega
theorem fl_loop {q1 : Nat} {e : va_E} (he : en_nt D q = some e) (hne : q1 ≠ q) {qs : Nat → Int32} (h1 : en_nt D q1 = some (ia qs)) {Q : List Int} (hQ : QB Q) (hlen : Q.length ≤ 20) (hqs : ∀ (i : Nat) (x : Int), Q[i]? = some x → qs i = iO x) : ∀ (j i cnt : Nat) (b l : Int) (g : Nat → Int32), i + j = Q.length → 1 ≤ i → 1 ≤ cnt → cnt ≤ i → 0 ≤ b → b ≤ 10000 → 1 ≤ l → l ≤ 10000 → ∃ g', b_X7_findLines_1 sc n (q1 + 51) (iO (Q.length : Nat)) (q + 51) (lO b) (lO l) (iO (cnt : Nat)) (iO (i : Nat)) (hp XI XA XP XC MI MA ML (D.set q (ia g))) = some (some (.int (iO ((cnt + (lls (Q.drop i) b l).length : Nat) : Int))), hp XI XA XP XC MI MA ML (D.set q (ia g'))) ∧ (∀ t, t < cnt → g' t = g t) ∧ (∀ (t : Nat) (x : Int), (lls (Q.drop i) b l)[t]? = some x → g' (cnt + t) = iO x) ∧ cnt + (lls (Q.drop i) b l).length ≤ Q.length := by
  have ha : ∀ (g : Nat → Int32) (i : Int32) (f : Int32 → Option en_R), en_aI sc (hp XI XA XP XC MI MA ML (D.set q (ia g))) (q1 + 51) i f = if en_ix i 20 then f (qs i.toNatClampNeg) else none := fun g i f => d_aI (by rw [nt_set_ne hne]; exact h1) i f
  intro j
  induction j with
  | zero =>
    intro i cnt b l g hi h1 h2 h3 b1 b2 l1 l2
    have e0 : Q.drop i = [] := List.drop_eq_nil_of_le (by omega)
    rw [e0]
    refine ⟨g, ?_, fun _ _ => rfl, fun t x h => by simp [lls] at h, by simp [lls]; omega⟩
    rw [eb_X7_findLines_1]
    simp (disch := (first | assumption | (unfold i32; omega) | (unfold i64; omega) | omega)) only [ki_0, ki_1, ki_2, ki_3, ki_4, ki_5, ki_6, ki_7, ki_8, ki_9, ki_10, ki_11, ki_12, ki_13, ki_14, ki_15, ki_20, ki_21, ki_30, ki_31, ki_40, ki_41, ki_50, ki_51, ki_60, ki_63, ki_64, ki_65, ki_100, ki_158, ki_160, ki_200, ki_212, ki_1000, ki_2000, ki_2001, ki_5000, ki_10000, ki_10001, ki_100000, ki_200000, ki_1000000, ki_2000000, ki_3000000, iO_neg, iO_add, iO_sub, iO_mul, kn_4, kn_8, kn_10, kn_20, kn_24, kn_40, kn_41, kn_50, kn_60, kn_158, kn_160, kn_200, kn_212, kn_2001, tn_lt, fn_lt, tn_le, fn_le, tn_eq, fn_eq, x_lt, x_le, x_eq, x_ix, x_nat, t_lt, f_lt, t_le, f_le, t_eq, f_eq, eq_self, and_self, true_and, and_true, false_and, and_false, if_true, if_false, Int.toNat_natCast, bI_s, bL_s, bA_s, bA_n, bV_s, mq_s, mq_n, en_le, bl_0, bl_1, u_eq, u_ne, w_eq, w_ne, v_eq, v_ne]
    rfl
  | succ j ih =>
    intro i cnt b l g hi h1 h2 h3 b1 b2 l1 l2
    have hlt : i < Q.length := by omega
    have hg := List.getElem?_eq_getElem hlt
    obtain ⟨x1, x2, x3⟩ := hQ i _ hg
    have x3 := x3 h1
    have hqi := hqs i _ hg
    rw [List.drop_eq_getElem_cons hlt, eb_X7_findLines_1, lls]
    generalize Q[i] = w at *
    have m1 := mul_bd (x := w) (y := l) (a := 10000000) (b := 10000) (by omega) (by omega) (by omega) (by omega)
    have m2 := mul_le_mul' (a := 1) (b := w) (c := 1) (d := l) (by omega) (by omega) (by omega) (by omega)
    by_cases c1 : 10000 < w * l + b
    · rw [if_pos c1]
      refine ⟨g, ?_, fun _ _ => rfl, fun t x h => by simp at h, by simp; omega⟩
      simp (disch := (first | assumption | (unfold i32; omega) | (unfold i64; omega) | omega)) only [ki_0, ki_1, ki_2, ki_3, ki_4, ki_5, ki_6, ki_7, ki_8, ki_9, ki_10, ki_11, ki_12, ki_13, ki_14, ki_15, ki_20, ki_21, ki_30, ki_31, ki_40, ki_41, ki_50, ki_51, ki_60, ki_63, ki_64, ki_65, ki_100, ki_158, ki_160, ki_200, ki_212, ki_1000, ki_2000, ki_2001, ki_5000, ki_10000, ki_10001, ki_100000, ki_200000, ki_1000000, ki_2000000, ki_3000000, iO_neg, iO_add, iO_sub, iO_mul, kn_4, kn_8, kn_10, kn_20, kn_24, kn_40, kn_41, kn_50, kn_60, kn_158, kn_160, kn_200, kn_212, kn_2001, tn_lt, fn_lt, tn_le, fn_le, tn_eq, fn_eq, x_lt, x_le, x_eq, x_ix, x_nat, t_lt, f_lt, t_le, f_le, t_eq, f_eq, eq_self, and_self, true_and, and_true, false_and, and_false, if_true, if_false, Int.toNat_natCast, bI_s, bL_s, bA_s, bA_n, bV_s, mq_s, mq_n, en_le, bl_0, bl_1, u_eq, u_ne, w_eq, w_ne, v_eq, v_ne, ia_ln he, ha, hqi, iO_wide, lO_mul, lO_add, lc_lt, lc_le, lc_gt, lc_ge, lc_eq, y_lt, y_le, y_eq, kl_10000]
      rfl
    rw [if_neg c1]
    by_cases c2 : w * l + b ≤ 1
    · rw [if_pos c2]
      obtain ⟨g', f1, f2, f3, f4⟩ := ih (i + 1) cnt l (w * l + b) g (by omega) (by omega) h2 (by omega) (by omega) l2 (by omega) (by omega)
      refine ⟨g', ?_, f2, f3, f4⟩
      simp (disch := (first | assumption | (unfold i32; omega) | (unfold i64; omega) | omega)) only [ki_0, ki_1, ki_2, ki_3, ki_4, ki_5, ki_6, ki_7, ki_8, ki_9, ki_10, ki_11, ki_12, ki_13, ki_14, ki_15, ki_20, ki_21, ki_30, ki_31, ki_40, ki_41, ki_50, ki_51, ki_60, ki_63, ki_64, ki_65, ki_100, ki_158, ki_160, ki_200, ki_212, ki_1000, ki_2000, ki_2001, ki_5000, ki_10000, ki_10001, ki_100000, ki_200000, ki_1000000, ki_2000000, ki_3000000, iO_neg, iO_add, iO_sub, iO_mul, kn_4, kn_8, kn_10, kn_20, kn_24, kn_40, kn_41, kn_50, kn_60, kn_158, kn_160, kn_200, kn_212, kn_2001, tn_lt, fn_lt, tn_le, fn_le, tn_eq, fn_eq, x_lt, x_le, x_eq, x_ix, x_nat, t_lt, f_lt, t_le, f_le, t_eq, f_eq, eq_self, and_self, true_and, and_true, false_and, and_false, if_true, if_false, Int.toNat_natCast, bI_s, bL_s, bA_s, bA_n, bV_s, mq_s, mq_n, en_le, bl_0, bl_1, u_eq, u_ne, w_eq, w_ne, v_eq, v_ne, ia_ln he, ha, hqi, iO_wide, lO_mul, lO_add, lc_lt, lc_le, lc_gt, lc_ge, lc_eq, y_lt, y_le, y_eq, kl_10000, kl_1]
      exact f1
    · rw [if_neg c2]
      obtain ⟨g', f1, f2, f3, f4⟩ := ih (i + 1) (cnt + 1) l (w * l + b) (upd g cnt (iO (w * l + b))) (by omega) (by omega) (by omega) (by omega) (by omega) l2 (by omega) (by omega)
      refine ⟨g', ?_, ?_, ?_, ?_⟩
      · simp (disch := (first | assumption | (unfold i32; omega) | (unfold i64; omega) | omega)) only [ki_0, ki_1, ki_2, ki_3, ki_4, ki_5, ki_6, ki_7, ki_8, ki_9, ki_10, ki_11, ki_12, ki_13, ki_14, ki_15, ki_20, ki_21, ki_30, ki_31, ki_40, ki_41, ki_50, ki_51, ki_60, ki_63, ki_64, ki_65, ki_100, ki_158, ki_160, ki_200, ki_212, ki_1000, ki_2000, ki_2001, ki_5000, ki_10000, ki_10001, ki_100000, ki_200000, ki_1000000, ki_2000000, ki_3000000, iO_neg, iO_add, iO_sub, iO_mul, kn_4, kn_8, kn_10, kn_20, kn_24, kn_40, kn_41, kn_50, kn_60, kn_158, kn_160, kn_200, kn_212, kn_2001, tn_lt, fn_lt, tn_le, fn_le, tn_eq, fn_eq, x_lt, x_le, x_eq, x_ix, x_nat, t_lt, f_lt, t_le, f_le, t_eq, f_eq, eq_self, and_self, true_and, and_true, false_and, and_false, if_true, if_false, Int.toNat_natCast, bI_s, bL_s, bA_s, bA_n, bV_s, mq_s, mq_n, en_le, bl_0, bl_1, u_eq, u_ne, w_eq, w_ne, v_eq, v_ne, ia_ln he, ia_s he, ha, hqi, iO_wide, lO_mul, lO_add, lc_lt, lc_le, lc_gt, lc_ge, lc_eq, y_lt, y_le, y_eq, kl_10000, kl_1, lO_narrow]
        rw [show (cnt : Int) + 1 = ((cnt + 1 : Nat) : Int) by omega, show (i : Int) + 1 = ((i + 1 : Nat) : Int) by omega, f1, List.length_cons]
        congr 5
        omega
      · intro t ht
        rw [f2 t (by omega), u_ne (by omega)]
      · intro t x hx
        match t, hx with
        | 0, hx => simp at hx; subst hx; rw [Nat.add_zero, f2 cnt (by omega), u_eq rfl]
        | t + 1, hx =>
          rw [List.getElem?_cons_succ] at hx
          rw [← f3 t x hx]
          congr 1
          omega
      · rw [List.length_cons]; omega
end FQ
