/-! drop -/
def inuse (L : Int) (rs : List RW4) : Bool := rs.any (fun r => decide (r.2.1 = L))
def p_drop (S : ST5) (w : Int) : Int × ST5 :=
  if w = 0 then (if S.2.1.length = 0 then (-1, sst S 3) else ((S.2.1.length : Int) - 1, (S.1, S.2.1.dropLast, S.2.2.1, 0, S.2.2.2.2)))
  else if w = 1 then (if S.1.length = 0 ∨ inuse ((S.1.length : Int) - 1) S.2.1 = true then (-1, sst S 3) else ((S.1.length : Int) - 1, (S.1.dropLast, S.2.1, S.2.2.1, 0, S.2.2.2.2)))
  else (-1, sst S 1)
theorem inuse_not {L : Int} {rs : List RW4} (h : ¬ inuse L rs = true) {r : RW4} (hr : r ∈ rs) : r.2.1 ≠ L := by
  intro e
  apply h
  unfold inuse
  rw [List.any_eq_true]
  exact ⟨r, hr, by simp [e]⟩
theorem get_dropLast {α : Type} {l : List α} {i : Nat} (h : i + 1 < l.length) : l.dropLast[i]? = l[i]? := by
  rw [List.getElem?_dropLast, if_pos (by omega)]
theorem get_dropLast' {α : Type} {l : List α} {i : Nat} {x : α} (h : l.dropLast[i]? = some x) : l[i]? = some x ∧ i + 1 < l.length := by
  rw [List.getElem?_dropLast] at h
  split at h
  · exact ⟨h, by omega⟩
  · cases h
theorem ok_drop {S : ST5} (hS : OK5 S) {w : Int} : OK5 (p_drop S w).2 := by
  obtain ⟨a1, a2, a3, a4, a5, a6, a7, a8⟩ := id hS
  unfold p_drop
  split
  · split
    · exact hS.st (by decide) (by decide)
    · refine ⟨a1, ?_, a3, ?_, a5, Int.le_refl 0, (by show (0 : Int) ≤ 15; decide), a8⟩
      · show S.2.1.dropLast.length ≤ 10
        rw [List.length_dropLast]; omega
      · intro r hr
        exact a4 r (List.dropLast_subset _ hr)
  · split
    · split
      · exact hS.st (by decide) (by decide)
      · rename_i g
        refine ⟨?_, a2, ?_, ?_, a5, Int.le_refl 0, (by show (0 : Int) ≤ 15; decide), a8⟩
        · show S.1.dropLast.length ≤ 8
          rw [List.length_dropLast]; omega
        · intro q hq
          exact a3 q (List.dropLast_subset _ hq)
        · intro r hr
          obtain ⟨b1, b2, b3, b4, b5⟩ := a4 r hr
          refine ⟨b1, b2, b3, ?_, b5⟩
          have := inuse_not (fun h => g (Or.inr h)) hr
          show r.2.1 < (S.1.dropLast.length : Nat)
          rw [List.length_dropLast]
          omega
    · exact hS.st (by decide) (by decide)
section DRP
variable {sc : en_S} {n : Nat} {S : ST5} {XI : Nat → Int32} {XA : Nat → Nat → Int32} {XP : Nat → Nat → Option Nat} {XC : Value} {MI : Nat → Int32} {MA : Nat → Nat → Int32} {ML : Nat → Nat → Int64} {D : en_H} {Γ : Nat → Option GD}
theorem m_drop_loop (hV : MV S MI MA) (hS : OK5 S) (hL : S.1.length ≠ 0) : ∀ (j r : Nat), r + j = S.2.1.length → b_X12_drop_5 sc (n + 1) 26 (iO (r : Nat)) (hp XI XA XP XC MI MA ML D) = if inuse ((S.1.length : Int) - 1) (S.2.1.drop r) = true then some (some (.int (iO (-1))), hp XI XA XP XC (va_up MI 2 (iO 3)) MA ML D) else some (some (.int (iO ((S.1.length : Int) - 1))), hp XI XA XP XC (va_up (va_up MI 0 (iO ((S.1.length : Int) - 1))) 2 (iO 0)) MA ML D) := by
  obtain ⟨v1, v2, v3, v4, v5, v6, v7, v8⟩ := hV
  have h8 := hS.1
  have h10 := hS.2.1
  intro j
  induction j with
  | zero =>
    intro r hr
    rw [eb_X12_drop_5, show S.2.1.drop r = [] from List.drop_eq_nil_of_le (by omega), if_neg (show ¬ (inuse ((S.1.length : Int) - 1) [] = true) from Bool.false_ne_true)]
    simp (disch := (first | assumption | (unfold i32; omega) | (unfold i64; omega) | omega)) only [ki_0, ki_1, ki_2, ki_3, ki_4, ki_5, ki_6, ki_7, ki_8, ki_9, ki_10, ki_11, ki_12, ki_13, ki_14, ki_15, ki_20, ki_21, ki_30, ki_31, ki_40, ki_41, ki_50, ki_51, ki_60, ki_63, ki_64, ki_65, ki_100, ki_158, ki_160, ki_200, ki_212, ki_1000, ki_2000, ki_2001, ki_5000, ki_10000, ki_10001, ki_100000, ki_200000, ki_1000000, ki_2000000, ki_3000000, iO_neg, iO_add, iO_sub, iO_mul, kn_4, kn_8, kn_10, kn_20, kn_24, kn_40, kn_41, kn_50, kn_60, kn_158, kn_160, kn_200, kn_212, kn_2001, tn_lt, fn_lt, tn_le, fn_le, tn_eq, fn_eq, x_lt, x_le, x_eq, x_ix, x_nat, t_lt, f_lt, t_le, f_le, t_eq, f_eq, eq_self, and_self, true_and, and_true, false_and, and_false, if_true, if_false, Int.toNat_natCast, bI_s, bL_s, bA_s, bA_n, bV_s, mq_s, mq_n, en_le, bl_0, bl_1, u_eq, u_ne, w_eq, w_ne, v_eq, v_ne, hp_cc_26, hp_g_26_0, hp_p_26_0, hp_g_26_1, hp_p_26_1, hp_g_26_2, hp_p_26_2, hp_g_26_3, hp_g_26_4, hp_g_26_5, hp_g_26_6, hp_g_26_7, hp_g_26_8, hp_g_26_9, hp_g_26_10, hp_g_26_11, hp_g_26_12, hp_g_26_13, hp_g_26_14, hp_g_26_15, hp_p_26_15, hp_g_26_16, hp_g_26_17, hp_g_26_18, hp_p_26_18, hp_g_26_19, hp_p_26_19, hp_g_26_20, hp_g_26_21, hp_p_26_21, hp_g_26_22, hp_g_26_23, hp_g_26_24, hp_g_26_25, hp_g_26_26, hp_g_26_27, hp_g_26_28, hp_g_26_29, hp_g_26_30, hp_p_26_30, hp_g_26_31, hp_g_26_32, hp_p_26_32, hp_a_27, hp_s_27, hp_l_27, hp_a_28, hp_s_28, hp_l_28, hp_a_29, hp_s_29, hp_l_29, hp_a_30, hp_s_30, hp_l_30, hp_a_31, hp_s_31, hp_l_31, hp_a_32, hp_s_32, hp_l_32, hp_a_33, hp_s_33, hp_l_33, hp_a_34, hp_s_34, hp_l_34, hp_a_35, hp_s_35, hp_l_35, hp_a_36, hp_s_36, hp_l_36, hp_a_37, hp_s_37, hp_l_37, hp_a_38, hp_s_38, hp_l_38, hp_a_39, hp_s_39, hp_a_40, hp_s_40, hp_a_41, hp_s_41, hp_l_41, hp_a_42, hp_s_42, hp_l_42, hp_a_43, hp_s_43, hp_l_43, hp_a_44, hp_s_44, hp_l_44, hp_a_45, hp_s_45, hp_l_45, hp_a_46, hp_s_46, hp_l_46, hp_a_47, hp_s_47, hp_l_47, hp_a_48, hp_s_48, hp_l_48, hp_a_49, hp_s_49, hp_l_49, hp_a_50, hp_s_50, hp_l_50, v1, v2, m_done]
  | succ j ih =>
    intro r hr
    have hlt : r < S.2.1.length := by omega
    have hq := List.getElem?_eq_getElem hlt
    obtain ⟨c1, c2, c3, c4⟩ := v6 r _ hq
    obtain ⟨b1, b2, b3, b4, b5⟩ := hS.2.2.2.1 _ (List.getElem_mem hlt)
    rw [eb_X12_drop_5, List.drop_eq_getElem_cons hlt]
    generalize S.2.1[r] = q at *
    have e1 : inuse ((S.1.length : Int) - 1) (q :: S.2.1.drop (r + 1)) = (decide (q.2.1 = (S.1.length : Int) - 1) || inuse ((S.1.length : Int) - 1) (S.2.1.drop (r + 1))) := rfl
    rw [e1]
    by_cases g : q.2.1 = (S.1.length : Int) - 1
    · rw [if_pos (by simp [g])]
      simp (disch := (first | assumption | (unfold i32; omega) | (unfold i64; omega) | omega)) only [ki_0, ki_1, ki_2, ki_3, ki_4, ki_5, ki_6, ki_7, ki_8, ki_9, ki_10, ki_11, ki_12, ki_13, ki_14, ki_15, ki_20, ki_21, ki_30, ki_31, ki_40, ki_41, ki_50, ki_51, ki_60, ki_63, ki_64, ki_65, ki_100, ki_158, ki_160, ki_200, ki_212, ki_1000, ki_2000, ki_2001, ki_5000, ki_10000, ki_10001, ki_100000, ki_200000, ki_1000000, ki_2000000, ki_3000000, iO_neg, iO_add, iO_sub, iO_mul, kn_4, kn_8, kn_10, kn_20, kn_24, kn_40, kn_41, kn_50, kn_60, kn_158, kn_160, kn_200, kn_212, kn_2001, tn_lt, fn_lt, tn_le, fn_le, tn_eq, fn_eq, x_lt, x_le, x_eq, x_ix, x_nat, t_lt, f_lt, t_le, f_le, t_eq, f_eq, eq_self, and_self, true_and, and_true, false_and, and_false, if_true, if_false, Int.toNat_natCast, bI_s, bL_s, bA_s, bA_n, bV_s, mq_s, mq_n, en_le, bl_0, bl_1, u_eq, u_ne, w_eq, w_ne, v_eq, v_ne, hp_cc_26, hp_g_26_0, hp_p_26_0, hp_g_26_1, hp_p_26_1, hp_g_26_2, hp_p_26_2, hp_g_26_3, hp_g_26_4, hp_g_26_5, hp_g_26_6, hp_g_26_7, hp_g_26_8, hp_g_26_9, hp_g_26_10, hp_g_26_11, hp_g_26_12, hp_g_26_13, hp_g_26_14, hp_g_26_15, hp_p_26_15, hp_g_26_16, hp_g_26_17, hp_g_26_18, hp_p_26_18, hp_g_26_19, hp_p_26_19, hp_g_26_20, hp_g_26_21, hp_p_26_21, hp_g_26_22, hp_g_26_23, hp_g_26_24, hp_g_26_25, hp_g_26_26, hp_g_26_27, hp_g_26_28, hp_g_26_29, hp_g_26_30, hp_p_26_30, hp_g_26_31, hp_g_26_32, hp_p_26_32, hp_a_27, hp_s_27, hp_l_27, hp_a_28, hp_s_28, hp_l_28, hp_a_29, hp_s_29, hp_l_29, hp_a_30, hp_s_30, hp_l_30, hp_a_31, hp_s_31, hp_l_31, hp_a_32, hp_s_32, hp_l_32, hp_a_33, hp_s_33, hp_l_33, hp_a_34, hp_s_34, hp_l_34, hp_a_35, hp_s_35, hp_l_35, hp_a_36, hp_s_36, hp_l_36, hp_a_37, hp_s_37, hp_l_37, hp_a_38, hp_s_38, hp_l_38, hp_a_39, hp_s_39, hp_a_40, hp_s_40, hp_a_41, hp_s_41, hp_l_41, hp_a_42, hp_s_42, hp_l_42, hp_a_43, hp_s_43, hp_l_43, hp_a_44, hp_s_44, hp_l_44, hp_a_45, hp_s_45, hp_l_45, hp_a_46, hp_s_46, hp_l_46, hp_a_47, hp_s_47, hp_l_47, hp_a_48, hp_s_48, hp_l_48, hp_a_49, hp_s_49, hp_l_49, hp_a_50, hp_s_50, hp_l_50, v1, v2, c3, m_refuse]
    · have := ih (r + 1) (by omega)
      rw [show (decide (q.2.1 = (S.1.length : Int) - 1) || inuse ((S.1.length : Int) - 1) (S.2.1.drop (r + 1))) = inuse ((S.1.length : Int) - 1) (S.2.1.drop (r + 1)) by simp [g], ← this]
      simp (disch := (first | assumption | (unfold i32; omega) | (unfold i64; omega) | omega)) only [ki_0, ki_1, ki_2, ki_3, ki_4, ki_5, ki_6, ki_7, ki_8, ki_9, ki_10, ki_11, ki_12, ki_13, ki_14, ki_15, ki_20, ki_21, ki_30, ki_31, ki_40, ki_41, ki_50, ki_51, ki_60, ki_63, ki_64, ki_65, ki_100, ki_158, ki_160, ki_200, ki_212, ki_1000, ki_2000, ki_2001, ki_5000, ki_10000, ki_10001, ki_100000, ki_200000, ki_1000000, ki_2000000, ki_3000000, iO_neg, iO_add, iO_sub, iO_mul, kn_4, kn_8, kn_10, kn_20, kn_24, kn_40, kn_41, kn_50, kn_60, kn_158, kn_160, kn_200, kn_212, kn_2001, tn_lt, fn_lt, tn_le, fn_le, tn_eq, fn_eq, x_lt, x_le, x_eq, x_ix, x_nat, t_lt, f_lt, t_le, f_le, t_eq, f_eq, eq_self, and_self, true_and, and_true, false_and, and_false, if_true, if_false, Int.toNat_natCast, bI_s, bL_s, bA_s, bA_n, bV_s, mq_s, mq_n, en_le, bl_0, bl_1, u_eq, u_ne, w_eq, w_ne, v_eq, v_ne, hp_cc_26, hp_g_26_0, hp_p_26_0, hp_g_26_1, hp_p_26_1, hp_g_26_2, hp_p_26_2, hp_g_26_3, hp_g_26_4, hp_g_26_5, hp_g_26_6, hp_g_26_7, hp_g_26_8, hp_g_26_9, hp_g_26_10, hp_g_26_11, hp_g_26_12, hp_g_26_13, hp_g_26_14, hp_g_26_15, hp_p_26_15, hp_g_26_16, hp_g_26_17, hp_g_26_18, hp_p_26_18, hp_g_26_19, hp_p_26_19, hp_g_26_20, hp_g_26_21, hp_p_26_21, hp_g_26_22, hp_g_26_23, hp_g_26_24, hp_g_26_25, hp_g_26_26, hp_g_26_27, hp_g_26_28, hp_g_26_29, hp_g_26_30, hp_p_26_30, hp_g_26_31, hp_g_26_32, hp_p_26_32, hp_a_27, hp_s_27, hp_l_27, hp_a_28, hp_s_28, hp_l_28, hp_a_29, hp_s_29, hp_l_29, hp_a_30, hp_s_30, hp_l_30, hp_a_31, hp_s_31, hp_l_31, hp_a_32, hp_s_32, hp_l_32, hp_a_33, hp_s_33, hp_l_33, hp_a_34, hp_s_34, hp_l_34, hp_a_35, hp_s_35, hp_l_35, hp_a_36, hp_s_36, hp_l_36, hp_a_37, hp_s_37, hp_l_37, hp_a_38, hp_s_38, hp_l_38, hp_a_39, hp_s_39, hp_a_40, hp_s_40, hp_a_41, hp_s_41, hp_l_41, hp_a_42, hp_s_42, hp_l_42, hp_a_43, hp_s_43, hp_l_43, hp_a_44, hp_s_44, hp_l_44, hp_a_45, hp_s_45, hp_l_45, hp_a_46, hp_s_46, hp_l_46, hp_a_47, hp_s_47, hp_l_47, hp_a_48, hp_s_48, hp_l_48, hp_a_49, hp_s_49, hp_l_49, hp_a_50, hp_s_50, hp_l_50, v1, v2, c3]
      rfl
theorem mc_drop (hS : OK5 S) {w : Int} (hw : i32 w) : MC S (p_drop S w).2 (p_drop S w).1 (fun z => f_X12_drop sc (n + 2) 26 (iO w) z) := by
  obtain ⟨w1, w2⟩ := id hw
  have h8 := hS.1
  have h10 := hS.2.1
  unfold p_drop
  by_cases g0 : w = 0
  · rw [if_pos g0]
    subst g0
    by_cases g1 : S.2.1.length = 0
    · rw [if_pos g1]
      apply mc_ref
      intro XI XA XP XC MI MA ML D hV
      have v2 := hV.2.1
      show f_X12_drop sc (n + 2) 26 (iO 0) _ = _
      rw [e_X12_drop]
      simp (disch := (first | assumption | (unfold i32; omega) | (unfold i64; omega) | omega)) only [ki_0, ki_1, ki_2, ki_3, ki_4, ki_5, ki_6, ki_7, ki_8, ki_9, ki_10, ki_11, ki_12, ki_13, ki_14, ki_15, ki_20, ki_21, ki_30, ki_31, ki_40, ki_41, ki_50, ki_51, ki_60, ki_63, ki_64, ki_65, ki_100, ki_158, ki_160, ki_200, ki_212, ki_1000, ki_2000, ki_2001, ki_5000, ki_10000, ki_10001, ki_100000, ki_200000, ki_1000000, ki_2000000, ki_3000000, iO_neg, iO_add, iO_sub, iO_mul, kn_4, kn_8, kn_10, kn_20, kn_24, kn_40, kn_41, kn_50, kn_60, kn_158, kn_160, kn_200, kn_212, kn_2001, tn_lt, fn_lt, tn_le, fn_le, tn_eq, fn_eq, x_lt, x_le, x_eq, x_ix, x_nat, t_lt, f_lt, t_le, f_le, t_eq, f_eq, eq_self, and_self, true_and, and_true, false_and, and_false, if_true, if_false, Int.toNat_natCast, bI_s, bL_s, bA_s, bA_n, bV_s, mq_s, mq_n, en_le, bl_0, bl_1, u_eq, u_ne, w_eq, w_ne, v_eq, v_ne, hp_cc_26, hp_g_26_0, hp_p_26_0, hp_g_26_1, hp_p_26_1, hp_g_26_2, hp_p_26_2, hp_g_26_3, hp_g_26_4, hp_g_26_5, hp_g_26_6, hp_g_26_7, hp_g_26_8, hp_g_26_9, hp_g_26_10, hp_g_26_11, hp_g_26_12, hp_g_26_13, hp_g_26_14, hp_g_26_15, hp_p_26_15, hp_g_26_16, hp_g_26_17, hp_g_26_18, hp_p_26_18, hp_g_26_19, hp_p_26_19, hp_g_26_20, hp_g_26_21, hp_p_26_21, hp_g_26_22, hp_g_26_23, hp_g_26_24, hp_g_26_25, hp_g_26_26, hp_g_26_27, hp_g_26_28, hp_g_26_29, hp_g_26_30, hp_p_26_30, hp_g_26_31, hp_g_26_32, hp_p_26_32, hp_a_27, hp_s_27, hp_l_27, hp_a_28, hp_s_28, hp_l_28, hp_a_29, hp_s_29, hp_l_29, hp_a_30, hp_s_30, hp_l_30, hp_a_31, hp_s_31, hp_l_31, hp_a_32, hp_s_32, hp_l_32, hp_a_33, hp_s_33, hp_l_33, hp_a_34, hp_s_34, hp_l_34, hp_a_35, hp_s_35, hp_l_35, hp_a_36, hp_s_36, hp_l_36, hp_a_37, hp_s_37, hp_l_37, hp_a_38, hp_s_38, hp_l_38, hp_a_39, hp_s_39, hp_a_40, hp_s_40, hp_a_41, hp_s_41, hp_l_41, hp_a_42, hp_s_42, hp_l_42, hp_a_43, hp_s_43, hp_l_43, hp_a_44, hp_s_44, hp_l_44, hp_a_45, hp_s_45, hp_l_45, hp_a_46, hp_s_46, hp_l_46, hp_a_47, hp_s_47, hp_l_47, hp_a_48, hp_s_48, hp_l_48, hp_a_49, hp_s_49, hp_l_49, hp_a_50, hp_s_50, hp_l_50, v2, m_refuse]
    · rw [if_neg g1]
      intro XI XA XP XC MI MA ML D hV hP
      obtain ⟨v1, v2, v3, v4, v5, v6, v7, v8⟩ := id hV
      refine ⟨va_up (va_up MI 1 (iO ((S.2.1.length : Int) - 1))) 2 (iO 0), MA, ML, ?_, ⟨v1, ?_, rfl, v4, v5, ?_, v7, v8⟩, hP⟩
      · show f_X12_drop sc (n + 2) 26 (iO 0) _ = _
        rw [e_X12_drop]
        simp (disch := (first | assumption | (unfold i32; omega) | (unfold i64; omega) | omega)) only [ki_0, ki_1, ki_2, ki_3, ki_4, ki_5, ki_6, ki_7, ki_8, ki_9, ki_10, ki_11, ki_12, ki_13, ki_14, ki_15, ki_20, ki_21, ki_30, ki_31, ki_40, ki_41, ki_50, ki_51, ki_60, ki_63, ki_64, ki_65, ki_100, ki_158, ki_160, ki_200, ki_212, ki_1000, ki_2000, ki_2001, ki_5000, ki_10000, ki_10001, ki_100000, ki_200000, ki_1000000, ki_2000000, ki_3000000, iO_neg, iO_add, iO_sub, iO_mul, kn_4, kn_8, kn_10, kn_20, kn_24, kn_40, kn_41, kn_50, kn_60, kn_158, kn_160, kn_200, kn_212, kn_2001, tn_lt, fn_lt, tn_le, fn_le, tn_eq, fn_eq, x_lt, x_le, x_eq, x_ix, x_nat, t_lt, f_lt, t_le, f_le, t_eq, f_eq, eq_self, and_self, true_and, and_true, false_and, and_false, if_true, if_false, Int.toNat_natCast, bI_s, bL_s, bA_s, bA_n, bV_s, mq_s, mq_n, en_le, bl_0, bl_1, u_eq, u_ne, w_eq, w_ne, v_eq, v_ne, hp_cc_26, hp_g_26_0, hp_p_26_0, hp_g_26_1, hp_p_26_1, hp_g_26_2, hp_p_26_2, hp_g_26_3, hp_g_26_4, hp_g_26_5, hp_g_26_6, hp_g_26_7, hp_g_26_8, hp_g_26_9, hp_g_26_10, hp_g_26_11, hp_g_26_12, hp_g_26_13, hp_g_26_14, hp_g_26_15, hp_p_26_15, hp_g_26_16, hp_g_26_17, hp_g_26_18, hp_p_26_18, hp_g_26_19, hp_p_26_19, hp_g_26_20, hp_g_26_21, hp_p_26_21, hp_g_26_22, hp_g_26_23, hp_g_26_24, hp_g_26_25, hp_g_26_26, hp_g_26_27, hp_g_26_28, hp_g_26_29, hp_g_26_30, hp_p_26_30, hp_g_26_31, hp_g_26_32, hp_p_26_32, hp_a_27, hp_s_27, hp_l_27, hp_a_28, hp_s_28, hp_l_28, hp_a_29, hp_s_29, hp_l_29, hp_a_30, hp_s_30, hp_l_30, hp_a_31, hp_s_31, hp_l_31, hp_a_32, hp_s_32, hp_l_32, hp_a_33, hp_s_33, hp_l_33, hp_a_34, hp_s_34, hp_l_34, hp_a_35, hp_s_35, hp_l_35, hp_a_36, hp_s_36, hp_l_36, hp_a_37, hp_s_37, hp_l_37, hp_a_38, hp_s_38, hp_l_38, hp_a_39, hp_s_39, hp_a_40, hp_s_40, hp_a_41, hp_s_41, hp_l_41, hp_a_42, hp_s_42, hp_l_42, hp_a_43, hp_s_43, hp_l_43, hp_a_44, hp_s_44, hp_l_44, hp_a_45, hp_s_45, hp_l_45, hp_a_46, hp_s_46, hp_l_46, hp_a_47, hp_s_47, hp_l_47, hp_a_48, hp_s_48, hp_l_48, hp_a_49, hp_s_49, hp_l_49, hp_a_50, hp_s_50, hp_l_50, v2, m_done]
      · show iO ((S.2.1.length : Int) - 1) = iO (S.2.1.dropLast.length : Nat)
        rw [List.length_dropLast]
        congr 1
        omega
      · intro r q hq
        exact v6 r q (get_dropLast' hq).1
  rw [if_neg g0]
  by_cases g1 : w = 1
  · rw [if_pos g1]
    subst g1
    by_cases g2 : S.1.length = 0
    · rw [if_pos (Or.inl g2)]
      apply mc_ref
      intro XI XA XP XC MI MA ML D hV
      have v1 := hV.1
      show f_X12_drop sc (n + 2) 26 (iO 1) _ = _
      rw [e_X12_drop]
      simp (disch := (first | assumption | (unfold i32; omega) | (unfold i64; omega) | omega)) only [ki_0, ki_1, ki_2, ki_3, ki_4, ki_5, ki_6, ki_7, ki_8, ki_9, ki_10, ki_11, ki_12, ki_13, ki_14, ki_15, ki_20, ki_21, ki_30, ki_31, ki_40, ki_41, ki_50, ki_51, ki_60, ki_63, ki_64, ki_65, ki_100, ki_158, ki_160, ki_200, ki_212, ki_1000, ki_2000, ki_2001, ki_5000, ki_10000, ki_10001, ki_100000, ki_200000, ki_1000000, ki_2000000, ki_3000000, iO_neg, iO_add, iO_sub, iO_mul, kn_4, kn_8, kn_10, kn_20, kn_24, kn_40, kn_41, kn_50, kn_60, kn_158, kn_160, kn_200, kn_212, kn_2001, tn_lt, fn_lt, tn_le, fn_le, tn_eq, fn_eq, x_lt, x_le, x_eq, x_ix, x_nat, t_lt, f_lt, t_le, f_le, t_eq, f_eq, eq_self, and_self, true_and, and_true, false_and, and_false, if_true, if_false, Int.toNat_natCast, bI_s, bL_s, bA_s, bA_n, bV_s, mq_s, mq_n, en_le, bl_0, bl_1, u_eq, u_ne, w_eq, w_ne, v_eq, v_ne, hp_cc_26, hp_g_26_0, hp_p_26_0, hp_g_26_1, hp_p_26_1, hp_g_26_2, hp_p_26_2, hp_g_26_3, hp_g_26_4, hp_g_26_5, hp_g_26_6, hp_g_26_7, hp_g_26_8, hp_g_26_9, hp_g_26_10, hp_g_26_11, hp_g_26_12, hp_g_26_13, hp_g_26_14, hp_g_26_15, hp_p_26_15, hp_g_26_16, hp_g_26_17, hp_g_26_18, hp_p_26_18, hp_g_26_19, hp_p_26_19, hp_g_26_20, hp_g_26_21, hp_p_26_21, hp_g_26_22, hp_g_26_23, hp_g_26_24, hp_g_26_25, hp_g_26_26, hp_g_26_27, hp_g_26_28, hp_g_26_29, hp_g_26_30, hp_p_26_30, hp_g_26_31, hp_g_26_32, hp_p_26_32, hp_a_27, hp_s_27, hp_l_27, hp_a_28, hp_s_28, hp_l_28, hp_a_29, hp_s_29, hp_l_29, hp_a_30, hp_s_30, hp_l_30, hp_a_31, hp_s_31, hp_l_31, hp_a_32, hp_s_32, hp_l_32, hp_a_33, hp_s_33, hp_l_33, hp_a_34, hp_s_34, hp_l_34, hp_a_35, hp_s_35, hp_l_35, hp_a_36, hp_s_36, hp_l_36, hp_a_37, hp_s_37, hp_l_37, hp_a_38, hp_s_38, hp_l_38, hp_a_39, hp_s_39, hp_a_40, hp_s_40, hp_a_41, hp_s_41, hp_l_41, hp_a_42, hp_s_42, hp_l_42, hp_a_43, hp_s_43, hp_l_43, hp_a_44, hp_s_44, hp_l_44, hp_a_45, hp_s_45, hp_l_45, hp_a_46, hp_s_46, hp_l_46, hp_a_47, hp_s_47, hp_l_47, hp_a_48, hp_s_48, hp_l_48, hp_a_49, hp_s_49, hp_l_49, hp_a_50, hp_s_50, hp_l_50, v1, m_refuse]
    · have run : ∀ (XI : Nat → Int32) (XA : Nat → Nat → Int32) (XP : Nat → Nat → Option Nat) (XC : Value) (MI : Nat → Int32) (MA : Nat → Nat → Int32) (ML : Nat → Nat → Int64) (D : en_H), MV S MI MA → f_X12_drop sc (n + 2) 26 (iO 1) (hp XI XA XP XC MI MA ML D) = if inuse ((S.1.length : Int) - 1) S.2.1 = true then some (some (.int (iO (-1))), hp XI XA XP XC (va_up MI 2 (iO 3)) MA ML D) else some (some (.int (iO ((S.1.length : Int) - 1))), hp XI XA XP XC (va_up (va_up MI 0 (iO ((S.1.length : Int) - 1))) 2 (iO 0)) MA ML D) := by
        intro XI XA XP XC MI MA ML D hV
        have hl := m_drop_loop (sc := sc) (n := n) (XI := XI) (XA := XA) (XP := XP) (XC := XC) (ML := ML) (D := D) hV hS g2 S.2.1.length 0 (by omega)
        have v1 := hV.1
        rw [e_X12_drop, ← show S.2.1.drop 0 = S.2.1 from rfl, ← hl]
        simp (disch := (first | assumption | (unfold i32; omega) | (unfold i64; omega) | omega)) only [ki_0, ki_1, ki_2, ki_3, ki_4, ki_5, ki_6, ki_7, ki_8, ki_9, ki_10, ki_11, ki_12, ki_13, ki_14, ki_15, ki_20, ki_21, ki_30, ki_31, ki_40, ki_41, ki_50, ki_51, ki_60, ki_63, ki_64, ki_65, ki_100, ki_158, ki_160, ki_200, ki_212, ki_1000, ki_2000, ki_2001, ki_5000, ki_10000, ki_10001, ki_100000, ki_200000, ki_1000000, ki_2000000, ki_3000000, iO_neg, iO_add, iO_sub, iO_mul, kn_4, kn_8, kn_10, kn_20, kn_24, kn_40, kn_41, kn_50, kn_60, kn_158, kn_160, kn_200, kn_212, kn_2001, tn_lt, fn_lt, tn_le, fn_le, tn_eq, fn_eq, x_lt, x_le, x_eq, x_ix, x_nat, t_lt, f_lt, t_le, f_le, t_eq, f_eq, eq_self, and_self, true_and, and_true, false_and, and_false, if_true, if_false, Int.toNat_natCast, bI_s, bL_s, bA_s, bA_n, bV_s, mq_s, mq_n, en_le, bl_0, bl_1, u_eq, u_ne, w_eq, w_ne, v_eq, v_ne, hp_cc_26, hp_g_26_0, hp_p_26_0, hp_g_26_1, hp_p_26_1, hp_g_26_2, hp_p_26_2, hp_g_26_3, hp_g_26_4, hp_g_26_5, hp_g_26_6, hp_g_26_7, hp_g_26_8, hp_g_26_9, hp_g_26_10, hp_g_26_11, hp_g_26_12, hp_g_26_13, hp_g_26_14, hp_g_26_15, hp_p_26_15, hp_g_26_16, hp_g_26_17, hp_g_26_18, hp_p_26_18, hp_g_26_19, hp_p_26_19, hp_g_26_20, hp_g_26_21, hp_p_26_21, hp_g_26_22, hp_g_26_23, hp_g_26_24, hp_g_26_25, hp_g_26_26, hp_g_26_27, hp_g_26_28, hp_g_26_29, hp_g_26_30, hp_p_26_30, hp_g_26_31, hp_g_26_32, hp_p_26_32, hp_a_27, hp_s_27, hp_l_27, hp_a_28, hp_s_28, hp_l_28, hp_a_29, hp_s_29, hp_l_29, hp_a_30, hp_s_30, hp_l_30, hp_a_31, hp_s_31, hp_l_31, hp_a_32, hp_s_32, hp_l_32, hp_a_33, hp_s_33, hp_l_33, hp_a_34, hp_s_34, hp_l_34, hp_a_35, hp_s_35, hp_l_35, hp_a_36, hp_s_36, hp_l_36, hp_a_37, hp_s_37, hp_l_37, hp_a_38, hp_s_38, hp_l_38, hp_a_39, hp_s_39, hp_a_40, hp_s_40, hp_a_41, hp_s_41, hp_l_41, hp_a_42, hp_s_42, hp_l_42, hp_a_43, hp_s_43, hp_l_43, hp_a_44, hp_s_44, hp_l_44, hp_a_45, hp_s_45, hp_l_45, hp_a_46, hp_s_46, hp_l_46, hp_a_47, hp_s_47, hp_l_47, hp_a_48, hp_s_48, hp_l_48, hp_a_49, hp_s_49, hp_l_49, hp_a_50, hp_s_50, hp_l_50, v1]
        rfl
      by_cases g3 : inuse ((S.1.length : Int) - 1) S.2.1 = true
      · rw [if_pos (Or.inr g3)]
        apply mc_ref
        intro XI XA XP XC MI MA ML D hV
        show f_X12_drop sc (n + 2) 26 (iO 1) _ = _
        rw [run XI XA XP XC MI MA ML D hV, if_pos g3]
      · rw [if_neg (show ¬ (S.1.length = 0 ∨ inuse ((S.1.length : Int) - 1) S.2.1 = true) from fun h => h.elim g2 g3)]
        intro XI XA XP XC MI MA ML D hV hP
        obtain ⟨v1, v2, v3, v4, v5, v6, v7, v8⟩ := id hV
        refine ⟨_, MA, ML, (run XI XA XP XC MI MA ML D hV).trans (if_neg g3), ⟨?_, v2, rfl, v4, ?_, v6, v7, v8⟩, hP⟩
        · show iO ((S.1.length : Int) - 1) = iO (S.1.dropLast.length : Nat)
          rw [List.length_dropLast]
          congr 1
          omega
        · intro s q hq
          exact v5 s q (get_dropLast' hq).1
  · rw [if_neg g1]
    apply mc_ref
    intro XI XA XP XC MI MA ML D hV
    show f_X12_drop sc (n + 2) 26 (iO w) _ = _
    rw [e_X12_drop]
    simp (disch := (first | assumption | (unfold i32; omega) | (unfold i64; omega) | omega)) only [ki_0, ki_1, ki_2, ki_3, ki_4, ki_5, ki_6, ki_7, ki_8, ki_9, ki_10, ki_11, ki_12, ki_13, ki_14, ki_15, ki_20, ki_21, ki_30, ki_31, ki_40, ki_41, ki_50, ki_51, ki_60, ki_63, ki_64, ki_65, ki_100, ki_158, ki_160, ki_200, ki_212, ki_1000, ki_2000, ki_2001, ki_5000, ki_10000, ki_10001, ki_100000, ki_200000, ki_1000000, ki_2000000, ki_3000000, iO_neg, iO_add, iO_sub, iO_mul, kn_4, kn_8, kn_10, kn_20, kn_24, kn_40, kn_41, kn_50, kn_60, kn_158, kn_160, kn_200, kn_212, kn_2001, tn_lt, fn_lt, tn_le, fn_le, tn_eq, fn_eq, x_lt, x_le, x_eq, x_ix, x_nat, t_lt, f_lt, t_le, f_le, t_eq, f_eq, eq_self, and_self, true_and, and_true, false_and, and_false, if_true, if_false, Int.toNat_natCast, bI_s, bL_s, bA_s, bA_n, bV_s, mq_s, mq_n, en_le, bl_0, bl_1, u_eq, u_ne, w_eq, w_ne, v_eq, v_ne, hp_cc_26, hp_g_26_0, hp_p_26_0, hp_g_26_1, hp_p_26_1, hp_g_26_2, hp_p_26_2, hp_g_26_3, hp_g_26_4, hp_g_26_5, hp_g_26_6, hp_g_26_7, hp_g_26_8, hp_g_26_9, hp_g_26_10, hp_g_26_11, hp_g_26_12, hp_g_26_13, hp_g_26_14, hp_g_26_15, hp_p_26_15, hp_g_26_16, hp_g_26_17, hp_g_26_18, hp_p_26_18, hp_g_26_19, hp_p_26_19, hp_g_26_20, hp_g_26_21, hp_p_26_21, hp_g_26_22, hp_g_26_23, hp_g_26_24, hp_g_26_25, hp_g_26_26, hp_g_26_27, hp_g_26_28, hp_g_26_29, hp_g_26_30, hp_p_26_30, hp_g_26_31, hp_g_26_32, hp_p_26_32, hp_a_27, hp_s_27, hp_l_27, hp_a_28, hp_s_28, hp_l_28, hp_a_29, hp_s_29, hp_l_29, hp_a_30, hp_s_30, hp_l_30, hp_a_31, hp_s_31, hp_l_31, hp_a_32, hp_s_32, hp_l_32, hp_a_33, hp_s_33, hp_l_33, hp_a_34, hp_s_34, hp_l_34, hp_a_35, hp_s_35, hp_l_35, hp_a_36, hp_s_36, hp_l_36, hp_a_37, hp_s_37, hp_l_37, hp_a_38, hp_s_38, hp_l_38, hp_a_39, hp_s_39, hp_a_40, hp_s_40, hp_a_41, hp_s_41, hp_l_41, hp_a_42, hp_s_42, hp_l_42, hp_a_43, hp_s_43, hp_l_43, hp_a_44, hp_s_44, hp_l_44, hp_a_45, hp_s_45, hp_l_45, hp_a_46, hp_s_46, hp_l_46, hp_a_47, hp_s_47, hp_l_47, hp_a_48, hp_s_48, hp_l_48, hp_a_49, hp_s_49, hp_l_49, hp_a_50, hp_s_50, hp_l_50, m_refuse]
theorem x_inuse_loop (hV : CV S Γ XI XA XP D) (hS : OK5 S) (hL : S.1.length ≠ 0) : ∀ (j r : Nat), r + j = S.2.1.length → b_X11_isInUse_1 sc n 1 (iO ((S.1.length : Int) - 1)) (iO (r : Nat)) (hp XI XA XP XC MI MA ML D) = some (some (.int (iO (if inuse ((S.1.length : Int) - 1) (S.2.1.drop r) = true then 1 else 0))), hp XI XA XP XC MI MA ML D) := by
  obtain ⟨v1, v2, v3, v4, v5, v6, v7, v8, v9⟩ := hV
  have h8 := hS.1
  have h10 := hS.2.1
  intro j
  induction j with
  | zero =>
    intro r hr
    rw [eb_X11_isInUse_1, show S.2.1.drop r = [] from List.drop_eq_nil_of_le (by omega), if_neg (show ¬ (inuse ((S.1.length : Int) - 1) [] = true) from Bool.false_ne_true)]
    simp (disch := (first | assumption | (unfold i32; omega) | (unfold i64; omega) | omega)) only [ki_0, ki_1, ki_2, ki_3, ki_4, ki_5, ki_6, ki_7, ki_8, ki_9, ki_10, ki_11, ki_12, ki_13, ki_14, ki_15, ki_20, ki_21, ki_30, ki_31, ki_40, ki_41, ki_50, ki_51, ki_60, ki_63, ki_64, ki_65, ki_100, ki_158, ki_160, ki_200, ki_212, ki_1000, ki_2000, ki_2001, ki_5000, ki_10000, ki_10001, ki_100000, ki_200000, ki_1000000, ki_2000000, ki_3000000, iO_neg, iO_add, iO_sub, iO_mul, kn_4, kn_8, kn_10, kn_20, kn_24, kn_40, kn_41, kn_50, kn_60, kn_158, kn_160, kn_200, kn_212, kn_2001, tn_lt, fn_lt, tn_le, fn_le, tn_eq, fn_eq, x_lt, x_le, x_eq, x_ix, x_nat, t_lt, f_lt, t_le, f_le, t_eq, f_eq, eq_self, and_self, true_and, and_true, false_and, and_false, if_true, if_false, Int.toNat_natCast, bI_s, bL_s, bA_s, bA_n, bV_s, mq_s, mq_n, en_le, bl_0, bl_1, u_eq, u_ne, w_eq, w_ne, v_eq, v_ne, hp_cc_1, hp_g_1_0, hp_g_1_1, hp_g_1_2, hp_g_1_3, hp_g_1_4, hp_g_1_5, hp_g_1_6, hp_g_1_7, hp_g_1_8, hp_p_1_8, hp_g_1_9, hp_p_1_9, hp_g_1_10, hp_p_1_10, hp_a_2, hp_n_2, hp_a_3, hp_n_3, hp_a_4, v2]
  | succ j ih =>
    intro r hr
    have hlt : r < S.2.1.length := by omega
    have hq := List.getElem?_eq_getElem hlt
    obtain ⟨p, g, c1, c2, c3, c4, c5, c6, c7, c8, c9⟩ := v6 r _ hq
    obtain ⟨b1, b2, b3, b4, b5, b6, b7, b8, b9⟩ := hS.2.2.2.1 _ (List.getElem_mem hlt)
    rw [eb_X11_isInUse_1, List.drop_eq_getElem_cons hlt]
    generalize S.2.1[r] = q at *
    have e1 : inuse ((S.1.length : Int) - 1) (q :: S.2.1.drop (r + 1)) = (decide (q.2.1 = (S.1.length : Int) - 1) || inuse ((S.1.length : Int) - 1) (S.2.1.drop (r + 1))) := rfl
    rw [e1]
    have ih' := ih (r + 1) (by omega)
    have rest : ¬ q.2.1 = (S.1.length : Int) - 1 → b_X11_isInUse_1 sc n 1 (iO ((S.1.length : Int) - 1)) (iO ((r : Int) + 1)) (hp XI XA XP XC MI MA ML D) = some (some (.int (iO (if (decide (q.2.1 = (S.1.length : Int) - 1) || inuse ((S.1.length : Int) - 1) (S.2.1.drop (r + 1))) = true then 1 else 0))), hp XI XA XP XC MI MA ML D) := by
      intro gg
      rw [show (decide (q.2.1 = (S.1.length : Int) - 1) || inuse ((S.1.length : Int) - 1) (S.2.1.drop (r + 1))) = inuse ((S.1.length : Int) - 1) (S.2.1.drop (r + 1)) by simp [gg], ← ih']
      rfl
    rcases (v9 p g c2).2.2.2 with ⟨r0, arr, r1, -⟩ | ⟨r0, sp, u, v, r1, -⟩ | ⟨r0, qq, gq, kn, tk, en, arr, z, zs, o, os, -, -, r1, -⟩
    · rw [← rest (by rw [b9 (by omega) (by omega)]; omega)]
      have hio : ∀ f0 f1 : Option en_R, en_io (hp XI XA XP XC MI MA ML D) (p + 51) [(1, 0), (2, 1), (3, 1), (4, 1), (8, 0)] f0 f1 = f0 := fun f0 f1 => d_io r1 _ f0 f1
      simp (disch := (first | assumption | (unfold i32; omega) | (unfold i64; omega) | omega)) only [ki_0, ki_1, ki_2, ki_3, ki_4, ki_5, ki_6, ki_7, ki_8, ki_9, ki_10, ki_11, ki_12, ki_13, ki_14, ki_15, ki_20, ki_21, ki_30, ki_31, ki_40, ki_41, ki_50, ki_51, ki_60, ki_63, ki_64, ki_65, ki_100, ki_158, ki_160, ki_200, ki_212, ki_1000, ki_2000, ki_2001, ki_5000, ki_10000, ki_10001, ki_100000, ki_200000, ki_1000000, ki_2000000, ki_3000000, iO_neg, iO_add, iO_sub, iO_mul, kn_4, kn_8, kn_10, kn_20, kn_24, kn_40, kn_41, kn_50, kn_60, kn_158, kn_160, kn_200, kn_212, kn_2001, tn_lt, fn_lt, tn_le, fn_le, tn_eq, fn_eq, x_lt, x_le, x_eq, x_ix, x_nat, t_lt, f_lt, t_le, f_le, t_eq, f_eq, eq_self, and_self, true_and, and_true, false_and, and_false, if_true, if_false, Int.toNat_natCast, bI_s, bL_s, bA_s, bA_n, bV_s, mq_s, mq_n, en_le, bl_0, bl_1, u_eq, u_ne, w_eq, w_ne, v_eq, v_ne, hp_cc_1, hp_g_1_0, hp_g_1_1, hp_g_1_2, hp_g_1_3, hp_g_1_4, hp_g_1_5, hp_g_1_6, hp_g_1_7, hp_g_1_8, hp_p_1_8, hp_g_1_9, hp_p_1_9, hp_g_1_10, hp_p_1_10, hp_a_2, hp_n_2, hp_a_3, hp_n_3, hp_a_4, v2, c1, hio]
    · have hci : evc g.1 = 2 ∨ evc g.1 = 3 ∨ evc g.1 = 4 := by rcases r0 with h | h | h <;> rw [h] <;> decide
      have hio : ∀ f0 f1 : Option en_R, en_io (hp XI XA XP XC MI MA ML D) (p + 51) [(1, 0), (2, 1), (3, 1), (4, 1), (8, 0)] f0 f1 = f1 := by
        intro f0 f1
        rw [d_io r1]
        rcases hci with h | h | h <;> rw [h] <;> rfl
      have hvt : ∀ f : Option en_R, en_vt (hp XI XA XP XC MI MA ML D) (p + 51) [(2, 1), (3, 1), (4, 1)] (fun _ => f) = f := by
        intro f
        rw [d_vt r1]
        rcases hci with h | h | h <;> rw [h] <;> rfl
      have hfd : en_fd [(2, 0), (3, 0), (4, 0)] (evc g.1) = some 0 := by rcases hci with h | h | h <;> rw [h] <;> rfl
      have g3 : ∀ (f : Int32 → Option en_R), en_gI (hp XI XA XP XC MI MA ML D) (p + 51) [(2, 0), (3, 0), (4, 0)] 3 f = f (iO g.2.2.2.1) := fun f => d_gI r1 hfd rfl f
      by_cases gg : q.2.1 = (S.1.length : Int) - 1
      · rw [if_pos (by simp [gg])]
        simp (disch := (first | assumption | (unfold i32; omega) | (unfold i64; omega) | omega)) only [ki_0, ki_1, ki_2, ki_3, ki_4, ki_5, ki_6, ki_7, ki_8, ki_9, ki_10, ki_11, ki_12, ki_13, ki_14, ki_15, ki_20, ki_21, ki_30, ki_31, ki_40, ki_41, ki_50, ki_51, ki_60, ki_63, ki_64, ki_65, ki_100, ki_158, ki_160, ki_200, ki_212, ki_1000, ki_2000, ki_2001, ki_5000, ki_10000, ki_10001, ki_100000, ki_200000, ki_1000000, ki_2000000, ki_3000000, iO_neg, iO_add, iO_sub, iO_mul, kn_4, kn_8, kn_10, kn_20, kn_24, kn_40, kn_41, kn_50, kn_60, kn_158, kn_160, kn_200, kn_212, kn_2001, tn_lt, fn_lt, tn_le, fn_le, tn_eq, fn_eq, x_lt, x_le, x_eq, x_ix, x_nat, t_lt, f_lt, t_le, f_le, t_eq, f_eq, eq_self, and_self, true_and, and_true, false_and, and_false, if_true, if_false, Int.toNat_natCast, bI_s, bL_s, bA_s, bA_n, bV_s, mq_s, mq_n, en_le, bl_0, bl_1, u_eq, u_ne, w_eq, w_ne, v_eq, v_ne, hp_cc_1, hp_g_1_0, hp_g_1_1, hp_g_1_2, hp_g_1_3, hp_g_1_4, hp_g_1_5, hp_g_1_6, hp_g_1_7, hp_g_1_8, hp_p_1_8, hp_g_1_9, hp_p_1_9, hp_g_1_10, hp_p_1_10, hp_a_2, hp_n_2, hp_a_3, hp_n_3, hp_a_4, v2, c1, hio, hvt, g3, c6]
      · rw [← rest gg]
        simp (disch := (first | assumption | (unfold i32; omega) | (unfold i64; omega) | omega)) only [ki_0, ki_1, ki_2, ki_3, ki_4, ki_5, ki_6, ki_7, ki_8, ki_9, ki_10, ki_11, ki_12, ki_13, ki_14, ki_15, ki_20, ki_21, ki_30, ki_31, ki_40, ki_41, ki_50, ki_51, ki_60, ki_63, ki_64, ki_65, ki_100, ki_158, ki_160, ki_200, ki_212, ki_1000, ki_2000, ki_2001, ki_5000, ki_10000, ki_10001, ki_100000, ki_200000, ki_1000000, ki_2000000, ki_3000000, iO_neg, iO_add, iO_sub, iO_mul, kn_4, kn_8, kn_10, kn_20, kn_24, kn_40, kn_41, kn_50, kn_60, kn_158, kn_160, kn_200, kn_212, kn_2001, tn_lt, fn_lt, tn_le, fn_le, tn_eq, fn_eq, x_lt, x_le, x_eq, x_ix, x_nat, t_lt, f_lt, t_le, f_le, t_eq, f_eq, eq_self, and_self, true_and, and_true, false_and, and_false, if_true, if_false, Int.toNat_natCast, bI_s, bL_s, bA_s, bA_n, bV_s, mq_s, mq_n, en_le, bl_0, bl_1, u_eq, u_ne, w_eq, w_ne, v_eq, v_ne, hp_cc_1, hp_g_1_0, hp_g_1_1, hp_g_1_2, hp_g_1_3, hp_g_1_4, hp_g_1_5, hp_g_1_6, hp_g_1_7, hp_g_1_8, hp_p_1_8, hp_g_1_9, hp_p_1_9, hp_g_1_10, hp_p_1_10, hp_a_2, hp_n_2, hp_a_3, hp_n_3, hp_a_4, v2, c1, hio, hvt, g3, c6]
    · rw [← rest (by rw [b9 (by omega) (by omega)]; omega)]
      have hio : ∀ f0 f1 : Option en_R, en_io (hp XI XA XP XC MI MA ML D) (p + 51) [(1, 0), (2, 1), (3, 1), (4, 1), (8, 0)] f0 f1 = f0 := fun f0 f1 => d_io r1 _ f0 f1
      simp (disch := (first | assumption | (unfold i32; omega) | (unfold i64; omega) | omega)) only [ki_0, ki_1, ki_2, ki_3, ki_4, ki_5, ki_6, ki_7, ki_8, ki_9, ki_10, ki_11, ki_12, ki_13, ki_14, ki_15, ki_20, ki_21, ki_30, ki_31, ki_40, ki_41, ki_50, ki_51, ki_60, ki_63, ki_64, ki_65, ki_100, ki_158, ki_160, ki_200, ki_212, ki_1000, ki_2000, ki_2001, ki_5000, ki_10000, ki_10001, ki_100000, ki_200000, ki_1000000, ki_2000000, ki_3000000, iO_neg, iO_add, iO_sub, iO_mul, kn_4, kn_8, kn_10, kn_20, kn_24, kn_40, kn_41, kn_50, kn_60, kn_158, kn_160, kn_200, kn_212, kn_2001, tn_lt, fn_lt, tn_le, fn_le, tn_eq, fn_eq, x_lt, x_le, x_eq, x_ix, x_nat, t_lt, f_lt, t_le, f_le, t_eq, f_eq, eq_self, and_self, true_and, and_true, false_and, and_false, if_true, if_false, Int.toNat_natCast, bI_s, bL_s, bA_s, bA_n, bV_s, mq_s, mq_n, en_le, bl_0, bl_1, u_eq, u_ne, w_eq, w_ne, v_eq, v_ne, hp_cc_1, hp_g_1_0, hp_g_1_1, hp_g_1_2, hp_g_1_3, hp_g_1_4, hp_g_1_5, hp_g_1_6, hp_g_1_7, hp_g_1_8, hp_p_1_8, hp_g_1_9, hp_p_1_9, hp_g_1_10, hp_p_1_10, hp_a_2, hp_n_2, hp_a_3, hp_n_3, hp_a_4, v2, c1, hio]
theorem cs_drop (hS : OK5 S) {w : Int} (hw : i32 w) : CS S (p_drop S w).2 (p_drop S w).1 (fun z => f_X11_drop sc (n + 4) 1 (iO w) z) := by
  obtain ⟨w1, w2⟩ := id hw
  have h8 := hS.1
  have h10 := hS.2.1
  unfold p_drop
  by_cases g0 : w = 0
  · rw [if_pos g0]
    subst g0
    by_cases g1 : S.2.1.length = 0
    · rw [if_pos g1]
      apply cs_ref
      intro XI XA XP XC MI MA ML D Γ hV
      have v2 := hV.2.1
      show f_X11_drop sc (n + 4) 1 (iO 0) _ = _
      rw [e_X11_drop]
      simp (disch := (first | assumption | (unfold i32; omega) | (unfold i64; omega) | omega)) only [ki_0, ki_1, ki_2, ki_3, ki_4, ki_5, ki_6, ki_7, ki_8, ki_9, ki_10, ki_11, ki_12, ki_13, ki_14, ki_15, ki_20, ki_21, ki_30, ki_31, ki_40, ki_41, ki_50, ki_51, ki_60, ki_63, ki_64, ki_65, ki_100, ki_158, ki_160, ki_200, ki_212, ki_1000, ki_2000, ki_2001, ki_5000, ki_10000, ki_10001, ki_100000, ki_200000, ki_1000000, ki_2000000, ki_3000000, iO_neg, iO_add, iO_sub, iO_mul, kn_4, kn_8, kn_10, kn_20, kn_24, kn_40, kn_41, kn_50, kn_60, kn_158, kn_160, kn_200, kn_212, kn_2001, tn_lt, fn_lt, tn_le, fn_le, tn_eq, fn_eq, x_lt, x_le, x_eq, x_ix, x_nat, t_lt, f_lt, t_le, f_le, t_eq, f_eq, eq_self, and_self, true_and, and_true, false_and, and_false, if_true, if_false, Int.toNat_natCast, bI_s, bL_s, bA_s, bA_n, bV_s, mq_s, mq_n, en_le, bl_0, bl_1, u_eq, u_ne, w_eq, w_ne, v_eq, v_ne, hp_cc_1, hp_g_1_0, hp_g_1_1, hp_g_1_2, hp_g_1_3, hp_g_1_4, hp_g_1_5, hp_g_1_6, hp_g_1_7, hp_g_1_8, hp_p_1_8, hp_g_1_9, hp_p_1_9, hp_g_1_10, hp_p_1_10, hp_a_2, hp_n_2, hp_a_3, hp_n_3, hp_a_4, e_X11_dropRow, v2, x_refuse]
    · rw [if_neg g1]
      intro XI XA XP XC MI MA ML D Γ hV
      obtain ⟨v1, v2, v3, v4, v5, v6, v7, v8, v9⟩ := id hV
      refine ⟨va_up (va_up XI 1 (iO ((S.2.1.length : Int) - 1))) 2 (iO 0), XA, va_up XP 1 (va_up (XP 1) (S.2.1.length - 1) none), XC, D, Γ, ?_, ⟨v1, ?_, rfl, v4, v5, ?_, ?_, v8, v9⟩, GR.rfl'⟩
      · show f_X11_drop sc (n + 4) 1 (iO 0) _ = _
        rw [e_X11_drop]
        simp (disch := (first | assumption | (unfold i32; omega) | (unfold i64; omega) | omega)) only [ki_0, ki_1, ki_2, ki_3, ki_4, ki_5, ki_6, ki_7, ki_8, ki_9, ki_10, ki_11, ki_12, ki_13, ki_14, ki_15, ki_20, ki_21, ki_30, ki_31, ki_40, ki_41, ki_50, ki_51, ki_60, ki_63, ki_64, ki_65, ki_100, ki_158, ki_160, ki_200, ki_212, ki_1000, ki_2000, ki_2001, ki_5000, ki_10000, ki_10001, ki_100000, ki_200000, ki_1000000, ki_2000000, ki_3000000, iO_neg, iO_add, iO_sub, iO_mul, kn_4, kn_8, kn_10, kn_20, kn_24, kn_40, kn_41, kn_50, kn_60, kn_158, kn_160, kn_200, kn_212, kn_2001, tn_lt, fn_lt, tn_le, fn_le, tn_eq, fn_eq, x_lt, x_le, x_eq, x_ix, x_nat, t_lt, f_lt, t_le, f_le, t_eq, f_eq, eq_self, and_self, true_and, and_true, false_and, and_false, if_true, if_false, Int.toNat_natCast, bI_s, bL_s, bA_s, bA_n, bV_s, mq_s, mq_n, en_le, bl_0, bl_1, u_eq, u_ne, w_eq, w_ne, v_eq, v_ne, hp_cc_1, hp_g_1_0, hp_g_1_1, hp_g_1_2, hp_g_1_3, hp_g_1_4, hp_g_1_5, hp_g_1_6, hp_g_1_7, hp_g_1_8, hp_p_1_8, hp_g_1_9, hp_p_1_9, hp_g_1_10, hp_p_1_10, hp_a_2, hp_n_2, hp_a_3, hp_n_3, hp_a_4, e_X11_dropRow, v2, x_done]
        rw [show ((S.2.1.length : Int) - 1).toNat = S.2.1.length - 1 by omega]
      · show iO ((S.2.1.length : Int) - 1) = iO (S.2.1.dropLast.length : Nat)
        rw [List.length_dropLast]
        congr 1
        omega
      · intro r q hq
        obtain ⟨q1, q2⟩ := get_dropLast' hq
        obtain ⟨p, g, c1, c2⟩ := v6 r q q1
        refine ⟨p, g, ?_, c2⟩
        show va_up (XP 1) (S.2.1.length - 1) none r = _
        rw [w_ne (by omega)]
        exact c1
      · intro k hk
        obtain ⟨a, b, c⟩ := v7 k hk
        exact ⟨(va_up_ne _ _ (by omega)).trans ((va_up_ne _ _ (by omega)).trans a), (va_up_ne _ _ (by omega)).trans ((va_up_ne _ _ (by omega)).trans b), c⟩
  rw [if_neg g0]
  by_cases g1 : w = 1
  · rw [if_pos g1]
    subst g1
    by_cases g2 : S.1.length = 0
    · rw [if_pos (Or.inl g2)]
      apply cs_ref
      intro XI XA XP XC MI MA ML D Γ hV
      have v1 := hV.1
      show f_X11_drop sc (n + 4) 1 (iO 1) _ = _
      rw [e_X11_drop]
      simp (disch := (first | assumption | (unfold i32; omega) | (unfold i64; omega) | omega)) only [ki_0, ki_1, ki_2, ki_3, ki_4, ki_5, ki_6, ki_7, ki_8, ki_9, ki_10, ki_11, ki_12, ki_13, ki_14, ki_15, ki_20, ki_21, ki_30, ki_31, ki_40, ki_41, ki_50, ki_51, ki_60, ki_63, ki_64, ki_65, ki_100, ki_158, ki_160, ki_200, ki_212, ki_1000, ki_2000, ki_2001, ki_5000, ki_10000, ki_10001, ki_100000, ki_200000, ki_1000000, ki_2000000, ki_3000000, iO_neg, iO_add, iO_sub, iO_mul, kn_4, kn_8, kn_10, kn_20, kn_24, kn_40, kn_41, kn_50, kn_60, kn_158, kn_160, kn_200, kn_212, kn_2001, tn_lt, fn_lt, tn_le, fn_le, tn_eq, fn_eq, x_lt, x_le, x_eq, x_ix, x_nat, t_lt, f_lt, t_le, f_le, t_eq, f_eq, eq_self, and_self, true_and, and_true, false_and, and_false, if_true, if_false, Int.toNat_natCast, bI_s, bL_s, bA_s, bA_n, bV_s, mq_s, mq_n, en_le, bl_0, bl_1, u_eq, u_ne, w_eq, w_ne, v_eq, v_ne, hp_cc_1, hp_g_1_0, hp_g_1_1, hp_g_1_2, hp_g_1_3, hp_g_1_4, hp_g_1_5, hp_g_1_6, hp_g_1_7, hp_g_1_8, hp_p_1_8, hp_g_1_9, hp_p_1_9, hp_g_1_10, hp_p_1_10, hp_a_2, hp_n_2, hp_a_3, hp_n_3, hp_a_4, e_X11_dropSlope, v1, x_refuse]
    · have use : ∀ (XI : Nat → Int32) (XA : Nat → Nat → Int32) (XP : Nat → Nat → Option Nat) (XC : Value) (MI : Nat → Int32) (MA : Nat → Nat → Int32) (ML : Nat → Nat → Int64) (D : en_H) (Γ : Nat → Option GD), CV S Γ XI XA XP D → f_X11_isInUse sc (n + 2) 1 (iO ((S.1.length : Int) - 1)) (hp XI XA XP XC MI MA ML D) = some (some (.int (iO (if inuse ((S.1.length : Int) - 1) S.2.1 = true then 1 else 0))), hp XI XA XP XC MI MA ML D) := by
        intro XI XA XP XC MI MA ML D Γ hV
        rw [e_X11_isInUse]
        exact x_inuse_loop hV hS g2 S.2.1.length 0 (by omega)
      by_cases g3 : inuse ((S.1.length : Int) - 1) S.2.1 = true
      · rw [if_pos (Or.inr g3)]
        apply cs_ref
        intro XI XA XP XC MI MA ML D Γ hV
        have v1 := hV.1
        have hu := use XI XA XP XC MI MA ML D Γ hV
        rw [if_pos g3] at hu
        show f_X11_drop sc (n + 4) 1 (iO 1) _ = _
        rw [e_X11_drop]
        simp (disch := (first | assumption | (unfold i32; omega) | (unfold i64; omega) | omega)) only [ki_0, ki_1, ki_2, ki_3, ki_4, ki_5, ki_6, ki_7, ki_8, ki_9, ki_10, ki_11, ki_12, ki_13, ki_14, ki_15, ki_20, ki_21, ki_30, ki_31, ki_40, ki_41, ki_50, ki_51, ki_60, ki_63, ki_64, ki_65, ki_100, ki_158, ki_160, ki_200, ki_212, ki_1000, ki_2000, ki_2001, ki_5000, ki_10000, ki_10001, ki_100000, ki_200000, ki_1000000, ki_2000000, ki_3000000, iO_neg, iO_add, iO_sub, iO_mul, kn_4, kn_8, kn_10, kn_20, kn_24, kn_40, kn_41, kn_50, kn_60, kn_158, kn_160, kn_200, kn_212, kn_2001, tn_lt, fn_lt, tn_le, fn_le, tn_eq, fn_eq, x_lt, x_le, x_eq, x_ix, x_nat, t_lt, f_lt, t_le, f_le, t_eq, f_eq, eq_self, and_self, true_and, and_true, false_and, and_false, if_true, if_false, Int.toNat_natCast, bI_s, bL_s, bA_s, bA_n, bV_s, mq_s, mq_n, en_le, bl_0, bl_1, u_eq, u_ne, w_eq, w_ne, v_eq, v_ne, hp_cc_1, hp_g_1_0, hp_g_1_1, hp_g_1_2, hp_g_1_3, hp_g_1_4, hp_g_1_5, hp_g_1_6, hp_g_1_7, hp_g_1_8, hp_p_1_8, hp_g_1_9, hp_p_1_9, hp_g_1_10, hp_p_1_10, hp_a_2, hp_n_2, hp_a_3, hp_n_3, hp_a_4, e_X11_dropSlope, v1, hu, x_refuse]
      · rw [if_neg (show ¬ (S.1.length = 0 ∨ inuse ((S.1.length : Int) - 1) S.2.1 = true) from fun h => h.elim g2 g3)]
        intro XI XA XP XC MI MA ML D Γ hV
        obtain ⟨v1, v2, v3, v4, v5, v6, v7, v8, v9⟩ := id hV
        have hu := use XI XA XP XC MI MA ML D Γ hV
        rw [if_neg g3] at hu
        refine ⟨va_up (va_up XI 0 (iO ((S.1.length : Int) - 1))) 2 (iO 0), XA, va_up XP 0 (va_up (XP 0) (S.1.length - 1) none), XC, D, Γ, ?_, ⟨?_, v2, rfl, v4, ?_, ?_, ?_, v8, v9⟩, GR.rfl'⟩
        · show f_X11_drop sc (n + 4) 1 (iO 1) _ = _
          rw [e_X11_drop]
          simp (disch := (first | assumption | (unfold i32; omega) | (unfold i64; omega) | omega)) only [ki_0, ki_1, ki_2, ki_3, ki_4, ki_5, ki_6, ki_7, ki_8, ki_9, ki_10, ki_11, ki_12, ki_13, ki_14, ki_15, ki_20, ki_21, ki_30, ki_31, ki_40, ki_41, ki_50, ki_51, ki_60, ki_63, ki_64, ki_65, ki_100, ki_158, ki_160, ki_200, ki_212, ki_1000, ki_2000, ki_2001, ki_5000, ki_10000, ki_10001, ki_100000, ki_200000, ki_1000000, ki_2000000, ki_3000000, iO_neg, iO_add, iO_sub, iO_mul, kn_4, kn_8, kn_10, kn_20, kn_24, kn_40, kn_41, kn_50, kn_60, kn_158, kn_160, kn_200, kn_212, kn_2001, tn_lt, fn_lt, tn_le, fn_le, tn_eq, fn_eq, x_lt, x_le, x_eq, x_ix, x_nat, t_lt, f_lt, t_le, f_le, t_eq, f_eq, eq_self, and_self, true_and, and_true, false_and, and_false, if_true, if_false, Int.toNat_natCast, bI_s, bL_s, bA_s, bA_n, bV_s, mq_s, mq_n, en_le, bl_0, bl_1, u_eq, u_ne, w_eq, w_ne, v_eq, v_ne, hp_cc_1, hp_g_1_0, hp_g_1_1, hp_g_1_2, hp_g_1_3, hp_g_1_4, hp_g_1_5, hp_g_1_6, hp_g_1_7, hp_g_1_8, hp_p_1_8, hp_g_1_9, hp_p_1_9, hp_g_1_10, hp_p_1_10, hp_a_2, hp_n_2, hp_a_3, hp_n_3, hp_a_4, e_X11_dropSlope, v1, hu, x_done]
          rw [show ((S.1.length : Int) - 1).toNat = S.1.length - 1 by omega]
        · show iO ((S.1.length : Int) - 1) = iO (S.1.dropLast.length : Nat)
          rw [List.length_dropLast]
          congr 1
          omega
        · intro r q hq
          obtain ⟨q1, q2⟩ := get_dropLast' hq
          obtain ⟨p, c1, c2⟩ := v5 r q q1
          refine ⟨p, ?_, c2⟩
          show va_up (XP 0) (S.1.length - 1) none r = _
          rw [w_ne (by omega)]
          exact c1
        · intro r q hq
          obtain ⟨p, g, c1, c2, c3, c4, c5, c6, c7, c8, c9⟩ := v6 r q hq
          refine ⟨p, g, c1, c2, c3, c4, c5, c6, c7, c8, fun h => ?_⟩
          have hmem := List.mem_of_getElem? hq
          have hne := inuse_not g3 hmem
          obtain ⟨b1, b2, b3, b4, b5, b6, b7, b8, b9⟩ := hS.2.2.2.1 q hmem
          show S.1.dropLast[q.2.1.toNat]? = _
          rw [get_dropLast (by omega)]
          exact c9 h
        · intro k hk
          obtain ⟨a, b, c⟩ := v7 k hk
          exact ⟨(va_up_ne _ _ (by omega)).trans ((va_up_ne _ _ (by omega)).trans a), (va_up_ne _ _ (by omega)).trans ((va_up_ne _ _ (by omega)).trans b), c⟩
  · rw [if_neg g1]
    apply cs_ref
    intro XI XA XP XC MI MA ML D Γ hV
    show f_X11_drop sc (n + 4) 1 (iO w) _ = _
    rw [e_X11_drop]
    simp (disch := (first | assumption | (unfold i32; omega) | (unfold i64; omega) | omega)) only [ki_0, ki_1, ki_2, ki_3, ki_4, ki_5, ki_6, ki_7, ki_8, ki_9, ki_10, ki_11, ki_12, ki_13, ki_14, ki_15, ki_20, ki_21, ki_30, ki_31, ki_40, ki_41, ki_50, ki_51, ki_60, ki_63, ki_64, ki_65, ki_100, ki_158, ki_160, ki_200, ki_212, ki_1000, ki_2000, ki_2001, ki_5000, ki_10000, ki_10001, ki_100000, ki_200000, ki_1000000, ki_2000000, ki_3000000, iO_neg, iO_add, iO_sub, iO_mul, kn_4, kn_8, kn_10, kn_20, kn_24, kn_40, kn_41, kn_50, kn_60, kn_158, kn_160, kn_200, kn_212, kn_2001, tn_lt, fn_lt, tn_le, fn_le, tn_eq, fn_eq, x_lt, x_le, x_eq, x_ix, x_nat, t_lt, f_lt, t_le, f_le, t_eq, f_eq, eq_self, and_self, true_and, and_true, false_and, and_false, if_true, if_false, Int.toNat_natCast, bI_s, bL_s, bA_s, bA_n, bV_s, mq_s, mq_n, en_le, bl_0, bl_1, u_eq, u_ne, w_eq, w_ne, v_eq, v_ne, hp_cc_1, hp_g_1_0, hp_g_1_1, hp_g_1_2, hp_g_1_3, hp_g_1_4, hp_g_1_5, hp_g_1_6, hp_g_1_7, hp_g_1_8, hp_p_1_8, hp_g_1_9, hp_p_1_9, hp_g_1_10, hp_p_1_10, hp_a_2, hp_n_2, hp_a_3, hp_n_3, hp_a_4, x_refuse]
end DRP
