/-! act: the calls -/
def a_run (a k : Int) (p m x : Int32) : Int32 × List Int := if a = 0 then a_go k p x else if a = 1 then a_gap k p x else if a = 2 then a_grow k m x else a_tell k p m x
theorem go_len (k : Int) (p x : Int32) : (a_go k p x).2.length ≤ 2 := by unfold a_go; split <;> (try split) <;> simp
theorem gapR_len (k : Int) (p x : Int32) : (a_gapR k p x).2.length ≤ 3 := by have := go_len k p x; unfold a_gapR; simp; omega
theorem gap_len (k : Int) (p x : Int32) : (a_gap k p x).2.length ≤ 6 := by
  have h1 := gapR_len k p x
  have h2 := gapR_len k p (x + iO 1)
  unfold a_gap
  split
  · simp; omega
  · split
    · simp; omega
    · omega
theorem grow_len (k : Int) (m x : Int32) : (a_grow k m x).2.length ≤ 3 := by unfold a_grow; split <;> (try split) <;> (try split) <;> simp
theorem run_len (a k : Int) (p m x : Int32) : (a_run a k p m x).2.length ≤ 20 := by
  have h1 := go_len k p x
  have h2 := gap_len k p x
  have h3 := grow_len k m x
  have h4 : (a_tellR k p m x).2.length ≤ 10 := by unfold a_tellR; simp; omega
  have h5 : (a_tell k p m x).2.length ≤ 14 := by
    unfold a_tell
    split
    · simp; omega
    · omega
  unfold a_run
  split
  · omega
  · split
    · omega
    · split <;> omega
def p_act (S : ST5) (r a x : Int) : Int × ST5 := match rowq S r with
  | some q => if 0 ≤ a ∧ a ≤ 3 then ((a_run a q.1 (iO (if 1 < q.2.2.1 then q.2.2.2 1 else 0)) (iO r) (iO x)).1.toInt, (S.1, S.2.1, S.2.2.1, 0, (a_run a q.1 (iO (if 1 < q.2.2.1 then q.2.2.2 1 else 0)) (iO r) (iO x)).2)) else (-1, sst S 1)
  | none => (-1, sst S 1)
theorem ok_act {S : ST5} (hS : OK5 S) {r a x : Int} : OK5 (p_act S r a x).2 := by
  unfold p_act
  cases hq : rowq S r with
  | none => exact hS.st (by decide) (by decide)
  | some q =>
    show OK5 (if 0 ≤ a ∧ a ≤ 3 then _ else _ : Int × ST5).2
    split
    · obtain ⟨a1, a2, a3, a4, a5, a6, a7, a8⟩ := hS
      exact ⟨a1, a2, a3, a4, a5, Int.le_refl 0, (by show (0 : Int) ≤ 15; decide), Nat.le_trans (run_len a q.1 _ _ _) (by decide)⟩
    · exact hS.st (by decide) (by decide)
section ACT
variable {sc : en_S} {n : Nat} {S : ST5}
theorem mc_act (hS : OK5 S) {r a x : Int} (hr : i32 r) (ha : i32 a) : MC S (p_act S r a x).2 (p_act S r a x).1 (fun z => f_X12_act sc (n + 40) 26 (iO r) (iO a) (iO x) z) := by
  obtain ⟨a1, a2⟩ := id ha
  have h10 := hS.2.1
  unfold p_act
  cases hq : rowq S r with
  | none =>
    apply mc_ref
    intro XI XA XP XC MI MA ML D hV
    have := rowq_none hq
    show f_X12_act sc (n + 40) 26 (iO r) (iO a) (iO x) _ = _
    rw [e_X12_act, hp_cc_26, if_pos rfl, e_misRow hV hS hr, if_neg (by omega)]
    simp (disch := (first | assumption | (unfold i32; omega) | (unfold i64; omega) | omega)) only [ki_0, ki_1, ki_2, ki_3, ki_4, ki_5, ki_6, ki_7, ki_8, ki_9, ki_10, ki_11, ki_12, ki_13, ki_14, ki_15, ki_20, ki_21, ki_30, ki_31, ki_40, ki_41, ki_50, ki_51, ki_60, ki_63, ki_64, ki_65, ki_100, ki_158, ki_160, ki_200, ki_212, ki_1000, ki_2000, ki_2001, ki_5000, ki_10000, ki_10001, ki_100000, ki_200000, ki_1000000, ki_2000000, ki_3000000, iO_neg, iO_add, iO_sub, iO_mul, kn_4, kn_8, kn_10, kn_20, kn_24, kn_40, kn_41, kn_50, kn_60, kn_158, kn_160, kn_200, kn_212, kn_2001, tn_lt, fn_lt, tn_le, fn_le, tn_eq, fn_eq, x_lt, x_le, x_eq, x_ix, x_nat, t_lt, f_lt, t_le, f_le, t_eq, f_eq, eq_self, and_self, true_and, and_true, false_and, and_false, if_true, if_false, Int.toNat_natCast, bI_s, bL_s, bA_s, bA_n, bV_s, mq_s, mq_n, en_le, bl_0, bl_1, u_eq, u_ne, w_eq, w_ne, v_eq, v_ne, hp_cc_26, hp_g_26_0, hp_p_26_0, hp_g_26_1, hp_p_26_1, hp_g_26_2, hp_p_26_2, hp_g_26_3, hp_g_26_4, hp_g_26_5, hp_g_26_6, hp_g_26_7, hp_g_26_8, hp_g_26_9, hp_g_26_10, hp_g_26_11, hp_g_26_12, hp_g_26_13, hp_g_26_14, hp_g_26_15, hp_p_26_15, hp_g_26_16, hp_g_26_17, hp_g_26_18, hp_p_26_18, hp_g_26_19, hp_p_26_19, hp_g_26_20, hp_g_26_21, hp_p_26_21, hp_g_26_22, hp_g_26_23, hp_g_26_24, hp_g_26_25, hp_g_26_26, hp_g_26_27, hp_g_26_28, hp_g_26_29, hp_g_26_30, hp_p_26_30, hp_g_26_31, hp_g_26_32, hp_p_26_32, hp_a_27, hp_s_27, hp_l_27, hp_a_28, hp_s_28, hp_l_28, hp_a_29, hp_s_29, hp_l_29, hp_a_30, hp_s_30, hp_l_30, hp_a_31, hp_s_31, hp_l_31, hp_a_32, hp_s_32, hp_l_32, hp_a_33, hp_s_33, hp_l_33, hp_a_34, hp_s_34, hp_l_34, hp_a_35, hp_s_35, hp_l_35, hp_a_36, hp_s_36, hp_l_36, hp_a_37, hp_s_37, hp_l_37, hp_a_38, hp_s_38, hp_l_38, hp_a_39, hp_s_39, hp_a_40, hp_s_40, hp_a_41, hp_s_41, hp_l_41, hp_a_42, hp_s_42, hp_l_42, hp_a_43, hp_s_43, hp_l_43, hp_a_44, hp_s_44, hp_l_44, hp_a_45, hp_s_45, hp_l_45, hp_a_46, hp_s_46, hp_l_46, hp_a_47, hp_s_47, hp_l_47, hp_a_48, hp_s_48, hp_l_48, hp_a_49, hp_s_49, hp_l_49, hp_a_50, hp_s_50, hp_l_50, m_refuse]
  | some q =>
    obtain ⟨k, rfl, hk, hq2⟩ := rowq_some hq
    obtain ⟨b1, b2, b3, b4, b5, b6, -⟩ := hS.2.2.2.1 q (List.mem_of_getElem? hq2)
    show MC S (if 0 ≤ a ∧ a ≤ 3 then ((a_run a q.1 (iO (if 1 < q.2.2.1 then q.2.2.2 1 else 0)) (iO (k : Int)) (iO x)).1.toInt, (S.1, S.2.1, S.2.2.1, 0, (a_run a q.1 (iO (if 1 < q.2.2.1 then q.2.2.2 1 else 0)) (iO (k : Int)) (iO x)).2)) else (-1, sst S 1) : Int × ST5).2 (if 0 ≤ a ∧ a ≤ 3 then ((a_run a q.1 (iO (if 1 < q.2.2.1 then q.2.2.2 1 else 0)) (iO (k : Int)) (iO x)).1.toInt, (S.1, S.2.1, S.2.2.1, 0, (a_run a q.1 (iO (if 1 < q.2.2.1 then q.2.2.2 1 else 0)) (iO (k : Int)) (iO x)).2)) else (-1, sst S 1) : Int × ST5).1 _
    generalize hP : iO (if 1 < q.2.2.1 then q.2.2.2 1 else 0) = P
    generalize hR : a_run a q.1 P (iO (k : Int)) (iO x) = R
    by_cases g : 0 ≤ a ∧ a ≤ 3
    · rw [if_pos g]
      obtain ⟨g1, g2⟩ := g
      intro XI XA XP XC MI MA ML D hV hPV
      obtain ⟨v1, v2, v3, v4, v5, v6, v7, v8⟩ := id hV
      obtain ⟨m1, m2, m3, m4⟩ := v6 k q hq2
      have hRI : RI k q.1 P MA := by
        refine ⟨by omega, b1, b2, m1, q.2.2.1, b5, m2, ?_⟩
        rw [← hP]
        by_cases e : 1 < q.2.2.1
        · rw [if_pos e, if_pos e, m4 1 e]
        · rw [if_neg e, if_neg e]
      have hTM : TM [] (va_up MI 3 (iO 0)) MA := ⟨rfl, fun i x h => by simp at h⟩
      have hlen := run_len a q.1 P (iO (k : Int)) (iO x)
      rw [hR] at hlen
      -- the act's own way
      have fin : ∀ F : en_H → Option en_R, AM k q.1 P F R.1 R.2 → (∀ z, z = hp XI XA XP XC (va_up MI 3 (iO 0)) MA ML D → f_X12_act sc (n + 40) 26 (iO (k : Int)) (iO a) (iO x) (hp XI XA XP XC MI MA ML D) = en_bI (F z) (fun x15 z13 => en_cc z13 26 (fun c17 => if 11 = c17 then en_bI (f_X12_fine sc (n + 39) 26 x15 z13) (fun x18 z16 => some (some (.int x18), z16)) else none))) → ∃ MI' MA' ML', f_X12_act sc (n + 40) 26 (iO (k : Int)) (iO a) (iO x) (hp XI XA XP XC MI MA ML D) = some (some (.int (iO R.1.toInt)), hp XI XA XP XC MI' MA' ML' D) ∧ MV (S.1, S.2.1, S.2.2.1, 0, R.2) MI' MA' ∧ PV MI' MA' := by
        intro F hAM hF
        obtain ⟨MI', MA', f1, f2, f3, f4, f5⟩ := hAM XI XA XP XC _ MA ML D [] hRI hTM (by rw [List.length_nil]; omega)
        refine ⟨va_up MI' 2 (iO 0), MA', ML, ?_, ?_, ?_⟩
        · rw [hF _ rfl, f1, bI_s, hp_cc_26, if_pos rfl, m_done, iO_as]
          rfl
        · obtain ⟨t1, t2⟩ := f3
          refine ⟨?_, ?_, rfl, t1, ?_, ?_, ?_, t2⟩
          · show va_up MI' 2 (iO 0) 0 = _
            rw [w_ne (by decide), f4 0 (by decide)]; exact v1
          · show va_up MI' 2 (iO 0) 1 = _
            rw [w_ne (by decide), f4 1 (by decide)]; exact v2
          · intro s q hq
            obtain ⟨q1, q2, q3, q4⟩ := v5 s q hq
            refine ⟨?_, ?_, ?_, ?_⟩ <;> rw [f5 _ (by decide)] <;> assumption
          · intro r q hq
            rw [f5 4 (by decide), f5 5 (by decide), f5 6 (by decide), f5 7 (by decide)]
            exact v6 r q hq
          · intro k hk
            rw [f5 8 (by decide), f5 9 (by decide), f5 10 (by decide)]
            exact v7 k hk
        · refine pv_of hPV ?_ (f5 21 (by decide))
          rw [w_ne (by decide), f4 8 (by decide)]
          rfl
      have base : f_X12_isRow sc (n + 39) 26 (iO (k : Int)) (hp XI XA XP XC MI MA ML D) = some (some (.int (iO 1)), hp XI XA XP XC MI MA ML D) := by
        have := e_misRow (sc := sc) (n := n + 37) (XI := XI) (XA := XA) (XP := XP) (XC := XC) (ML := ML) (D0 := D) hV hS hr
        rwa [if_pos (by omega)] at this
      unfold a_run at hR
      show ∃ MI' MA' ML', f_X12_act sc (n + 40) 26 (iO (k : Int)) (iO a) (iO x) (hp XI XA XP XC MI MA ML D) = _ ∧ _
      by_cases e0 : a = 0
      · subst e0
        rw [if_pos rfl] at hR
        refine fin (fun z => f_X12_go sc (n + 39) 26 (iO (k : Int)) (iO x) z) (by rw [← hR]; exact am_go (n := n + 35) _) (fun z hz => ?_)
        rw [e_X12_act, hz]
        clear fin hV v1 v2 v3 v4 v5 v6 v7 v8 hRI hTM m4 hlen
        simp (disch := (first | assumption | (unfold i32; omega) | (unfold i64; omega) | omega)) only [ki_0, ki_1, ki_2, ki_3, ki_4, ki_5, ki_6, ki_7, ki_8, ki_9, ki_10, ki_11, ki_12, ki_13, ki_14, ki_15, ki_20, ki_21, ki_30, ki_31, ki_40, ki_41, ki_50, ki_51, ki_60, ki_63, ki_64, ki_65, ki_100, ki_158, ki_160, ki_200, ki_212, ki_1000, ki_2000, ki_2001, ki_5000, ki_10000, ki_10001, ki_100000, ki_200000, ki_1000000, ki_2000000, ki_3000000, iO_neg, iO_add, iO_sub, iO_mul, kn_4, kn_8, kn_10, kn_20, kn_24, kn_40, kn_41, kn_50, kn_60, kn_158, kn_160, kn_200, kn_212, kn_2001, tn_lt, fn_lt, tn_le, fn_le, tn_eq, fn_eq, x_lt, x_le, x_eq, x_ix, x_nat, t_lt, f_lt, t_le, f_le, t_eq, f_eq, eq_self, and_self, true_and, and_true, false_and, and_false, if_true, if_false, Int.toNat_natCast, bI_s, bL_s, bA_s, bA_n, bV_s, mq_s, mq_n, en_le, bl_0, bl_1, u_eq, u_ne, w_eq, w_ne, v_eq, v_ne, hp_cc_26, hp_g_26_0, hp_p_26_0, hp_g_26_1, hp_p_26_1, hp_g_26_2, hp_p_26_2, hp_g_26_3, hp_g_26_4, hp_g_26_5, hp_g_26_6, hp_g_26_7, hp_g_26_8, hp_g_26_9, hp_g_26_10, hp_g_26_11, hp_g_26_12, hp_g_26_13, hp_g_26_14, hp_g_26_15, hp_p_26_15, hp_g_26_16, hp_g_26_17, hp_g_26_18, hp_p_26_18, hp_g_26_19, hp_p_26_19, hp_g_26_20, hp_g_26_21, hp_p_26_21, hp_g_26_22, hp_g_26_23, hp_g_26_24, hp_g_26_25, hp_g_26_26, hp_g_26_27, hp_g_26_28, hp_g_26_29, hp_g_26_30, hp_p_26_30, hp_g_26_31, hp_g_26_32, hp_p_26_32, hp_a_27, hp_s_27, hp_l_27, hp_a_28, hp_s_28, hp_l_28, hp_a_29, hp_s_29, hp_l_29, hp_a_30, hp_s_30, hp_l_30, hp_a_31, hp_s_31, hp_l_31, hp_a_32, hp_s_32, hp_l_32, hp_a_33, hp_s_33, hp_l_33, hp_a_34, hp_s_34, hp_l_34, hp_a_35, hp_s_35, hp_l_35, hp_a_36, hp_s_36, hp_l_36, hp_a_37, hp_s_37, hp_l_37, hp_a_38, hp_s_38, hp_l_38, hp_a_39, hp_s_39, hp_a_40, hp_s_40, hp_a_41, hp_s_41, hp_l_41, hp_a_42, hp_s_42, hp_l_42, hp_a_43, hp_s_43, hp_l_43, hp_a_44, hp_s_44, hp_l_44, hp_a_45, hp_s_45, hp_l_45, hp_a_46, hp_s_46, hp_l_46, hp_a_47, hp_s_47, hp_l_47, hp_a_48, hp_s_48, hp_l_48, hp_a_49, hp_s_49, hp_l_49, hp_a_50, hp_s_50, hp_l_50, base, e_X12_in]
      rw [if_neg e0] at hR
      by_cases e1 : a = 1
      · subst e1
        rw [if_pos rfl] at hR
        refine fin (fun z => f_X12_gapNow sc (n + 39) 26 (iO (k : Int)) (iO x) z) (by rw [← hR]; exact am_gap (n := n + 33) _) (fun z hz => ?_)
        rw [e_X12_act, hz]
        clear fin hV v1 v2 v3 v4 v5 v6 v7 v8 hRI hTM m4 hlen
        simp (disch := (first | assumption | (unfold i32; omega) | (unfold i64; omega) | omega)) only [ki_0, ki_1, ki_2, ki_3, ki_4, ki_5, ki_6, ki_7, ki_8, ki_9, ki_10, ki_11, ki_12, ki_13, ki_14, ki_15, ki_20, ki_21, ki_30, ki_31, ki_40, ki_41, ki_50, ki_51, ki_60, ki_63, ki_64, ki_65, ki_100, ki_158, ki_160, ki_200, ki_212, ki_1000, ki_2000, ki_2001, ki_5000, ki_10000, ki_10001, ki_100000, ki_200000, ki_1000000, ki_2000000, ki_3000000, iO_neg, iO_add, iO_sub, iO_mul, kn_4, kn_8, kn_10, kn_20, kn_24, kn_40, kn_41, kn_50, kn_60, kn_158, kn_160, kn_200, kn_212, kn_2001, tn_lt, fn_lt, tn_le, fn_le, tn_eq, fn_eq, x_lt, x_le, x_eq, x_ix, x_nat, t_lt, f_lt, t_le, f_le, t_eq, f_eq, eq_self, and_self, true_and, and_true, false_and, and_false, if_true, if_false, Int.toNat_natCast, bI_s, bL_s, bA_s, bA_n, bV_s, mq_s, mq_n, en_le, bl_0, bl_1, u_eq, u_ne, w_eq, w_ne, v_eq, v_ne, hp_cc_26, hp_g_26_0, hp_p_26_0, hp_g_26_1, hp_p_26_1, hp_g_26_2, hp_p_26_2, hp_g_26_3, hp_g_26_4, hp_g_26_5, hp_g_26_6, hp_g_26_7, hp_g_26_8, hp_g_26_9, hp_g_26_10, hp_g_26_11, hp_g_26_12, hp_g_26_13, hp_g_26_14, hp_g_26_15, hp_p_26_15, hp_g_26_16, hp_g_26_17, hp_g_26_18, hp_p_26_18, hp_g_26_19, hp_p_26_19, hp_g_26_20, hp_g_26_21, hp_p_26_21, hp_g_26_22, hp_g_26_23, hp_g_26_24, hp_g_26_25, hp_g_26_26, hp_g_26_27, hp_g_26_28, hp_g_26_29, hp_g_26_30, hp_p_26_30, hp_g_26_31, hp_g_26_32, hp_p_26_32, hp_a_27, hp_s_27, hp_l_27, hp_a_28, hp_s_28, hp_l_28, hp_a_29, hp_s_29, hp_l_29, hp_a_30, hp_s_30, hp_l_30, hp_a_31, hp_s_31, hp_l_31, hp_a_32, hp_s_32, hp_l_32, hp_a_33, hp_s_33, hp_l_33, hp_a_34, hp_s_34, hp_l_34, hp_a_35, hp_s_35, hp_l_35, hp_a_36, hp_s_36, hp_l_36, hp_a_37, hp_s_37, hp_l_37, hp_a_38, hp_s_38, hp_l_38, hp_a_39, hp_s_39, hp_a_40, hp_s_40, hp_a_41, hp_s_41, hp_l_41, hp_a_42, hp_s_42, hp_l_42, hp_a_43, hp_s_43, hp_l_43, hp_a_44, hp_s_44, hp_l_44, hp_a_45, hp_s_45, hp_l_45, hp_a_46, hp_s_46, hp_l_46, hp_a_47, hp_s_47, hp_l_47, hp_a_48, hp_s_48, hp_l_48, hp_a_49, hp_s_49, hp_l_49, hp_a_50, hp_s_50, hp_l_50, base, e_X12_in]
      rw [if_neg e1] at hR
      by_cases e2 : a = 2
      · subst e2
        rw [if_pos rfl] at hR
        refine fin (fun z => f_X12_grow sc (n + 39) 26 (iO (k : Int)) (iO x) z) (by rw [← hR]; exact am_grow (n := n + 35) _) (fun z hz => ?_)
        rw [e_X12_act, hz]
        clear fin hV v1 v2 v3 v4 v5 v6 v7 v8 hRI hTM m4 hlen
        simp (disch := (first | assumption | (unfold i32; omega) | (unfold i64; omega) | omega)) only [ki_0, ki_1, ki_2, ki_3, ki_4, ki_5, ki_6, ki_7, ki_8, ki_9, ki_10, ki_11, ki_12, ki_13, ki_14, ki_15, ki_20, ki_21, ki_30, ki_31, ki_40, ki_41, ki_50, ki_51, ki_60, ki_63, ki_64, ki_65, ki_100, ki_158, ki_160, ki_200, ki_212, ki_1000, ki_2000, ki_2001, ki_5000, ki_10000, ki_10001, ki_100000, ki_200000, ki_1000000, ki_2000000, ki_3000000, iO_neg, iO_add, iO_sub, iO_mul, kn_4, kn_8, kn_10, kn_20, kn_24, kn_40, kn_41, kn_50, kn_60, kn_158, kn_160, kn_200, kn_212, kn_2001, tn_lt, fn_lt, tn_le, fn_le, tn_eq, fn_eq, x_lt, x_le, x_eq, x_ix, x_nat, t_lt, f_lt, t_le, f_le, t_eq, f_eq, eq_self, and_self, true_and, and_true, false_and, and_false, if_true, if_false, Int.toNat_natCast, bI_s, bL_s, bA_s, bA_n, bV_s, mq_s, mq_n, en_le, bl_0, bl_1, u_eq, u_ne, w_eq, w_ne, v_eq, v_ne, hp_cc_26, hp_g_26_0, hp_p_26_0, hp_g_26_1, hp_p_26_1, hp_g_26_2, hp_p_26_2, hp_g_26_3, hp_g_26_4, hp_g_26_5, hp_g_26_6, hp_g_26_7, hp_g_26_8, hp_g_26_9, hp_g_26_10, hp_g_26_11, hp_g_26_12, hp_g_26_13, hp_g_26_14, hp_g_26_15, hp_p_26_15, hp_g_26_16, hp_g_26_17, hp_g_26_18, hp_p_26_18, hp_g_26_19, hp_p_26_19, hp_g_26_20, hp_g_26_21, hp_p_26_21, hp_g_26_22, hp_g_26_23, hp_g_26_24, hp_g_26_25, hp_g_26_26, hp_g_26_27, hp_g_26_28, hp_g_26_29, hp_g_26_30, hp_p_26_30, hp_g_26_31, hp_g_26_32, hp_p_26_32, hp_a_27, hp_s_27, hp_l_27, hp_a_28, hp_s_28, hp_l_28, hp_a_29, hp_s_29, hp_l_29, hp_a_30, hp_s_30, hp_l_30, hp_a_31, hp_s_31, hp_l_31, hp_a_32, hp_s_32, hp_l_32, hp_a_33, hp_s_33, hp_l_33, hp_a_34, hp_s_34, hp_l_34, hp_a_35, hp_s_35, hp_l_35, hp_a_36, hp_s_36, hp_l_36, hp_a_37, hp_s_37, hp_l_37, hp_a_38, hp_s_38, hp_l_38, hp_a_39, hp_s_39, hp_a_40, hp_s_40, hp_a_41, hp_s_41, hp_l_41, hp_a_42, hp_s_42, hp_l_42, hp_a_43, hp_s_43, hp_l_43, hp_a_44, hp_s_44, hp_l_44, hp_a_45, hp_s_45, hp_l_45, hp_a_46, hp_s_46, hp_l_46, hp_a_47, hp_s_47, hp_l_47, hp_a_48, hp_s_48, hp_l_48, hp_a_49, hp_s_49, hp_l_49, hp_a_50, hp_s_50, hp_l_50, base, e_X12_in]
      · rw [if_neg e2] at hR
        refine fin (fun z => f_X12_tell sc (n + 39) 26 (iO (k : Int)) (iO x) z) (by rw [← hR]; exact am_tell (n := n + 31) _) (fun z hz => ?_)
        rw [e_X12_act, hz]
        clear fin hV v1 v2 v3 v4 v5 v6 v7 v8 hRI hTM m4 hlen
        simp (disch := (first | assumption | (unfold i32; omega) | (unfold i64; omega) | omega)) only [ki_0, ki_1, ki_2, ki_3, ki_4, ki_5, ki_6, ki_7, ki_8, ki_9, ki_10, ki_11, ki_12, ki_13, ki_14, ki_15, ki_20, ki_21, ki_30, ki_31, ki_40, ki_41, ki_50, ki_51, ki_60, ki_63, ki_64, ki_65, ki_100, ki_158, ki_160, ki_200, ki_212, ki_1000, ki_2000, ki_2001, ki_5000, ki_10000, ki_10001, ki_100000, ki_200000, ki_1000000, ki_2000000, ki_3000000, iO_neg, iO_add, iO_sub, iO_mul, kn_4, kn_8, kn_10, kn_20, kn_24, kn_40, kn_41, kn_50, kn_60, kn_158, kn_160, kn_200, kn_212, kn_2001, tn_lt, fn_lt, tn_le, fn_le, tn_eq, fn_eq, x_lt, x_le, x_eq, x_ix, x_nat, t_lt, f_lt, t_le, f_le, t_eq, f_eq, eq_self, and_self, true_and, and_true, false_and, and_false, if_true, if_false, Int.toNat_natCast, bI_s, bL_s, bA_s, bA_n, bV_s, mq_s, mq_n, en_le, bl_0, bl_1, u_eq, u_ne, w_eq, w_ne, v_eq, v_ne, hp_cc_26, hp_g_26_0, hp_p_26_0, hp_g_26_1, hp_p_26_1, hp_g_26_2, hp_p_26_2, hp_g_26_3, hp_g_26_4, hp_g_26_5, hp_g_26_6, hp_g_26_7, hp_g_26_8, hp_g_26_9, hp_g_26_10, hp_g_26_11, hp_g_26_12, hp_g_26_13, hp_g_26_14, hp_g_26_15, hp_p_26_15, hp_g_26_16, hp_g_26_17, hp_g_26_18, hp_p_26_18, hp_g_26_19, hp_p_26_19, hp_g_26_20, hp_g_26_21, hp_p_26_21, hp_g_26_22, hp_g_26_23, hp_g_26_24, hp_g_26_25, hp_g_26_26, hp_g_26_27, hp_g_26_28, hp_g_26_29, hp_g_26_30, hp_p_26_30, hp_g_26_31, hp_g_26_32, hp_p_26_32, hp_a_27, hp_s_27, hp_l_27, hp_a_28, hp_s_28, hp_l_28, hp_a_29, hp_s_29, hp_l_29, hp_a_30, hp_s_30, hp_l_30, hp_a_31, hp_s_31, hp_l_31, hp_a_32, hp_s_32, hp_l_32, hp_a_33, hp_s_33, hp_l_33, hp_a_34, hp_s_34, hp_l_34, hp_a_35, hp_s_35, hp_l_35, hp_a_36, hp_s_36, hp_l_36, hp_a_37, hp_s_37, hp_l_37, hp_a_38, hp_s_38, hp_l_38, hp_a_39, hp_s_39, hp_a_40, hp_s_40, hp_a_41, hp_s_41, hp_l_41, hp_a_42, hp_s_42, hp_l_42, hp_a_43, hp_s_43, hp_l_43, hp_a_44, hp_s_44, hp_l_44, hp_a_45, hp_s_45, hp_l_45, hp_a_46, hp_s_46, hp_l_46, hp_a_47, hp_s_47, hp_l_47, hp_a_48, hp_s_48, hp_l_48, hp_a_49, hp_s_49, hp_l_49, hp_a_50, hp_s_50, hp_l_50, base, e_X12_in]
    · rw [if_neg g]
      apply mc_ref
      intro XI XA XP XC MI MA ML D hV
      have base : f_X12_isRow sc (n + 39) 26 (iO (k : Int)) (hp XI XA XP XC MI MA ML D) = some (some (.int (iO 1)), hp XI XA XP XC MI MA ML D) := by
        have := e_misRow (sc := sc) (n := n + 37) (XI := XI) (XA := XA) (XP := XP) (XC := XC) (ML := ML) (D0 := D) hV hS hr
        rwa [if_pos (by omega)] at this
      show f_X12_act sc (n + 40) 26 (iO (k : Int)) (iO a) (iO x) _ = _
      rw [e_X12_act]
      rcases Int.lt_or_le a 0 with t | t
      · clear g; simp (disch := (first | assumption | (unfold i32; omega) | (unfold i64; omega) | omega)) only [ki_0, ki_1, ki_2, ki_3, ki_4, ki_5, ki_6, ki_7, ki_8, ki_9, ki_10, ki_11, ki_12, ki_13, ki_14, ki_15, ki_20, ki_21, ki_30, ki_31, ki_40, ki_41, ki_50, ki_51, ki_60, ki_63, ki_64, ki_65, ki_100, ki_158, ki_160, ki_200, ki_212, ki_1000, ki_2000, ki_2001, ki_5000, ki_10000, ki_10001, ki_100000, ki_200000, ki_1000000, ki_2000000, ki_3000000, iO_neg, iO_add, iO_sub, iO_mul, kn_4, kn_8, kn_10, kn_20, kn_24, kn_40, kn_41, kn_50, kn_60, kn_158, kn_160, kn_200, kn_212, kn_2001, tn_lt, fn_lt, tn_le, fn_le, tn_eq, fn_eq, x_lt, x_le, x_eq, x_ix, x_nat, t_lt, f_lt, t_le, f_le, t_eq, f_eq, eq_self, and_self, true_and, and_true, false_and, and_false, if_true, if_false, Int.toNat_natCast, bI_s, bL_s, bA_s, bA_n, bV_s, mq_s, mq_n, en_le, bl_0, bl_1, u_eq, u_ne, w_eq, w_ne, v_eq, v_ne, hp_cc_26, hp_g_26_0, hp_p_26_0, hp_g_26_1, hp_p_26_1, hp_g_26_2, hp_p_26_2, hp_g_26_3, hp_g_26_4, hp_g_26_5, hp_g_26_6, hp_g_26_7, hp_g_26_8, hp_g_26_9, hp_g_26_10, hp_g_26_11, hp_g_26_12, hp_g_26_13, hp_g_26_14, hp_g_26_15, hp_p_26_15, hp_g_26_16, hp_g_26_17, hp_g_26_18, hp_p_26_18, hp_g_26_19, hp_p_26_19, hp_g_26_20, hp_g_26_21, hp_p_26_21, hp_g_26_22, hp_g_26_23, hp_g_26_24, hp_g_26_25, hp_g_26_26, hp_g_26_27, hp_g_26_28, hp_g_26_29, hp_g_26_30, hp_p_26_30, hp_g_26_31, hp_g_26_32, hp_p_26_32, hp_a_27, hp_s_27, hp_l_27, hp_a_28, hp_s_28, hp_l_28, hp_a_29, hp_s_29, hp_l_29, hp_a_30, hp_s_30, hp_l_30, hp_a_31, hp_s_31, hp_l_31, hp_a_32, hp_s_32, hp_l_32, hp_a_33, hp_s_33, hp_l_33, hp_a_34, hp_s_34, hp_l_34, hp_a_35, hp_s_35, hp_l_35, hp_a_36, hp_s_36, hp_l_36, hp_a_37, hp_s_37, hp_l_37, hp_a_38, hp_s_38, hp_l_38, hp_a_39, hp_s_39, hp_a_40, hp_s_40, hp_a_41, hp_s_41, hp_l_41, hp_a_42, hp_s_42, hp_l_42, hp_a_43, hp_s_43, hp_l_43, hp_a_44, hp_s_44, hp_l_44, hp_a_45, hp_s_45, hp_l_45, hp_a_46, hp_s_46, hp_l_46, hp_a_47, hp_s_47, hp_l_47, hp_a_48, hp_s_48, hp_l_48, hp_a_49, hp_s_49, hp_l_49, hp_a_50, hp_s_50, hp_l_50, base, e_X12_in, m_refuse]
      · have t2 : 3 < a := by omega
        clear g; simp (disch := (first | assumption | (unfold i32; omega) | (unfold i64; omega) | omega)) only [ki_0, ki_1, ki_2, ki_3, ki_4, ki_5, ki_6, ki_7, ki_8, ki_9, ki_10, ki_11, ki_12, ki_13, ki_14, ki_15, ki_20, ki_21, ki_30, ki_31, ki_40, ki_41, ki_50, ki_51, ki_60, ki_63, ki_64, ki_65, ki_100, ki_158, ki_160, ki_200, ki_212, ki_1000, ki_2000, ki_2001, ki_5000, ki_10000, ki_10001, ki_100000, ki_200000, ki_1000000, ki_2000000, ki_3000000, iO_neg, iO_add, iO_sub, iO_mul, kn_4, kn_8, kn_10, kn_20, kn_24, kn_40, kn_41, kn_50, kn_60, kn_158, kn_160, kn_200, kn_212, kn_2001, tn_lt, fn_lt, tn_le, fn_le, tn_eq, fn_eq, x_lt, x_le, x_eq, x_ix, x_nat, t_lt, f_lt, t_le, f_le, t_eq, f_eq, eq_self, and_self, true_and, and_true, false_and, and_false, if_true, if_false, Int.toNat_natCast, bI_s, bL_s, bA_s, bA_n, bV_s, mq_s, mq_n, en_le, bl_0, bl_1, u_eq, u_ne, w_eq, w_ne, v_eq, v_ne, hp_cc_26, hp_g_26_0, hp_p_26_0, hp_g_26_1, hp_p_26_1, hp_g_26_2, hp_p_26_2, hp_g_26_3, hp_g_26_4, hp_g_26_5, hp_g_26_6, hp_g_26_7, hp_g_26_8, hp_g_26_9, hp_g_26_10, hp_g_26_11, hp_g_26_12, hp_g_26_13, hp_g_26_14, hp_g_26_15, hp_p_26_15, hp_g_26_16, hp_g_26_17, hp_g_26_18, hp_p_26_18, hp_g_26_19, hp_p_26_19, hp_g_26_20, hp_g_26_21, hp_p_26_21, hp_g_26_22, hp_g_26_23, hp_g_26_24, hp_g_26_25, hp_g_26_26, hp_g_26_27, hp_g_26_28, hp_g_26_29, hp_g_26_30, hp_p_26_30, hp_g_26_31, hp_g_26_32, hp_p_26_32, hp_a_27, hp_s_27, hp_l_27, hp_a_28, hp_s_28, hp_l_28, hp_a_29, hp_s_29, hp_l_29, hp_a_30, hp_s_30, hp_l_30, hp_a_31, hp_s_31, hp_l_31, hp_a_32, hp_s_32, hp_l_32, hp_a_33, hp_s_33, hp_l_33, hp_a_34, hp_s_34, hp_l_34, hp_a_35, hp_s_35, hp_l_35, hp_a_36, hp_s_36, hp_l_36, hp_a_37, hp_s_37, hp_l_37, hp_a_38, hp_s_38, hp_l_38, hp_a_39, hp_s_39, hp_a_40, hp_s_40, hp_a_41, hp_s_41, hp_l_41, hp_a_42, hp_s_42, hp_l_42, hp_a_43, hp_s_43, hp_l_43, hp_a_44, hp_s_44, hp_l_44, hp_a_45, hp_s_45, hp_l_45, hp_a_46, hp_s_46, hp_l_46, hp_a_47, hp_s_47, hp_l_47, hp_a_48, hp_s_48, hp_l_48, hp_a_49, hp_s_49, hp_l_49, hp_a_50, hp_s_50, hp_l_50, base, e_X12_in, m_refuse]
/-- a row's cell, of its object -/
theorem rx_of {Γ : Nat → Option GD} {D : en_H} {p : Nat} {g : GD} (h : RC Γ D p g) : RX D p g.1 (iO (g.2.1 : Nat)) (iO g.2.2.1) := by
  refine ⟨(rc_cls h).1, ?_⟩
  rcases h with ⟨b1, arr, b2, -⟩ | ⟨b1, sp, u, v, b2, -⟩ | ⟨b1, q, gq, kn, tk, en, arr, z, zs, o, os, -, -, b2, -⟩
  · exact ⟨_, by rw [b1]; exact b2, rfl, rfl⟩
  · have e : kcl g.1 = evc g.1 := by
      unfold kcl
      rw [if_neg (by omega), if_neg (by omega)]
    rw [e]
    exact ⟨_, b2, rfl, rfl⟩
  · exact ⟨_, by rw [b1]; exact b2, rfl, rfl⟩
theorem cs_act (hS : OK5 S) {r a x : Int} (hr : i32 r) (ha : i32 a) : CS S (p_act S r a x).2 (p_act S r a x).1 (fun z => f_X11_act sc (n + 40) 1 (iO r) (iO a) (iO x) z) := by
  obtain ⟨a1, a2⟩ := id ha
  have h10 := hS.2.1
  unfold p_act
  cases hq : rowq S r with
  | none =>
    apply cs_ref
    intro XI XA XP XC MI MA ML D Γ hV
    show f_X11_act sc (n + 40) 1 (iO r) (iO a) (iO x) _ = _
    rw [e_X11_act]
    simp (disch := (first | assumption | (unfold i32; omega) | (unfold i64; omega) | omega)) only [ki_0, ki_1, ki_2, ki_3, ki_4, ki_5, ki_6, ki_7, ki_8, ki_9, ki_10, ki_11, ki_12, ki_13, ki_14, ki_15, ki_20, ki_21, ki_30, ki_31, ki_40, ki_41, ki_50, ki_51, ki_60, ki_63, ki_64, ki_65, ki_100, ki_158, ki_160, ki_200, ki_212, ki_1000, ki_2000, ki_2001, ki_5000, ki_10000, ki_10001, ki_100000, ki_200000, ki_1000000, ki_2000000, ki_3000000, iO_neg, iO_add, iO_sub, iO_mul, kn_4, kn_8, kn_10, kn_20, kn_24, kn_40, kn_41, kn_50, kn_60, kn_158, kn_160, kn_200, kn_212, kn_2001, tn_lt, fn_lt, tn_le, fn_le, tn_eq, fn_eq, x_lt, x_le, x_eq, x_ix, x_nat, t_lt, f_lt, t_le, f_le, t_eq, f_eq, eq_self, and_self, true_and, and_true, false_and, and_false, if_true, if_false, Int.toNat_natCast, bI_s, bL_s, bA_s, bA_n, bV_s, mq_s, mq_n, en_le, bl_0, bl_1, u_eq, u_ne, w_eq, w_ne, v_eq, v_ne, hp_cc_1, hp_g_1_0, hp_g_1_1, hp_g_1_2, hp_g_1_3, hp_g_1_4, hp_g_1_5, hp_g_1_6, hp_g_1_7, hp_g_1_8, hp_p_1_8, hp_g_1_9, hp_p_1_9, hp_g_1_10, hp_p_1_10, hp_a_2, hp_n_2, hp_a_3, hp_n_3, hp_a_4, x_rowAt0 hV hS hr hq, x_refuse]
  | some q =>
    obtain ⟨k, rfl, hk, hq2⟩ := rowq_some hq
    show CS S (if 0 ≤ a ∧ a ≤ 3 then ((a_run a q.1 (iO (if 1 < q.2.2.1 then q.2.2.2 1 else 0)) (iO (k : Int)) (iO x)).1.toInt, (S.1, S.2.1, S.2.2.1, 0, (a_run a q.1 (iO (if 1 < q.2.2.1 then q.2.2.2 1 else 0)) (iO (k : Int)) (iO x)).2)) else (-1, sst S 1) : Int × ST5).2 (if 0 ≤ a ∧ a ≤ 3 then ((a_run a q.1 (iO (if 1 < q.2.2.1 then q.2.2.2 1 else 0)) (iO (k : Int)) (iO x)).1.toInt, (S.1, S.2.1, S.2.2.1, 0, (a_run a q.1 (iO (if 1 < q.2.2.1 then q.2.2.2 1 else 0)) (iO (k : Int)) (iO x)).2)) else (-1, sst S 1) : Int × ST5).1 _
    generalize hP : iO (if 1 < q.2.2.1 then q.2.2.2 1 else 0) = P
    generalize hR : a_run a q.1 P (iO (k : Int)) (iO x) = R
    by_cases g : 0 ≤ a ∧ a ≤ 3
    · rw [if_pos g]
      obtain ⟨g1, g2⟩ := g
      intro XI XA XP XC MI MA ML D Γ hV
      obtain ⟨v1, v2, v3, v4, v5, v6, v7, v8, v9⟩ := id hV
      obtain ⟨pp, gd, c1, c2, c3, c4, c5, c6, c7, c8, c9⟩ := v6 k q hq2
      have hRX := rx_of (v9 pp gd c2).2.2.2
      rw [c3, c4, c5, hP] at hRX
      have hTX : TX [] (va_up XI 3 (iO 0)) XA := ⟨rfl, fun i x h => by simp at h⟩
      have hlen := run_len a q.1 P (iO (k : Int)) (iO x)
      rw [hR] at hlen
      have fin : ∀ F : en_H → Option en_R, AC D F R.1 R.2 → (∀ z, z = hp (va_up XI 3 (iO 0)) XA XP XC MI MA ML D → f_X11_act sc (n + 40) 1 (iO (k : Int)) (iO a) (iO x) (hp XI XA XP XC MI MA ML D) = en_bI (F z) (fun x15 z13 => en_cc z13 1 (fun c17 => if 10 = c17 then en_bI (f_X11_done sc (n + 39) 1 x15 z13) (fun x18 z16 => some (some (.int x18), z16)) else none))) → ∃ XI' XA' XP' XC' D' Γ', f_X11_act sc (n + 40) 1 (iO (k : Int)) (iO a) (iO x) (hp XI XA XP XC MI MA ML D) = some (some (.int (iO R.1.toInt)), hp XI' XA' XP' XC' MI MA ML D') ∧ CV (S.1, S.2.1, S.2.2.1, 0, R.2) Γ' XI' XA' XP' D' ∧ GR D D' := by
        intro F hAC hF
        obtain ⟨XI', XA', f1, f3, f4, f5⟩ := hAC _ XA XP XC MI MA ML [] hTX (by rw [List.length_nil]; omega)
        obtain ⟨t1, t2⟩ := f3
        have hx : ∀ m, m ≠ 2 → m ≠ 3 → va_up XI' 2 (iO 0) m = XI m := fun m h2 h3 => by rw [w_ne h2, f4 m h3, w_ne h3]
        refine ⟨va_up XI' 2 (iO 0), XA', XP, XC, D, Γ, ?_, ⟨(hx 0 (by decide) (by decide)).trans v1, (hx 1 (by decide) (by decide)).trans v2, rfl, t1, v5, v6, ?_, t2, v9⟩, GR.rfl'⟩
        · rw [hF _ rfl, f1, bI_s, hp_cc_1, if_pos rfl, x_done, iO_as]
          rfl
        · intro j hj
          obtain ⟨q1, q2, q3⟩ := v7 j hj
          rw [hx _ (by omega) (by omega), hx _ (by omega) (by omega), f5 _ (by omega)]
          exact ⟨q1, q2, q3⟩
      have base := x_rowAt1 (sc := sc) (n := n + 38) (XC := XC) (MI := MI) (MA := MA) (ML := ML) hV hS hq2 c1
      unfold a_run at hR
      show ∃ XI' XA' XP' XC' D' Γ', f_X11_act sc (n + 40) 1 (iO (k : Int)) (iO a) (iO x) (hp XI XA XP XC MI MA ML D) = _ ∧ _
      by_cases e0 : a = 0
      · subst e0
        rw [if_pos rfl] at hR
        refine fin _ (by rw [← hR]; exact ac_go (sc := sc) (n := n + 36) hRX (iO x)) (fun z hz => ?_)
        rw [e_X11_act, hz, ← vt_bI]
        clear fin hV v1 v2 v3 v4 v5 v6 v7 v8 v9 hRX hTX hlen
        simp (disch := (first | assumption | (unfold i32; omega) | (unfold i64; omega) | omega)) only [ki_0, ki_1, ki_2, ki_3, ki_4, ki_5, ki_6, ki_7, ki_8, ki_9, ki_10, ki_11, ki_12, ki_13, ki_14, ki_15, ki_20, ki_21, ki_30, ki_31, ki_40, ki_41, ki_50, ki_51, ki_60, ki_63, ki_64, ki_65, ki_100, ki_158, ki_160, ki_200, ki_212, ki_1000, ki_2000, ki_2001, ki_5000, ki_10000, ki_10001, ki_100000, ki_200000, ki_1000000, ki_2000000, ki_3000000, iO_neg, iO_add, iO_sub, iO_mul, kn_4, kn_8, kn_10, kn_20, kn_24, kn_40, kn_41, kn_50, kn_60, kn_158, kn_160, kn_200, kn_212, kn_2001, tn_lt, fn_lt, tn_le, fn_le, tn_eq, fn_eq, x_lt, x_le, x_eq, x_ix, x_nat, t_lt, f_lt, t_le, f_le, t_eq, f_eq, eq_self, and_self, true_and, and_true, false_and, and_false, if_true, if_false, Int.toNat_natCast, bI_s, bL_s, bA_s, bA_n, bV_s, mq_s, mq_n, en_le, bl_0, bl_1, u_eq, u_ne, w_eq, w_ne, v_eq, v_ne, hp_cc_1, hp_g_1_0, hp_g_1_1, hp_g_1_2, hp_g_1_3, hp_g_1_4, hp_g_1_5, hp_g_1_6, hp_g_1_7, hp_g_1_8, hp_p_1_8, hp_g_1_9, hp_p_1_9, hp_g_1_10, hp_p_1_10, hp_a_2, hp_n_2, hp_a_3, hp_n_3, hp_a_4, hp_cc_5, hp_g_5_0, hp_g_5_1, hp_p_5_1, hp_a_6, hp_s_6, hp_l_6, base]
      rw [if_neg e0] at hR
      by_cases e1 : a = 1
      · subst e1
        rw [if_pos rfl] at hR
        refine fin _ (by rw [← hR]; exact ac_gap (sc := sc) (n := n + 34) hRX (iO x)) (fun z hz => ?_)
        rw [e_X11_act, hz, ← vt_bI]
        clear fin hV v1 v2 v3 v4 v5 v6 v7 v8 v9 hRX hTX hlen
        simp (disch := (first | assumption | (unfold i32; omega) | (unfold i64; omega) | omega)) only [ki_0, ki_1, ki_2, ki_3, ki_4, ki_5, ki_6, ki_7, ki_8, ki_9, ki_10, ki_11, ki_12, ki_13, ki_14, ki_15, ki_20, ki_21, ki_30, ki_31, ki_40, ki_41, ki_50, ki_51, ki_60, ki_63, ki_64, ki_65, ki_100, ki_158, ki_160, ki_200, ki_212, ki_1000, ki_2000, ki_2001, ki_5000, ki_10000, ki_10001, ki_100000, ki_200000, ki_1000000, ki_2000000, ki_3000000, iO_neg, iO_add, iO_sub, iO_mul, kn_4, kn_8, kn_10, kn_20, kn_24, kn_40, kn_41, kn_50, kn_60, kn_158, kn_160, kn_200, kn_212, kn_2001, tn_lt, fn_lt, tn_le, fn_le, tn_eq, fn_eq, x_lt, x_le, x_eq, x_ix, x_nat, t_lt, f_lt, t_le, f_le, t_eq, f_eq, eq_self, and_self, true_and, and_true, false_and, and_false, if_true, if_false, Int.toNat_natCast, bI_s, bL_s, bA_s, bA_n, bV_s, mq_s, mq_n, en_le, bl_0, bl_1, u_eq, u_ne, w_eq, w_ne, v_eq, v_ne, hp_cc_1, hp_g_1_0, hp_g_1_1, hp_g_1_2, hp_g_1_3, hp_g_1_4, hp_g_1_5, hp_g_1_6, hp_g_1_7, hp_g_1_8, hp_p_1_8, hp_g_1_9, hp_p_1_9, hp_g_1_10, hp_p_1_10, hp_a_2, hp_n_2, hp_a_3, hp_n_3, hp_a_4, hp_cc_5, hp_g_5_0, hp_g_5_1, hp_p_5_1, hp_a_6, hp_s_6, hp_l_6, base]
      rw [if_neg e1] at hR
      by_cases e2 : a = 2
      · subst e2
        rw [if_pos rfl] at hR
        refine fin _ (by rw [← hR]; exact ac_grow (sc := sc) (n := n + 35) hRX (iO x)) (fun z hz => ?_)
        rw [e_X11_act, hz, ← vt_bI]
        clear fin hV v1 v2 v3 v4 v5 v6 v7 v8 v9 hRX hTX hlen
        simp (disch := (first | assumption | (unfold i32; omega) | (unfold i64; omega) | omega)) only [ki_0, ki_1, ki_2, ki_3, ki_4, ki_5, ki_6, ki_7, ki_8, ki_9, ki_10, ki_11, ki_12, ki_13, ki_14, ki_15, ki_20, ki_21, ki_30, ki_31, ki_40, ki_41, ki_50, ki_51, ki_60, ki_63, ki_64, ki_65, ki_100, ki_158, ki_160, ki_200, ki_212, ki_1000, ki_2000, ki_2001, ki_5000, ki_10000, ki_10001, ki_100000, ki_200000, ki_1000000, ki_2000000, ki_3000000, iO_neg, iO_add, iO_sub, iO_mul, kn_4, kn_8, kn_10, kn_20, kn_24, kn_40, kn_41, kn_50, kn_60, kn_158, kn_160, kn_200, kn_212, kn_2001, tn_lt, fn_lt, tn_le, fn_le, tn_eq, fn_eq, x_lt, x_le, x_eq, x_ix, x_nat, t_lt, f_lt, t_le, f_le, t_eq, f_eq, eq_self, and_self, true_and, and_true, false_and, and_false, if_true, if_false, Int.toNat_natCast, bI_s, bL_s, bA_s, bA_n, bV_s, mq_s, mq_n, en_le, bl_0, bl_1, u_eq, u_ne, w_eq, w_ne, v_eq, v_ne, hp_cc_1, hp_g_1_0, hp_g_1_1, hp_g_1_2, hp_g_1_3, hp_g_1_4, hp_g_1_5, hp_g_1_6, hp_g_1_7, hp_g_1_8, hp_p_1_8, hp_g_1_9, hp_p_1_9, hp_g_1_10, hp_p_1_10, hp_a_2, hp_n_2, hp_a_3, hp_n_3, hp_a_4, hp_cc_5, hp_g_5_0, hp_g_5_1, hp_p_5_1, hp_a_6, hp_s_6, hp_l_6, base]
      · rw [if_neg e2] at hR
        refine fin _ (by rw [← hR]; exact ac_tell (sc := sc) (n := n + 32) hRX (iO x)) (fun z hz => ?_)
        rw [e_X11_act, hz, ← vt_bI]
        clear fin hV v1 v2 v3 v4 v5 v6 v7 v8 v9 hRX hTX hlen
        simp (disch := (first | assumption | (unfold i32; omega) | (unfold i64; omega) | omega)) only [ki_0, ki_1, ki_2, ki_3, ki_4, ki_5, ki_6, ki_7, ki_8, ki_9, ki_10, ki_11, ki_12, ki_13, ki_14, ki_15, ki_20, ki_21, ki_30, ki_31, ki_40, ki_41, ki_50, ki_51, ki_60, ki_63, ki_64, ki_65, ki_100, ki_158, ki_160, ki_200, ki_212, ki_1000, ki_2000, ki_2001, ki_5000, ki_10000, ki_10001, ki_100000, ki_200000, ki_1000000, ki_2000000, ki_3000000, iO_neg, iO_add, iO_sub, iO_mul, kn_4, kn_8, kn_10, kn_20, kn_24, kn_40, kn_41, kn_50, kn_60, kn_158, kn_160, kn_200, kn_212, kn_2001, tn_lt, fn_lt, tn_le, fn_le, tn_eq, fn_eq, x_lt, x_le, x_eq, x_ix, x_nat, t_lt, f_lt, t_le, f_le, t_eq, f_eq, eq_self, and_self, true_and, and_true, false_and, and_false, if_true, if_false, Int.toNat_natCast, bI_s, bL_s, bA_s, bA_n, bV_s, mq_s, mq_n, en_le, bl_0, bl_1, u_eq, u_ne, w_eq, w_ne, v_eq, v_ne, hp_cc_1, hp_g_1_0, hp_g_1_1, hp_g_1_2, hp_g_1_3, hp_g_1_4, hp_g_1_5, hp_g_1_6, hp_g_1_7, hp_g_1_8, hp_p_1_8, hp_g_1_9, hp_p_1_9, hp_g_1_10, hp_p_1_10, hp_a_2, hp_n_2, hp_a_3, hp_n_3, hp_a_4, hp_cc_5, hp_g_5_0, hp_g_5_1, hp_p_5_1, hp_a_6, hp_s_6, hp_l_6, base]
    · rw [if_neg g]
      apply cs_ref
      intro XI XA XP XC MI MA ML D Γ hV
      obtain ⟨pp, gd, c1, -⟩ := hV.2.2.2.2.2.1 k q hq2
      have base := x_rowAt1 (sc := sc) (n := n + 38) (XC := XC) (MI := MI) (MA := MA) (ML := ML) hV hS hq2 c1
      show f_X11_act sc (n + 40) 1 (iO (k : Int)) (iO a) (iO x) _ = _
      rw [e_X11_act]
      rcases Int.lt_or_le a 0 with t | t
      · clear g; simp (disch := (first | assumption | (unfold i32; omega) | (unfold i64; omega) | omega)) only [ki_0, ki_1, ki_2, ki_3, ki_4, ki_5, ki_6, ki_7, ki_8, ki_9, ki_10, ki_11, ki_12, ki_13, ki_14, ki_15, ki_20, ki_21, ki_30, ki_31, ki_40, ki_41, ki_50, ki_51, ki_60, ki_63, ki_64, ki_65, ki_100, ki_158, ki_160, ki_200, ki_212, ki_1000, ki_2000, ki_2001, ki_5000, ki_10000, ki_10001, ki_100000, ki_200000, ki_1000000, ki_2000000, ki_3000000, iO_neg, iO_add, iO_sub, iO_mul, kn_4, kn_8, kn_10, kn_20, kn_24, kn_40, kn_41, kn_50, kn_60, kn_158, kn_160, kn_200, kn_212, kn_2001, tn_lt, fn_lt, tn_le, fn_le, tn_eq, fn_eq, x_lt, x_le, x_eq, x_ix, x_nat, t_lt, f_lt, t_le, f_le, t_eq, f_eq, eq_self, and_self, true_and, and_true, false_and, and_false, if_true, if_false, Int.toNat_natCast, bI_s, bL_s, bA_s, bA_n, bV_s, mq_s, mq_n, en_le, bl_0, bl_1, u_eq, u_ne, w_eq, w_ne, v_eq, v_ne, hp_cc_1, hp_g_1_0, hp_g_1_1, hp_g_1_2, hp_g_1_3, hp_g_1_4, hp_g_1_5, hp_g_1_6, hp_g_1_7, hp_g_1_8, hp_p_1_8, hp_g_1_9, hp_p_1_9, hp_g_1_10, hp_p_1_10, hp_a_2, hp_n_2, hp_a_3, hp_n_3, hp_a_4, base, x_refuse]
      · have t2 : 3 < a := by omega
        clear g; simp (disch := (first | assumption | (unfold i32; omega) | (unfold i64; omega) | omega)) only [ki_0, ki_1, ki_2, ki_3, ki_4, ki_5, ki_6, ki_7, ki_8, ki_9, ki_10, ki_11, ki_12, ki_13, ki_14, ki_15, ki_20, ki_21, ki_30, ki_31, ki_40, ki_41, ki_50, ki_51, ki_60, ki_63, ki_64, ki_65, ki_100, ki_158, ki_160, ki_200, ki_212, ki_1000, ki_2000, ki_2001, ki_5000, ki_10000, ki_10001, ki_100000, ki_200000, ki_1000000, ki_2000000, ki_3000000, iO_neg, iO_add, iO_sub, iO_mul, kn_4, kn_8, kn_10, kn_20, kn_24, kn_40, kn_41, kn_50, kn_60, kn_158, kn_160, kn_200, kn_212, kn_2001, tn_lt, fn_lt, tn_le, fn_le, tn_eq, fn_eq, x_lt, x_le, x_eq, x_ix, x_nat, t_lt, f_lt, t_le, f_le, t_eq, f_eq, eq_self, and_self, true_and, and_true, false_and, and_false, if_true, if_false, Int.toNat_natCast, bI_s, bL_s, bA_s, bA_n, bV_s, mq_s, mq_n, en_le, bl_0, bl_1, u_eq, u_ne, w_eq, w_ne, v_eq, v_ne, hp_cc_1, hp_g_1_0, hp_g_1_1, hp_g_1_2, hp_g_1_3, hp_g_1_4, hp_g_1_5, hp_g_1_6, hp_g_1_7, hp_g_1_8, hp_p_1_8, hp_g_1_9, hp_p_1_9, hp_g_1_10, hp_p_1_10, hp_a_2, hp_n_2, hp_a_3, hp_n_3, hp_a_4, base, x_refuse]
end ACT
