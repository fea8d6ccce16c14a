-- FILE 99d
/-! gaps, gap, follows: both sides -/
noncomputable def ptq (S : ST5) (r n : Int) : Option SL4 := match rowq S r with
  | none => none
  | some q => if q.1 = 4 ∧ 1 ≤ n ∧ n ≤ 60 then (match S.1[q.2.1.toNat]? with
    | none => none
    | some l => if l.2.1 ≠ 0 ∨ n ≤ l.2.2.1 / (Int.gcd l.1 l.2.2.1 : Nat) then some l else none) else none
noncomputable def p_gaps (S : ST5) (r n : Int) : Int := match ptq S r n with
  | none => -1
  | some l => ((gsts l n.toNat).1 : Int)
noncomputable def p_gap (S : ST5) (r n i w : Int) : Int := match ptq S r n with
  | none => -1000000
  | some l => if 0 ≤ w ∧ w ≤ 2 ∧ 0 ≤ i ∧ i < ((gsts l n.toNat).1 : Int) then (if w = 0 then (gsts l n.toNat).2.1 i.toNat else if w = 1 then (gsts l n.toNat).2.2.1 i.toNat else (gsts l n.toNat).2.2.2 i.toNat) else -1000000
noncomputable def p_follows (S : ST5) (r n i : Int) : Int := match ptq S r n with
  | none => -1
  | some l => if 0 ≤ i ∧ i < n then (nxt (ords l n.toNat) n.toNat i.toNat : Int) else -1
theorem ptq_some {S : ST5} {r n : Int} {l : SL4} (h : ptq S r n = some l) : ∃ q, rowq S r = some q ∧ q.1 = 4 ∧ 1 ≤ n ∧ n ≤ 60 ∧ S.1[q.2.1.toNat]? = some l ∧ (l.2.1 ≠ 0 ∨ n ≤ l.2.2.1 / (Int.gcd l.1 l.2.2.1 : Nat)) := by
  unfold ptq at h
  cases hq : rowq S r with
  | none => rw [hq] at h; cases h
  | some q =>
    rw [hq] at h
    dsimp only at h
    split at h
    · rename_i g
      cases hl : S.1[q.2.1.toNat]? with
      | none => rw [hl] at h; cases h
      | some l' =>
        rw [hl] at h
        dsimp only at h
        split at h
        · rename_i g2
          cases h
          exact ⟨q, rfl, g.1, g.2.1, g.2.2, hl, g2⟩
        · cases h
    · cases h
section PTS
variable {sc : en_S} {n : Nat} {S : ST5}
theorem m_arePoints {XI : Nat → Int32} {XA : Nat → Nat → Int32} {XP : Nat → Nat → Option Nat} {XC : Value} {MI : Nat → Int32} {MA : Nat → Nat → Int32} {ML : Nat → Nat → Int64} {D : en_H} (hV : MV S MI MA) (hS : OK5 S) {r m : Int} (hr : i32 r) (hm : i32 m) : f_X12_arePoints sc (n + 4) 26 (iO r) (iO m) (hp XI XA XP XC MI MA ML D) = some (some (.int (iO (if (ptq S r m).isSome = true then 1 else 0))), hp XI XA XP XC MI MA ML D) := by
  obtain ⟨m1, m2⟩ := id hm
  have h10 := hS.2.1
  have h8 := hS.1
  cases hq : rowq S r with
  | none =>
    have := rowq_none hq
    have hpt : ptq S r m = none := by unfold ptq; rw [hq]
    rw [hpt, Option.isSome_none, if_neg Bool.false_ne_true, e_X12_arePoints, hp_cc_26, if_pos rfl, e_misRow (n := n + 1) hV hS hr, if_neg (by omega)]
    rfl
  | some q =>
    obtain ⟨k, rfl, hk, hq2⟩ := rowq_some hq
    obtain ⟨c1, c2, c3, c4⟩ := hV.2.2.2.2.2.1 k q hq2
    have hR := hS.2.2.2.1 q (List.mem_of_getElem? hq2)
    have hrow := e_misRow (sc := sc) (n := n + 1) (XI := XI) (XA := XA) (XP := XP) (XC := XC) (ML := ML) (D0 := D) hV hS hr
    rw [if_pos (by omega)] at hrow
    have hq0 := hR.1
    have hq4 := hR.2.1
    by_cases g1 : q.1 = 4
    · have hs0 : 0 ≤ q.2.1 := (hR.2.2.2.2.2.2.1 g1).2
      have hs1 : q.2.1 < S.1.length := hR.2.2.2.1
      by_cases g2 : 1 ≤ m ∧ m ≤ 60
      · obtain ⟨l, hl⟩ : ∃ l, S.1[q.2.1.toNat]? = some l := ⟨_, List.getElem?_eq_getElem (by omega)⟩
        have hpt : ptq S (k : Int) m = if l.2.1 ≠ 0 ∨ m ≤ l.2.2.1 / (Int.gcd l.1 l.2.2.1 : Nat) then some l else none := by
          unfold ptq
          rw [hq]
          dsimp only
          rw [if_pos (show q.1 = 4 ∧ 1 ≤ m ∧ m ≤ 60 from ⟨g1, g2.1, g2.2⟩), hl]
        obtain ⟨m0, mb, mc, md⟩ := hV.2.2.2.2.1 _ l hl
        have hSL := hS.2.2.1 l (List.mem_of_getElem? hl)
        obtain ⟨a1, a2, b1, b2, e1, e2, d1, d2, -⟩ := id hSL
        obtain ⟨s, hs⟩ : ∃ s : Nat, q.2.1 = s := ⟨q.2.1.toNat, by omega⟩
        have hss : q.2.1.toNat = s := by omega
        rw [hs] at c3 hs1 hs0
        rw [hss] at m0 mb mc md
        obtain ⟨g3, g4⟩ := g2
        have hcm := m_common (sc := sc) (n := n + 2) (a := l.1) (b := l.2.2.1) (z := hp XI XA XP XC MI MA ML D) (by omega) (by omega) (by omega) (by omega)
        have hg0 : 0 < Int.gcd l.1 l.2.2.1 := Int.gcd_pos_of_ne_zero_right _ (by omega)
        have hg1 : Int.gcd l.1 l.2.2.1 ≤ l.2.2.1.natAbs := Nat.gcd_le_right _ (by omega)
        have hdv := lO_dvd (u := l.2.2.1) (g := Int.gcd l.1 l.2.2.1) (by omega) (by omega) hg0 (by omega) (Int.gcd_dvd_right _ _)
        have hrg := ed_rng (a := l.2.2.1) (b := ((Int.gcd l.1 l.2.2.1 : Nat) : Int)) (k := 100) (by omega) (by omega) (by omega) (by omega)
        generalize Int.gcd l.1 l.2.2.1 = G at *
        generalize l.2.2.1 / ((G : Nat) : Int) = V at *
        by_cases g5 : l.2.1 = 0
        · by_cases g6 : m ≤ V
          · rw [if_pos (Or.inr g6)] at hpt
            rw [hpt, Option.isSome_some, if_pos rfl, e_X12_arePoints]
            clear hV c4 hR hpt
            simp (disch := (first | assumption | (unfold i32; omega) | (unfold i64; omega) | omega)) only [↓reduceIte, ki_0, ki_1, ki_2, ki_3, ki_4, ki_5, ki_6, ki_7, ki_8, ki_9, ki_10, ki_11, ki_12, ki_13, ki_14, ki_15, ki_20, ki_21, ki_30, ki_31, ki_40, ki_41, ki_50, ki_51, ki_60, ki_63, ki_64, ki_65, ki_100, ki_158, ki_160, ki_200, ki_212, ki_1000, ki_2000, ki_2001, ki_5000, ki_10000, ki_10001, ki_100000, ki_200000, ki_1000000, ki_2000000, ki_3000000, iO_neg, iO_add, iO_sub, iO_mul, kn_4, kn_8, kn_10, kn_20, kn_24, kn_40, kn_41, kn_50, kn_60, kn_158, kn_160, kn_200, kn_212, kn_2001, tn_lt, fn_lt, tn_le, fn_le, tn_eq, fn_eq, x_lt, x_le, x_eq, x_ix, x_nat, t_lt, f_lt, t_le, f_le, t_eq, f_eq, eq_self, and_self, true_and, and_true, false_and, and_false, if_true, if_false, Int.toNat_natCast, bI_s, bL_s, bA_s, bA_n, bV_s, mq_s, mq_n, en_le, bl_0, bl_1, u_eq, u_ne, w_eq, w_ne, v_eq, v_ne, ↓hp_cc_26, ↓hp_g_26_0, ↓hp_p_26_0, ↓hp_g_26_1, ↓hp_p_26_1, ↓hp_g_26_2, ↓hp_p_26_2, ↓hp_g_26_3, ↓hp_g_26_4, ↓hp_g_26_5, ↓hp_g_26_6, ↓hp_g_26_7, ↓hp_g_26_8, ↓hp_g_26_9, ↓hp_g_26_10, ↓hp_g_26_11, ↓hp_g_26_12, ↓hp_g_26_13, ↓hp_g_26_14, ↓hp_g_26_15, ↓hp_p_26_15, ↓hp_g_26_16, ↓hp_g_26_17, ↓hp_g_26_18, ↓hp_p_26_18, ↓hp_g_26_19, ↓hp_p_26_19, ↓hp_g_26_20, ↓hp_g_26_21, ↓hp_p_26_21, ↓hp_g_26_22, ↓hp_g_26_23, ↓hp_g_26_24, ↓hp_g_26_25, ↓hp_g_26_26, ↓hp_g_26_27, ↓hp_g_26_28, ↓hp_g_26_29, ↓hp_g_26_30, ↓hp_p_26_30, ↓hp_g_26_31, ↓hp_g_26_32, ↓hp_p_26_32, ↓hp_a_27, ↓hp_s_27, ↓hp_l_27, ↓hp_a_28, ↓hp_s_28, ↓hp_l_28, ↓hp_a_29, ↓hp_s_29, ↓hp_l_29, ↓hp_a_30, ↓hp_s_30, ↓hp_l_30, ↓hp_a_31, ↓hp_s_31, ↓hp_l_31, ↓hp_a_32, ↓hp_s_32, ↓hp_l_32, ↓hp_a_33, ↓hp_s_33, ↓hp_l_33, ↓hp_a_34, ↓hp_s_34, ↓hp_l_34, ↓hp_a_35, ↓hp_s_35, ↓hp_l_35, ↓hp_a_36, ↓hp_s_36, ↓hp_l_36, ↓hp_a_37, ↓hp_s_37, ↓hp_l_37, ↓hp_a_38, ↓hp_s_38, ↓hp_l_38, ↓hp_a_39, ↓hp_s_39, ↓hp_a_40, ↓hp_s_40, ↓hp_a_41, ↓hp_s_41, ↓hp_l_41, ↓hp_a_42, ↓hp_s_42, ↓hp_l_42, ↓hp_a_43, ↓hp_s_43, ↓hp_l_43, ↓hp_a_44, ↓hp_s_44, ↓hp_l_44, ↓hp_a_45, ↓hp_s_45, ↓hp_l_45, ↓hp_a_46, ↓hp_s_46, ↓hp_l_46, ↓hp_a_47, ↓hp_s_47, ↓hp_l_47, ↓hp_a_48, ↓hp_s_48, ↓hp_l_48, ↓hp_a_49, ↓hp_s_49, ↓hp_l_49, ↓hp_a_50, ↓hp_s_50, ↓hp_l_50, hrow, e_X12_in, c1, c3, m0, mb, mc, iO_wide, hcm, kl_0, lc_lt, lc_le, lc_gt, lc_ge, lc_eq, y_lt, y_le, y_eq, hdv]
          · rw [if_neg (by omega)] at hpt
            rw [hpt, Option.isSome_none, if_neg Bool.false_ne_true, e_X12_arePoints]
            clear hV c4 hR hpt
            simp (disch := (first | assumption | (unfold i32; omega) | (unfold i64; omega) | omega)) only [↓reduceIte, ki_0, ki_1, ki_2, ki_3, ki_4, ki_5, ki_6, ki_7, ki_8, ki_9, ki_10, ki_11, ki_12, ki_13, ki_14, ki_15, ki_20, ki_21, ki_30, ki_31, ki_40, ki_41, ki_50, ki_51, ki_60, ki_63, ki_64, ki_65, ki_100, ki_158, ki_160, ki_200, ki_212, ki_1000, ki_2000, ki_2001, ki_5000, ki_10000, ki_10001, ki_100000, ki_200000, ki_1000000, ki_2000000, ki_3000000, iO_neg, iO_add, iO_sub, iO_mul, kn_4, kn_8, kn_10, kn_20, kn_24, kn_40, kn_41, kn_50, kn_60, kn_158, kn_160, kn_200, kn_212, kn_2001, tn_lt, fn_lt, tn_le, fn_le, tn_eq, fn_eq, x_lt, x_le, x_eq, x_ix, x_nat, t_lt, f_lt, t_le, f_le, t_eq, f_eq, eq_self, and_self, true_and, and_true, false_and, and_false, if_true, if_false, Int.toNat_natCast, bI_s, bL_s, bA_s, bA_n, bV_s, mq_s, mq_n, en_le, bl_0, bl_1, u_eq, u_ne, w_eq, w_ne, v_eq, v_ne, ↓hp_cc_26, ↓hp_g_26_0, ↓hp_p_26_0, ↓hp_g_26_1, ↓hp_p_26_1, ↓hp_g_26_2, ↓hp_p_26_2, ↓hp_g_26_3, ↓hp_g_26_4, ↓hp_g_26_5, ↓hp_g_26_6, ↓hp_g_26_7, ↓hp_g_26_8, ↓hp_g_26_9, ↓hp_g_26_10, ↓hp_g_26_11, ↓hp_g_26_12, ↓hp_g_26_13, ↓hp_g_26_14, ↓hp_g_26_15, ↓hp_p_26_15, ↓hp_g_26_16, ↓hp_g_26_17, ↓hp_g_26_18, ↓hp_p_26_18, ↓hp_g_26_19, ↓hp_p_26_19, ↓hp_g_26_20, ↓hp_g_26_21, ↓hp_p_26_21, ↓hp_g_26_22, ↓hp_g_26_23, ↓hp_g_26_24, ↓hp_g_26_25, ↓hp_g_26_26, ↓hp_g_26_27, ↓hp_g_26_28, ↓hp_g_26_29, ↓hp_g_26_30, ↓hp_p_26_30, ↓hp_g_26_31, ↓hp_g_26_32, ↓hp_p_26_32, ↓hp_a_27, ↓hp_s_27, ↓hp_l_27, ↓hp_a_28, ↓hp_s_28, ↓hp_l_28, ↓hp_a_29, ↓hp_s_29, ↓hp_l_29, ↓hp_a_30, ↓hp_s_30, ↓hp_l_30, ↓hp_a_31, ↓hp_s_31, ↓hp_l_31, ↓hp_a_32, ↓hp_s_32, ↓hp_l_32, ↓hp_a_33, ↓hp_s_33, ↓hp_l_33, ↓hp_a_34, ↓hp_s_34, ↓hp_l_34, ↓hp_a_35, ↓hp_s_35, ↓hp_l_35, ↓hp_a_36, ↓hp_s_36, ↓hp_l_36, ↓hp_a_37, ↓hp_s_37, ↓hp_l_37, ↓hp_a_38, ↓hp_s_38, ↓hp_l_38, ↓hp_a_39, ↓hp_s_39, ↓hp_a_40, ↓hp_s_40, ↓hp_a_41, ↓hp_s_41, ↓hp_l_41, ↓hp_a_42, ↓hp_s_42, ↓hp_l_42, ↓hp_a_43, ↓hp_s_43, ↓hp_l_43, ↓hp_a_44, ↓hp_s_44, ↓hp_l_44, ↓hp_a_45, ↓hp_s_45, ↓hp_l_45, ↓hp_a_46, ↓hp_s_46, ↓hp_l_46, ↓hp_a_47, ↓hp_s_47, ↓hp_l_47, ↓hp_a_48, ↓hp_s_48, ↓hp_l_48, ↓hp_a_49, ↓hp_s_49, ↓hp_l_49, ↓hp_a_50, ↓hp_s_50, ↓hp_l_50, hrow, e_X12_in, c1, c3, m0, mb, mc, iO_wide, hcm, kl_0, lc_lt, lc_le, lc_gt, lc_ge, lc_eq, y_lt, y_le, y_eq, hdv]
        · rw [if_pos (Or.inl g5)] at hpt
          rw [hpt, Option.isSome_some, if_pos rfl, e_X12_arePoints]
          clear hV c4 hR hpt
          simp (disch := (first | assumption | (unfold i32; omega) | (unfold i64; omega) | omega)) only [↓reduceIte, ki_0, ki_1, ki_2, ki_3, ki_4, ki_5, ki_6, ki_7, ki_8, ki_9, ki_10, ki_11, ki_12, ki_13, ki_14, ki_15, ki_20, ki_21, ki_30, ki_31, ki_40, ki_41, ki_50, ki_51, ki_60, ki_63, ki_64, ki_65, ki_100, ki_158, ki_160, ki_200, ki_212, ki_1000, ki_2000, ki_2001, ki_5000, ki_10000, ki_10001, ki_100000, ki_200000, ki_1000000, ki_2000000, ki_3000000, iO_neg, iO_add, iO_sub, iO_mul, kn_4, kn_8, kn_10, kn_20, kn_24, kn_40, kn_41, kn_50, kn_60, kn_158, kn_160, kn_200, kn_212, kn_2001, tn_lt, fn_lt, tn_le, fn_le, tn_eq, fn_eq, x_lt, x_le, x_eq, x_ix, x_nat, t_lt, f_lt, t_le, f_le, t_eq, f_eq, eq_self, and_self, true_and, and_true, false_and, and_false, if_true, if_false, Int.toNat_natCast, bI_s, bL_s, bA_s, bA_n, bV_s, mq_s, mq_n, en_le, bl_0, bl_1, u_eq, u_ne, w_eq, w_ne, v_eq, v_ne, ↓hp_cc_26, ↓hp_g_26_0, ↓hp_p_26_0, ↓hp_g_26_1, ↓hp_p_26_1, ↓hp_g_26_2, ↓hp_p_26_2, ↓hp_g_26_3, ↓hp_g_26_4, ↓hp_g_26_5, ↓hp_g_26_6, ↓hp_g_26_7, ↓hp_g_26_8, ↓hp_g_26_9, ↓hp_g_26_10, ↓hp_g_26_11, ↓hp_g_26_12, ↓hp_g_26_13, ↓hp_g_26_14, ↓hp_g_26_15, ↓hp_p_26_15, ↓hp_g_26_16, ↓hp_g_26_17, ↓hp_g_26_18, ↓hp_p_26_18, ↓hp_g_26_19, ↓hp_p_26_19, ↓hp_g_26_20, ↓hp_g_26_21, ↓hp_p_26_21, ↓hp_g_26_22, ↓hp_g_26_23, ↓hp_g_26_24, ↓hp_g_26_25, ↓hp_g_26_26, ↓hp_g_26_27, ↓hp_g_26_28, ↓hp_g_26_29, ↓hp_g_26_30, ↓hp_p_26_30, ↓hp_g_26_31, ↓hp_g_26_32, ↓hp_p_26_32, ↓hp_a_27, ↓hp_s_27, ↓hp_l_27, ↓hp_a_28, ↓hp_s_28, ↓hp_l_28, ↓hp_a_29, ↓hp_s_29, ↓hp_l_29, ↓hp_a_30, ↓hp_s_30, ↓hp_l_30, ↓hp_a_31, ↓hp_s_31, ↓hp_l_31, ↓hp_a_32, ↓hp_s_32, ↓hp_l_32, ↓hp_a_33, ↓hp_s_33, ↓hp_l_33, ↓hp_a_34, ↓hp_s_34, ↓hp_l_34, ↓hp_a_35, ↓hp_s_35, ↓hp_l_35, ↓hp_a_36, ↓hp_s_36, ↓hp_l_36, ↓hp_a_37, ↓hp_s_37, ↓hp_l_37, ↓hp_a_38, ↓hp_s_38, ↓hp_l_38, ↓hp_a_39, ↓hp_s_39, ↓hp_a_40, ↓hp_s_40, ↓hp_a_41, ↓hp_s_41, ↓hp_l_41, ↓hp_a_42, ↓hp_s_42, ↓hp_l_42, ↓hp_a_43, ↓hp_s_43, ↓hp_l_43, ↓hp_a_44, ↓hp_s_44, ↓hp_l_44, ↓hp_a_45, ↓hp_s_45, ↓hp_l_45, ↓hp_a_46, ↓hp_s_46, ↓hp_l_46, ↓hp_a_47, ↓hp_s_47, ↓hp_l_47, ↓hp_a_48, ↓hp_s_48, ↓hp_l_48, ↓hp_a_49, ↓hp_s_49, ↓hp_l_49, ↓hp_a_50, ↓hp_s_50, ↓hp_l_50, hrow, e_X12_in, c1, c3, mb]
      · have hpt : ptq S (k : Int) m = none := by
          unfold ptq
          rw [hq]
          dsimp only
          rw [if_neg (show ¬ (q.1 = 4 ∧ 1 ≤ m ∧ m ≤ 60) from fun h => g2 h.2)]
        rw [hpt, Option.isSome_none, if_neg Bool.false_ne_true, e_X12_arePoints]
        clear hV c4 hR hpt
        by_cases t1 : m < 1
        · clear g2; simp (disch := (first | assumption | (unfold i32; omega) | (unfold i64; omega) | omega)) only [↓reduceIte, ki_0, ki_1, ki_2, ki_3, ki_4, ki_5, ki_6, ki_7, ki_8, ki_9, ki_10, ki_11, ki_12, ki_13, ki_14, ki_15, ki_20, ki_21, ki_30, ki_31, ki_40, ki_41, ki_50, ki_51, ki_60, ki_63, ki_64, ki_65, ki_100, ki_158, ki_160, ki_200, ki_212, ki_1000, ki_2000, ki_2001, ki_5000, ki_10000, ki_10001, ki_100000, ki_200000, ki_1000000, ki_2000000, ki_3000000, iO_neg, iO_add, iO_sub, iO_mul, kn_4, kn_8, kn_10, kn_20, kn_24, kn_40, kn_41, kn_50, kn_60, kn_158, kn_160, kn_200, kn_212, kn_2001, tn_lt, fn_lt, tn_le, fn_le, tn_eq, fn_eq, x_lt, x_le, x_eq, x_ix, x_nat, t_lt, f_lt, t_le, f_le, t_eq, f_eq, eq_self, and_self, true_and, and_true, false_and, and_false, if_true, if_false, Int.toNat_natCast, bI_s, bL_s, bA_s, bA_n, bV_s, mq_s, mq_n, en_le, bl_0, bl_1, u_eq, u_ne, w_eq, w_ne, v_eq, v_ne, ↓hp_cc_26, ↓hp_g_26_0, ↓hp_p_26_0, ↓hp_g_26_1, ↓hp_p_26_1, ↓hp_g_26_2, ↓hp_p_26_2, ↓hp_g_26_3, ↓hp_g_26_4, ↓hp_g_26_5, ↓hp_g_26_6, ↓hp_g_26_7, ↓hp_g_26_8, ↓hp_g_26_9, ↓hp_g_26_10, ↓hp_g_26_11, ↓hp_g_26_12, ↓hp_g_26_13, ↓hp_g_26_14, ↓hp_g_26_15, ↓hp_p_26_15, ↓hp_g_26_16, ↓hp_g_26_17, ↓hp_g_26_18, ↓hp_p_26_18, ↓hp_g_26_19, ↓hp_p_26_19, ↓hp_g_26_20, ↓hp_g_26_21, ↓hp_p_26_21, ↓hp_g_26_22, ↓hp_g_26_23, ↓hp_g_26_24, ↓hp_g_26_25, ↓hp_g_26_26, ↓hp_g_26_27, ↓hp_g_26_28, ↓hp_g_26_29, ↓hp_g_26_30, ↓hp_p_26_30, ↓hp_g_26_31, ↓hp_g_26_32, ↓hp_p_26_32, ↓hp_a_27, ↓hp_s_27, ↓hp_l_27, ↓hp_a_28, ↓hp_s_28, ↓hp_l_28, ↓hp_a_29, ↓hp_s_29, ↓hp_l_29, ↓hp_a_30, ↓hp_s_30, ↓hp_l_30, ↓hp_a_31, ↓hp_s_31, ↓hp_l_31, ↓hp_a_32, ↓hp_s_32, ↓hp_l_32, ↓hp_a_33, ↓hp_s_33, ↓hp_l_33, ↓hp_a_34, ↓hp_s_34, ↓hp_l_34, ↓hp_a_35, ↓hp_s_35, ↓hp_l_35, ↓hp_a_36, ↓hp_s_36, ↓hp_l_36, ↓hp_a_37, ↓hp_s_37, ↓hp_l_37, ↓hp_a_38, ↓hp_s_38, ↓hp_l_38, ↓hp_a_39, ↓hp_s_39, ↓hp_a_40, ↓hp_s_40, ↓hp_a_41, ↓hp_s_41, ↓hp_l_41, ↓hp_a_42, ↓hp_s_42, ↓hp_l_42, ↓hp_a_43, ↓hp_s_43, ↓hp_l_43, ↓hp_a_44, ↓hp_s_44, ↓hp_l_44, ↓hp_a_45, ↓hp_s_45, ↓hp_l_45, ↓hp_a_46, ↓hp_s_46, ↓hp_l_46, ↓hp_a_47, ↓hp_s_47, ↓hp_l_47, ↓hp_a_48, ↓hp_s_48, ↓hp_l_48, ↓hp_a_49, ↓hp_s_49, ↓hp_l_49, ↓hp_a_50, ↓hp_s_50, ↓hp_l_50, hrow, e_X12_in, c1]
        · have t2 : 60 < m := by omega
          clear g2; simp (disch := (first | assumption | (unfold i32; omega) | (unfold i64; omega) | omega)) only [↓reduceIte, ki_0, ki_1, ki_2, ki_3, ki_4, ki_5, ki_6, ki_7, ki_8, ki_9, ki_10, ki_11, ki_12, ki_13, ki_14, ki_15, ki_20, ki_21, ki_30, ki_31, ki_40, ki_41, ki_50, ki_51, ki_60, ki_63, ki_64, ki_65, ki_100, ki_158, ki_160, ki_200, ki_212, ki_1000, ki_2000, ki_2001, ki_5000, ki_10000, ki_10001, ki_100000, ki_200000, ki_1000000, ki_2000000, ki_3000000, iO_neg, iO_add, iO_sub, iO_mul, kn_4, kn_8, kn_10, kn_20, kn_24, kn_40, kn_41, kn_50, kn_60, kn_158, kn_160, kn_200, kn_212, kn_2001, tn_lt, fn_lt, tn_le, fn_le, tn_eq, fn_eq, x_lt, x_le, x_eq, x_ix, x_nat, t_lt, f_lt, t_le, f_le, t_eq, f_eq, eq_self, and_self, true_and, and_true, false_and, and_false, if_true, if_false, Int.toNat_natCast, bI_s, bL_s, bA_s, bA_n, bV_s, mq_s, mq_n, en_le, bl_0, bl_1, u_eq, u_ne, w_eq, w_ne, v_eq, v_ne, ↓hp_cc_26, ↓hp_g_26_0, ↓hp_p_26_0, ↓hp_g_26_1, ↓hp_p_26_1, ↓hp_g_26_2, ↓hp_p_26_2, ↓hp_g_26_3, ↓hp_g_26_4, ↓hp_g_26_5, ↓hp_g_26_6, ↓hp_g_26_7, ↓hp_g_26_8, ↓hp_g_26_9, ↓hp_g_26_10, ↓hp_g_26_11, ↓hp_g_26_12, ↓hp_g_26_13, ↓hp_g_26_14, ↓hp_g_26_15, ↓hp_p_26_15, ↓hp_g_26_16, ↓hp_g_26_17, ↓hp_g_26_18, ↓hp_p_26_18, ↓hp_g_26_19, ↓hp_p_26_19, ↓hp_g_26_20, ↓hp_g_26_21, ↓hp_p_26_21, ↓hp_g_26_22, ↓hp_g_26_23, ↓hp_g_26_24, ↓hp_g_26_25, ↓hp_g_26_26, ↓hp_g_26_27, ↓hp_g_26_28, ↓hp_g_26_29, ↓hp_g_26_30, ↓hp_p_26_30, ↓hp_g_26_31, ↓hp_g_26_32, ↓hp_p_26_32, ↓hp_a_27, ↓hp_s_27, ↓hp_l_27, ↓hp_a_28, ↓hp_s_28, ↓hp_l_28, ↓hp_a_29, ↓hp_s_29, ↓hp_l_29, ↓hp_a_30, ↓hp_s_30, ↓hp_l_30, ↓hp_a_31, ↓hp_s_31, ↓hp_l_31, ↓hp_a_32, ↓hp_s_32, ↓hp_l_32, ↓hp_a_33, ↓hp_s_33, ↓hp_l_33, ↓hp_a_34, ↓hp_s_34, ↓hp_l_34, ↓hp_a_35, ↓hp_s_35, ↓hp_l_35, ↓hp_a_36, ↓hp_s_36, ↓hp_l_36, ↓hp_a_37, ↓hp_s_37, ↓hp_l_37, ↓hp_a_38, ↓hp_s_38, ↓hp_l_38, ↓hp_a_39, ↓hp_s_39, ↓hp_a_40, ↓hp_s_40, ↓hp_a_41, ↓hp_s_41, ↓hp_l_41, ↓hp_a_42, ↓hp_s_42, ↓hp_l_42, ↓hp_a_43, ↓hp_s_43, ↓hp_l_43, ↓hp_a_44, ↓hp_s_44, ↓hp_l_44, ↓hp_a_45, ↓hp_s_45, ↓hp_l_45, ↓hp_a_46, ↓hp_s_46, ↓hp_l_46, ↓hp_a_47, ↓hp_s_47, ↓hp_l_47, ↓hp_a_48, ↓hp_s_48, ↓hp_l_48, ↓hp_a_49, ↓hp_s_49, ↓hp_l_49, ↓hp_a_50, ↓hp_s_50, ↓hp_l_50, hrow, e_X12_in, c1]
    · have hpt : ptq S (k : Int) m = none := by
        unfold ptq
        rw [hq]
        dsimp only
        rw [if_neg (show ¬ (q.1 = 4 ∧ 1 ≤ m ∧ m ≤ 60) from fun h => g1 h.1)]
      rw [hpt, Option.isSome_none, if_neg Bool.false_ne_true, e_X12_arePoints]
      clear hV c4 hR hpt
      simp (disch := (first | assumption | (unfold i32; omega) | (unfold i64; omega) | omega)) only [↓reduceIte, ki_0, ki_1, ki_2, ki_3, ki_4, ki_5, ki_6, ki_7, ki_8, ki_9, ki_10, ki_11, ki_12, ki_13, ki_14, ki_15, ki_20, ki_21, ki_30, ki_31, ki_40, ki_41, ki_50, ki_51, ki_60, ki_63, ki_64, ki_65, ki_100, ki_158, ki_160, ki_200, ki_212, ki_1000, ki_2000, ki_2001, ki_5000, ki_10000, ki_10001, ki_100000, ki_200000, ki_1000000, ki_2000000, ki_3000000, iO_neg, iO_add, iO_sub, iO_mul, kn_4, kn_8, kn_10, kn_20, kn_24, kn_40, kn_41, kn_50, kn_60, kn_158, kn_160, kn_200, kn_212, kn_2001, tn_lt, fn_lt, tn_le, fn_le, tn_eq, fn_eq, x_lt, x_le, x_eq, x_ix, x_nat, t_lt, f_lt, t_le, f_le, t_eq, f_eq, eq_self, and_self, true_and, and_true, false_and, and_false, if_true, if_false, Int.toNat_natCast, bI_s, bL_s, bA_s, bA_n, bV_s, mq_s, mq_n, en_le, bl_0, bl_1, u_eq, u_ne, w_eq, w_ne, v_eq, v_ne, ↓hp_cc_26, ↓hp_g_26_0, ↓hp_p_26_0, ↓hp_g_26_1, ↓hp_p_26_1, ↓hp_g_26_2, ↓hp_p_26_2, ↓hp_g_26_3, ↓hp_g_26_4, ↓hp_g_26_5, ↓hp_g_26_6, ↓hp_g_26_7, ↓hp_g_26_8, ↓hp_g_26_9, ↓hp_g_26_10, ↓hp_g_26_11, ↓hp_g_26_12, ↓hp_g_26_13, ↓hp_g_26_14, ↓hp_g_26_15, ↓hp_p_26_15, ↓hp_g_26_16, ↓hp_g_26_17, ↓hp_g_26_18, ↓hp_p_26_18, ↓hp_g_26_19, ↓hp_p_26_19, ↓hp_g_26_20, ↓hp_g_26_21, ↓hp_p_26_21, ↓hp_g_26_22, ↓hp_g_26_23, ↓hp_g_26_24, ↓hp_g_26_25, ↓hp_g_26_26, ↓hp_g_26_27, ↓hp_g_26_28, ↓hp_g_26_29, ↓hp_g_26_30, ↓hp_p_26_30, ↓hp_g_26_31, ↓hp_g_26_32, ↓hp_p_26_32, ↓hp_a_27, ↓hp_s_27, ↓hp_l_27, ↓hp_a_28, ↓hp_s_28, ↓hp_l_28, ↓hp_a_29, ↓hp_s_29, ↓hp_l_29, ↓hp_a_30, ↓hp_s_30, ↓hp_l_30, ↓hp_a_31, ↓hp_s_31, ↓hp_l_31, ↓hp_a_32, ↓hp_s_32, ↓hp_l_32, ↓hp_a_33, ↓hp_s_33, ↓hp_l_33, ↓hp_a_34, ↓hp_s_34, ↓hp_l_34, ↓hp_a_35, ↓hp_s_35, ↓hp_l_35, ↓hp_a_36, ↓hp_s_36, ↓hp_l_36, ↓hp_a_37, ↓hp_s_37, ↓hp_l_37, ↓hp_a_38, ↓hp_s_38, ↓hp_l_38, ↓hp_a_39, ↓hp_s_39, ↓hp_a_40, ↓hp_s_40, ↓hp_a_41, ↓hp_s_41, ↓hp_l_41, ↓hp_a_42, ↓hp_s_42, ↓hp_l_42, ↓hp_a_43, ↓hp_s_43, ↓hp_l_43, ↓hp_a_44, ↓hp_s_44, ↓hp_l_44, ↓hp_a_45, ↓hp_s_45, ↓hp_l_45, ↓hp_a_46, ↓hp_s_46, ↓hp_l_46, ↓hp_a_47, ↓hp_s_47, ↓hp_l_47, ↓hp_a_48, ↓hp_s_48, ↓hp_l_48, ↓hp_a_49, ↓hp_s_49, ↓hp_l_49, ↓hp_a_50, ↓hp_s_50, ↓hp_l_50, hrow, c1]
theorem mc_gaps (hS : OK5 S) {r m : Int} (hr : i32 r) (hm : i32 m) : MC S S (p_gaps S r m) (fun z => f_X12_gaps sc (n + 40) 26 (iO r) (iO m) z) := by
  intro XI XA XP XC MI MA ML D hV hP
  have hap := m_arePoints (sc := sc) (n := n + 35) (XI := XI) (XA := XA) (XP := XP) (XC := XC) (ML := ML) (D := D) hV hS hr hm
  have h8 := hS.1
  have h10 := hS.2.1
  unfold p_gaps
  cases hq : ptq S r m with
  | none =>
    rw [hq, Option.isSome_none, if_neg Bool.false_ne_true] at hap
    refine ⟨MI, MA, ML, ?_, hV, hP⟩
    show f_X12_gaps sc (n + 40) 26 (iO r) (iO m) _ = _
    rw [e_X12_gaps]
    clear hV
    simp (disch := (first | assumption | (unfold i32; omega) | (unfold i64; omega) | omega)) only [↓reduceIte, ki_0, ki_1, ki_2, ki_3, ki_4, ki_5, ki_6, ki_7, ki_8, ki_9, ki_10, ki_11, ki_12, ki_13, ki_14, ki_15, ki_20, ki_21, ki_30, ki_31, ki_40, ki_41, ki_50, ki_51, ki_60, ki_63, ki_64, ki_65, ki_100, ki_158, ki_160, ki_200, ki_212, ki_1000, ki_2000, ki_2001, ki_5000, ki_10000, ki_10001, ki_100000, ki_200000, ki_1000000, ki_2000000, ki_3000000, iO_neg, iO_add, iO_sub, iO_mul, kn_4, kn_8, kn_10, kn_20, kn_24, kn_40, kn_41, kn_50, kn_60, kn_158, kn_160, kn_200, kn_212, kn_2001, tn_lt, fn_lt, tn_le, fn_le, tn_eq, fn_eq, x_lt, x_le, x_eq, x_ix, x_nat, t_lt, f_lt, t_le, f_le, t_eq, f_eq, eq_self, and_self, true_and, and_true, false_and, and_false, if_true, if_false, Int.toNat_natCast, bI_s, bL_s, bA_s, bA_n, bV_s, mq_s, mq_n, en_le, bl_0, bl_1, u_eq, u_ne, w_eq, w_ne, v_eq, v_ne, ↓hp_cc_26, ↓hp_g_26_0, ↓hp_p_26_0, ↓hp_g_26_1, ↓hp_p_26_1, ↓hp_g_26_2, ↓hp_p_26_2, ↓hp_g_26_3, ↓hp_g_26_4, ↓hp_g_26_5, ↓hp_g_26_6, ↓hp_g_26_7, ↓hp_g_26_8, ↓hp_g_26_9, ↓hp_g_26_10, ↓hp_g_26_11, ↓hp_g_26_12, ↓hp_g_26_13, ↓hp_g_26_14, ↓hp_g_26_15, ↓hp_p_26_15, ↓hp_g_26_16, ↓hp_g_26_17, ↓hp_g_26_18, ↓hp_p_26_18, ↓hp_g_26_19, ↓hp_p_26_19, ↓hp_g_26_20, ↓hp_g_26_21, ↓hp_p_26_21, ↓hp_g_26_22, ↓hp_g_26_23, ↓hp_g_26_24, ↓hp_g_26_25, ↓hp_g_26_26, ↓hp_g_26_27, ↓hp_g_26_28, ↓hp_g_26_29, ↓hp_g_26_30, ↓hp_p_26_30, ↓hp_g_26_31, ↓hp_g_26_32, ↓hp_p_26_32, ↓hp_a_27, ↓hp_s_27, ↓hp_l_27, ↓hp_a_28, ↓hp_s_28, ↓hp_l_28, ↓hp_a_29, ↓hp_s_29, ↓hp_l_29, ↓hp_a_30, ↓hp_s_30, ↓hp_l_30, ↓hp_a_31, ↓hp_s_31, ↓hp_l_31, ↓hp_a_32, ↓hp_s_32, ↓hp_l_32, ↓hp_a_33, ↓hp_s_33, ↓hp_l_33, ↓hp_a_34, ↓hp_s_34, ↓hp_l_34, ↓hp_a_35, ↓hp_s_35, ↓hp_l_35, ↓hp_a_36, ↓hp_s_36, ↓hp_l_36, ↓hp_a_37, ↓hp_s_37, ↓hp_l_37, ↓hp_a_38, ↓hp_s_38, ↓hp_l_38, ↓hp_a_39, ↓hp_s_39, ↓hp_a_40, ↓hp_s_40, ↓hp_a_41, ↓hp_s_41, ↓hp_l_41, ↓hp_a_42, ↓hp_s_42, ↓hp_l_42, ↓hp_a_43, ↓hp_s_43, ↓hp_l_43, ↓hp_a_44, ↓hp_s_44, ↓hp_l_44, ↓hp_a_45, ↓hp_s_45, ↓hp_l_45, ↓hp_a_46, ↓hp_s_46, ↓hp_l_46, ↓hp_a_47, ↓hp_s_47, ↓hp_l_47, ↓hp_a_48, ↓hp_s_48, ↓hp_l_48, ↓hp_a_49, ↓hp_s_49, ↓hp_l_49, ↓hp_a_50, ↓hp_s_50, ↓hp_l_50, hap]
  | some l =>
    rw [hq, Option.isSome_some, if_pos rfl] at hap
    obtain ⟨q, q1, q2, q3, q4, q5, q6⟩ := ptq_some hq
    obtain ⟨k, rfl, hk, hq2⟩ := rowq_some q1
    obtain ⟨c1, c2, c3, c4⟩ := hV.2.2.2.2.2.1 k q hq2
    have hR := hS.2.2.2.1 q (List.mem_of_getElem? hq2)
    have hs0 : 0 ≤ q.2.1 := (hR.2.2.2.2.2.2.1 q2).2
    have hs1 : q.2.1 < S.1.length := hR.2.2.2.1
    obtain ⟨s, hs⟩ : ∃ s : Nat, q.2.1 = s := ⟨q.2.1.toNat, by omega⟩
    have hss : q.2.1.toNat = s := by omega
    rw [hs] at c3
    rw [hss] at q5
    obtain ⟨y, rfl⟩ : ∃ y : Nat, m = y := ⟨m.toNat, by omega⟩
    dsimp only
    rw [Int.toNat_natCast]
    obtain ⟨MI', MA', f1, f2, f3, f4⟩ := m_gapsOf (sc := sc) (d := n + 33) (XI := XI) (XA := XA) (XP := XP) (XC := XC) (ML := ML) (D := D) (r := k) (n := y) (by omega) c3 (by omega) (hV.2.2.2.2.1 s l q5) (hS.2.2.1 l (List.mem_of_getElem? q5)) (by omega)
    refine ⟨MI', MA', ML, ?_, hV.scr (fun i hi => f3 i (by omega)) (fun i hi => f4 i (by omega)), pv_of hP (f3 8 (by decide)) (f4 21 (by omega))⟩
    show f_X12_gaps sc (n + 40) 26 (iO (k : Int)) (iO (y : Int)) _ = _
    obtain ⟨g1, g2⟩ := f2
    rw [e_X12_gaps]
    clear hV c4 f3 f4 g2 hR
    simp (disch := (first | assumption | (unfold i32; omega) | (unfold i64; omega) | omega)) only [↓reduceIte, ki_0, ki_1, ki_2, ki_3, ki_4, ki_5, ki_6, ki_7, ki_8, ki_9, ki_10, ki_11, ki_12, ki_13, ki_14, ki_15, ki_20, ki_21, ki_30, ki_31, ki_40, ki_41, ki_50, ki_51, ki_60, ki_63, ki_64, ki_65, ki_100, ki_158, ki_160, ki_200, ki_212, ki_1000, ki_2000, ki_2001, ki_5000, ki_10000, ki_10001, ki_100000, ki_200000, ki_1000000, ki_2000000, ki_3000000, iO_neg, iO_add, iO_sub, iO_mul, kn_4, kn_8, kn_10, kn_20, kn_24, kn_40, kn_41, kn_50, kn_60, kn_158, kn_160, kn_200, kn_212, kn_2001, tn_lt, fn_lt, tn_le, fn_le, tn_eq, fn_eq, x_lt, x_le, x_eq, x_ix, x_nat, t_lt, f_lt, t_le, f_le, t_eq, f_eq, eq_self, and_self, true_and, and_true, false_and, and_false, if_true, if_false, Int.toNat_natCast, bI_s, bL_s, bA_s, bA_n, bV_s, mq_s, mq_n, en_le, bl_0, bl_1, u_eq, u_ne, w_eq, w_ne, v_eq, v_ne, ↓hp_cc_26, ↓hp_g_26_0, ↓hp_p_26_0, ↓hp_g_26_1, ↓hp_p_26_1, ↓hp_g_26_2, ↓hp_p_26_2, ↓hp_g_26_3, ↓hp_g_26_4, ↓hp_g_26_5, ↓hp_g_26_6, ↓hp_g_26_7, ↓hp_g_26_8, ↓hp_g_26_9, ↓hp_g_26_10, ↓hp_g_26_11, ↓hp_g_26_12, ↓hp_g_26_13, ↓hp_g_26_14, ↓hp_g_26_15, ↓hp_p_26_15, ↓hp_g_26_16, ↓hp_g_26_17, ↓hp_g_26_18, ↓hp_p_26_18, ↓hp_g_26_19, ↓hp_p_26_19, ↓hp_g_26_20, ↓hp_g_26_21, ↓hp_p_26_21, ↓hp_g_26_22, ↓hp_g_26_23, ↓hp_g_26_24, ↓hp_g_26_25, ↓hp_g_26_26, ↓hp_g_26_27, ↓hp_g_26_28, ↓hp_g_26_29, ↓hp_g_26_30, ↓hp_p_26_30, ↓hp_g_26_31, ↓hp_g_26_32, ↓hp_p_26_32, ↓hp_a_27, ↓hp_s_27, ↓hp_l_27, ↓hp_a_28, ↓hp_s_28, ↓hp_l_28, ↓hp_a_29, ↓hp_s_29, ↓hp_l_29, ↓hp_a_30, ↓hp_s_30, ↓hp_l_30, ↓hp_a_31, ↓hp_s_31, ↓hp_l_31, ↓hp_a_32, ↓hp_s_32, ↓hp_l_32, ↓hp_a_33, ↓hp_s_33, ↓hp_l_33, ↓hp_a_34, ↓hp_s_34, ↓hp_l_34, ↓hp_a_35, ↓hp_s_35, ↓hp_l_35, ↓hp_a_36, ↓hp_s_36, ↓hp_l_36, ↓hp_a_37, ↓hp_s_37, ↓hp_l_37, ↓hp_a_38, ↓hp_s_38, ↓hp_l_38, ↓hp_a_39, ↓hp_s_39, ↓hp_a_40, ↓hp_s_40, ↓hp_a_41, ↓hp_s_41, ↓hp_l_41, ↓hp_a_42, ↓hp_s_42, ↓hp_l_42, ↓hp_a_43, ↓hp_s_43, ↓hp_l_43, ↓hp_a_44, ↓hp_s_44, ↓hp_l_44, ↓hp_a_45, ↓hp_s_45, ↓hp_l_45, ↓hp_a_46, ↓hp_s_46, ↓hp_l_46, ↓hp_a_47, ↓hp_s_47, ↓hp_l_47, ↓hp_a_48, ↓hp_s_48, ↓hp_l_48, ↓hp_a_49, ↓hp_s_49, ↓hp_l_49, ↓hp_a_50, ↓hp_s_50, ↓hp_l_50, hap, f1, g1]
theorem mc_gap (hS : OK5 S) {r m i w : Int} (hr : i32 r) (hm : i32 m) (hi : i32 i) (hw : i32 w) : MC S S (p_gap S r m i w) (fun z => f_X12_gap sc (n + 40) 26 (iO r) (iO m) (iO i) (iO w) z) := by
  intro XI XA XP XC MI MA ML D hV hP
  have hap := m_arePoints (sc := sc) (n := n + 35) (XI := XI) (XA := XA) (XP := XP) (XC := XC) (ML := ML) (D := D) hV hS hr hm
  have h8 := hS.1
  have h10 := hS.2.1
  obtain ⟨i1, i2⟩ := id hi
  obtain ⟨w1, w2⟩ := id hw
  unfold p_gap
  cases hq : ptq S r m with
  | none =>
    rw [hq, Option.isSome_none, if_neg Bool.false_ne_true] at hap
    refine ⟨MI, MA, ML, ?_, hV, hP⟩
    show f_X12_gap sc (n + 40) 26 (iO r) (iO m) (iO i) (iO w) _ = _
    rw [e_X12_gap]
    clear hV
    simp (disch := (first | assumption | (unfold i32; omega) | (unfold i64; omega) | omega)) only [↓reduceIte, ki_0, ki_1, ki_2, ki_3, ki_4, ki_5, ki_6, ki_7, ki_8, ki_9, ki_10, ki_11, ki_12, ki_13, ki_14, ki_15, ki_20, ki_21, ki_30, ki_31, ki_40, ki_41, ki_50, ki_51, ki_60, ki_63, ki_64, ki_65, ki_100, ki_158, ki_160, ki_200, ki_212, ki_1000, ki_2000, ki_2001, ki_5000, ki_10000, ki_10001, ki_100000, ki_200000, ki_1000000, ki_2000000, ki_3000000, iO_neg, iO_add, iO_sub, iO_mul, kn_4, kn_8, kn_10, kn_20, kn_24, kn_40, kn_41, kn_50, kn_60, kn_158, kn_160, kn_200, kn_212, kn_2001, tn_lt, fn_lt, tn_le, fn_le, tn_eq, fn_eq, x_lt, x_le, x_eq, x_ix, x_nat, t_lt, f_lt, t_le, f_le, t_eq, f_eq, eq_self, and_self, true_and, and_true, false_and, and_false, if_true, if_false, Int.toNat_natCast, bI_s, bL_s, bA_s, bA_n, bV_s, mq_s, mq_n, en_le, bl_0, bl_1, u_eq, u_ne, w_eq, w_ne, v_eq, v_ne, ↓hp_cc_26, ↓hp_g_26_0, ↓hp_p_26_0, ↓hp_g_26_1, ↓hp_p_26_1, ↓hp_g_26_2, ↓hp_p_26_2, ↓hp_g_26_3, ↓hp_g_26_4, ↓hp_g_26_5, ↓hp_g_26_6, ↓hp_g_26_7, ↓hp_g_26_8, ↓hp_g_26_9, ↓hp_g_26_10, ↓hp_g_26_11, ↓hp_g_26_12, ↓hp_g_26_13, ↓hp_g_26_14, ↓hp_g_26_15, ↓hp_p_26_15, ↓hp_g_26_16, ↓hp_g_26_17, ↓hp_g_26_18, ↓hp_p_26_18, ↓hp_g_26_19, ↓hp_p_26_19, ↓hp_g_26_20, ↓hp_g_26_21, ↓hp_p_26_21, ↓hp_g_26_22, ↓hp_g_26_23, ↓hp_g_26_24, ↓hp_g_26_25, ↓hp_g_26_26, ↓hp_g_26_27, ↓hp_g_26_28, ↓hp_g_26_29, ↓hp_g_26_30, ↓hp_p_26_30, ↓hp_g_26_31, ↓hp_g_26_32, ↓hp_p_26_32, ↓hp_a_27, ↓hp_s_27, ↓hp_l_27, ↓hp_a_28, ↓hp_s_28, ↓hp_l_28, ↓hp_a_29, ↓hp_s_29, ↓hp_l_29, ↓hp_a_30, ↓hp_s_30, ↓hp_l_30, ↓hp_a_31, ↓hp_s_31, ↓hp_l_31, ↓hp_a_32, ↓hp_s_32, ↓hp_l_32, ↓hp_a_33, ↓hp_s_33, ↓hp_l_33, ↓hp_a_34, ↓hp_s_34, ↓hp_l_34, ↓hp_a_35, ↓hp_s_35, ↓hp_l_35, ↓hp_a_36, ↓hp_s_36, ↓hp_l_36, ↓hp_a_37, ↓hp_s_37, ↓hp_l_37, ↓hp_a_38, ↓hp_s_38, ↓hp_l_38, ↓hp_a_39, ↓hp_s_39, ↓hp_a_40, ↓hp_s_40, ↓hp_a_41, ↓hp_s_41, ↓hp_l_41, ↓hp_a_42, ↓hp_s_42, ↓hp_l_42, ↓hp_a_43, ↓hp_s_43, ↓hp_l_43, ↓hp_a_44, ↓hp_s_44, ↓hp_l_44, ↓hp_a_45, ↓hp_s_45, ↓hp_l_45, ↓hp_a_46, ↓hp_s_46, ↓hp_l_46, ↓hp_a_47, ↓hp_s_47, ↓hp_l_47, ↓hp_a_48, ↓hp_s_48, ↓hp_l_48, ↓hp_a_49, ↓hp_s_49, ↓hp_l_49, ↓hp_a_50, ↓hp_s_50, ↓hp_l_50, hap]
  | some l =>
    rw [hq, Option.isSome_some, if_pos rfl] at hap
    obtain ⟨q, q1, q2, q3, q4, q5, q6⟩ := ptq_some hq
    obtain ⟨k, rfl, hk, hq2⟩ := rowq_some q1
    obtain ⟨c1, c2, c3, c4⟩ := hV.2.2.2.2.2.1 k q hq2
    have hR := hS.2.2.2.1 q (List.mem_of_getElem? hq2)
    have hs0 : 0 ≤ q.2.1 := (hR.2.2.2.2.2.2.1 q2).2
    have hs1 : q.2.1 < S.1.length := hR.2.2.2.1
    obtain ⟨s, hs⟩ : ∃ s : Nat, q.2.1 = s := ⟨q.2.1.toNat, by omega⟩
    have hss : q.2.1.toNat = s := by omega
    rw [hs] at c3
    rw [hss] at q5
    obtain ⟨y, rfl⟩ : ∃ y : Nat, m = y := ⟨m.toNat, by omega⟩
    dsimp only
    rw [Int.toNat_natCast]
    have hSL := hS.2.2.1 l (List.mem_of_getElem? q5)
    by_cases gw : 0 ≤ w ∧ w ≤ 2
    · obtain ⟨MI', MA', f1, f2, f3, f4⟩ := m_gapsOf (sc := sc) (d := n + 33) (XI := XI) (XA := XA) (XP := XP) (XC := XC) (ML := ML) (D := D) (r := k) (n := y) (by omega) c3 (by omega) (hV.2.2.2.2.1 s l q5) hSL (by omega)
      refine ⟨MI', MA', ML, ?_, hV.scr (fun i hi => f3 i (by omega)) (fun i hi => f4 i (by omega)), pv_of hP (f3 8 (by decide)) (f4 21 (by omega))⟩
      show f_X12_gap sc (n + 40) 26 (iO (k : Int)) (iO (y : Int)) (iO i) (iO w) _ = _
      obtain ⟨g1, g2⟩ := f2
      have hB := gst_bd (l := l) (gx := gxf l y) (gy := gyf l y) (n := y) (fun i hi => by obtain ⟨q1, q2, q3, q4, -⟩ := gf_bd hSL (by omega) hi; exact ⟨q1, q2, q3, q4⟩) y (Nat.le_refl _)
      have hB : GB (gsts l y) y := hB
      have hk60 : (gsts l y).1 ≤ 60 := by have := hB.1; omega
      generalize gsts l y = st at *
      obtain ⟨gw1, gw2⟩ := gw
      rw [e_X12_gap]
      by_cases gi : 0 ≤ i ∧ i < (st.1 : Int)
      · rw [if_pos ⟨gw1, gw2, gi.1, gi.2⟩]
        obtain ⟨gi1, gi2⟩ := gi
        obtain ⟨v, rfl⟩ : ∃ v : Nat, i = v := ⟨i.toNat, by omega⟩
        rw [Int.toNat_natCast]
        obtain ⟨t1, t2, t3⟩ := g2 v (by omega)
        clear hV c4 f3 f4 g2 hR hB
        rcases (show w = 0 ∨ w = 1 ∨ w = 2 by omega) with rfl | rfl | rfl
        · simp (disch := (first | assumption | (unfold i32; omega) | (unfold i64; omega) | omega)) only [↓reduceIte, ki_0, ki_1, ki_2, ki_3, ki_4, ki_5, ki_6, ki_7, ki_8, ki_9, ki_10, ki_11, ki_12, ki_13, ki_14, ki_15, ki_20, ki_21, ki_30, ki_31, ki_40, ki_41, ki_50, ki_51, ki_60, ki_63, ki_64, ki_65, ki_100, ki_158, ki_160, ki_200, ki_212, ki_1000, ki_2000, ki_2001, ki_5000, ki_10000, ki_10001, ki_100000, ki_200000, ki_1000000, ki_2000000, ki_3000000, iO_neg, iO_add, iO_sub, iO_mul, kn_4, kn_8, kn_10, kn_20, kn_24, kn_40, kn_41, kn_50, kn_60, kn_158, kn_160, kn_200, kn_212, kn_2001, tn_lt, fn_lt, tn_le, fn_le, tn_eq, fn_eq, x_lt, x_le, x_eq, x_ix, x_nat, t_lt, f_lt, t_le, f_le, t_eq, f_eq, eq_self, and_self, true_and, and_true, false_and, and_false, if_true, if_false, Int.toNat_natCast, bI_s, bL_s, bA_s, bA_n, bV_s, mq_s, mq_n, en_le, bl_0, bl_1, u_eq, u_ne, w_eq, w_ne, v_eq, v_ne, ↓hp_cc_26, ↓hp_g_26_0, ↓hp_p_26_0, ↓hp_g_26_1, ↓hp_p_26_1, ↓hp_g_26_2, ↓hp_p_26_2, ↓hp_g_26_3, ↓hp_g_26_4, ↓hp_g_26_5, ↓hp_g_26_6, ↓hp_g_26_7, ↓hp_g_26_8, ↓hp_g_26_9, ↓hp_g_26_10, ↓hp_g_26_11, ↓hp_g_26_12, ↓hp_g_26_13, ↓hp_g_26_14, ↓hp_g_26_15, ↓hp_p_26_15, ↓hp_g_26_16, ↓hp_g_26_17, ↓hp_g_26_18, ↓hp_p_26_18, ↓hp_g_26_19, ↓hp_p_26_19, ↓hp_g_26_20, ↓hp_g_26_21, ↓hp_p_26_21, ↓hp_g_26_22, ↓hp_g_26_23, ↓hp_g_26_24, ↓hp_g_26_25, ↓hp_g_26_26, ↓hp_g_26_27, ↓hp_g_26_28, ↓hp_g_26_29, ↓hp_g_26_30, ↓hp_p_26_30, ↓hp_g_26_31, ↓hp_g_26_32, ↓hp_p_26_32, ↓hp_a_27, ↓hp_s_27, ↓hp_l_27, ↓hp_a_28, ↓hp_s_28, ↓hp_l_28, ↓hp_a_29, ↓hp_s_29, ↓hp_l_29, ↓hp_a_30, ↓hp_s_30, ↓hp_l_30, ↓hp_a_31, ↓hp_s_31, ↓hp_l_31, ↓hp_a_32, ↓hp_s_32, ↓hp_l_32, ↓hp_a_33, ↓hp_s_33, ↓hp_l_33, ↓hp_a_34, ↓hp_s_34, ↓hp_l_34, ↓hp_a_35, ↓hp_s_35, ↓hp_l_35, ↓hp_a_36, ↓hp_s_36, ↓hp_l_36, ↓hp_a_37, ↓hp_s_37, ↓hp_l_37, ↓hp_a_38, ↓hp_s_38, ↓hp_l_38, ↓hp_a_39, ↓hp_s_39, ↓hp_a_40, ↓hp_s_40, ↓hp_a_41, ↓hp_s_41, ↓hp_l_41, ↓hp_a_42, ↓hp_s_42, ↓hp_l_42, ↓hp_a_43, ↓hp_s_43, ↓hp_l_43, ↓hp_a_44, ↓hp_s_44, ↓hp_l_44, ↓hp_a_45, ↓hp_s_45, ↓hp_l_45, ↓hp_a_46, ↓hp_s_46, ↓hp_l_46, ↓hp_a_47, ↓hp_s_47, ↓hp_l_47, ↓hp_a_48, ↓hp_s_48, ↓hp_l_48, ↓hp_a_49, ↓hp_s_49, ↓hp_l_49, ↓hp_a_50, ↓hp_s_50, ↓hp_l_50, hap, e_X12_in, f1, g1, t1]
        · simp (disch := (first | assumption | (unfold i32; omega) | (unfold i64; omega) | omega)) only [↓reduceIte, ki_0, ki_1, ki_2, ki_3, ki_4, ki_5, ki_6, ki_7, ki_8, ki_9, ki_10, ki_11, ki_12, ki_13, ki_14, ki_15, ki_20, ki_21, ki_30, ki_31, ki_40, ki_41, ki_50, ki_51, ki_60, ki_63, ki_64, ki_65, ki_100, ki_158, ki_160, ki_200, ki_212, ki_1000, ki_2000, ki_2001, ki_5000, ki_10000, ki_10001, ki_100000, ki_200000, ki_1000000, ki_2000000, ki_3000000, iO_neg, iO_add, iO_sub, iO_mul, kn_4, kn_8, kn_10, kn_20, kn_24, kn_40, kn_41, kn_50, kn_60, kn_158, kn_160, kn_200, kn_212, kn_2001, tn_lt, fn_lt, tn_le, fn_le, tn_eq, fn_eq, x_lt, x_le, x_eq, x_ix, x_nat, t_lt, f_lt, t_le, f_le, t_eq, f_eq, eq_self, and_self, true_and, and_true, false_and, and_false, if_true, if_false, Int.toNat_natCast, bI_s, bL_s, bA_s, bA_n, bV_s, mq_s, mq_n, en_le, bl_0, bl_1, u_eq, u_ne, w_eq, w_ne, v_eq, v_ne, ↓hp_cc_26, ↓hp_g_26_0, ↓hp_p_26_0, ↓hp_g_26_1, ↓hp_p_26_1, ↓hp_g_26_2, ↓hp_p_26_2, ↓hp_g_26_3, ↓hp_g_26_4, ↓hp_g_26_5, ↓hp_g_26_6, ↓hp_g_26_7, ↓hp_g_26_8, ↓hp_g_26_9, ↓hp_g_26_10, ↓hp_g_26_11, ↓hp_g_26_12, ↓hp_g_26_13, ↓hp_g_26_14, ↓hp_g_26_15, ↓hp_p_26_15, ↓hp_g_26_16, ↓hp_g_26_17, ↓hp_g_26_18, ↓hp_p_26_18, ↓hp_g_26_19, ↓hp_p_26_19, ↓hp_g_26_20, ↓hp_g_26_21, ↓hp_p_26_21, ↓hp_g_26_22, ↓hp_g_26_23, ↓hp_g_26_24, ↓hp_g_26_25, ↓hp_g_26_26, ↓hp_g_26_27, ↓hp_g_26_28, ↓hp_g_26_29, ↓hp_g_26_30, ↓hp_p_26_30, ↓hp_g_26_31, ↓hp_g_26_32, ↓hp_p_26_32, ↓hp_a_27, ↓hp_s_27, ↓hp_l_27, ↓hp_a_28, ↓hp_s_28, ↓hp_l_28, ↓hp_a_29, ↓hp_s_29, ↓hp_l_29, ↓hp_a_30, ↓hp_s_30, ↓hp_l_30, ↓hp_a_31, ↓hp_s_31, ↓hp_l_31, ↓hp_a_32, ↓hp_s_32, ↓hp_l_32, ↓hp_a_33, ↓hp_s_33, ↓hp_l_33, ↓hp_a_34, ↓hp_s_34, ↓hp_l_34, ↓hp_a_35, ↓hp_s_35, ↓hp_l_35, ↓hp_a_36, ↓hp_s_36, ↓hp_l_36, ↓hp_a_37, ↓hp_s_37, ↓hp_l_37, ↓hp_a_38, ↓hp_s_38, ↓hp_l_38, ↓hp_a_39, ↓hp_s_39, ↓hp_a_40, ↓hp_s_40, ↓hp_a_41, ↓hp_s_41, ↓hp_l_41, ↓hp_a_42, ↓hp_s_42, ↓hp_l_42, ↓hp_a_43, ↓hp_s_43, ↓hp_l_43, ↓hp_a_44, ↓hp_s_44, ↓hp_l_44, ↓hp_a_45, ↓hp_s_45, ↓hp_l_45, ↓hp_a_46, ↓hp_s_46, ↓hp_l_46, ↓hp_a_47, ↓hp_s_47, ↓hp_l_47, ↓hp_a_48, ↓hp_s_48, ↓hp_l_48, ↓hp_a_49, ↓hp_s_49, ↓hp_l_49, ↓hp_a_50, ↓hp_s_50, ↓hp_l_50, hap, e_X12_in, f1, g1, t2]
        · simp (disch := (first | assumption | (unfold i32; omega) | (unfold i64; omega) | omega)) only [↓reduceIte, ki_0, ki_1, ki_2, ki_3, ki_4, ki_5, ki_6, ki_7, ki_8, ki_9, ki_10, ki_11, ki_12, ki_13, ki_14, ki_15, ki_20, ki_21, ki_30, ki_31, ki_40, ki_41, ki_50, ki_51, ki_60, ki_63, ki_64, ki_65, ki_100, ki_158, ki_160, ki_200, ki_212, ki_1000, ki_2000, ki_2001, ki_5000, ki_10000, ki_10001, ki_100000, ki_200000, ki_1000000, ki_2000000, ki_3000000, iO_neg, iO_add, iO_sub, iO_mul, kn_4, kn_8, kn_10, kn_20, kn_24, kn_40, kn_41, kn_50, kn_60, kn_158, kn_160, kn_200, kn_212, kn_2001, tn_lt, fn_lt, tn_le, fn_le, tn_eq, fn_eq, x_lt, x_le, x_eq, x_ix, x_nat, t_lt, f_lt, t_le, f_le, t_eq, f_eq, eq_self, and_self, true_and, and_true, false_and, and_false, if_true, if_false, Int.toNat_natCast, bI_s, bL_s, bA_s, bA_n, bV_s, mq_s, mq_n, en_le, bl_0, bl_1, u_eq, u_ne, w_eq, w_ne, v_eq, v_ne, ↓hp_cc_26, ↓hp_g_26_0, ↓hp_p_26_0, ↓hp_g_26_1, ↓hp_p_26_1, ↓hp_g_26_2, ↓hp_p_26_2, ↓hp_g_26_3, ↓hp_g_26_4, ↓hp_g_26_5, ↓hp_g_26_6, ↓hp_g_26_7, ↓hp_g_26_8, ↓hp_g_26_9, ↓hp_g_26_10, ↓hp_g_26_11, ↓hp_g_26_12, ↓hp_g_26_13, ↓hp_g_26_14, ↓hp_g_26_15, ↓hp_p_26_15, ↓hp_g_26_16, ↓hp_g_26_17, ↓hp_g_26_18, ↓hp_p_26_18, ↓hp_g_26_19, ↓hp_p_26_19, ↓hp_g_26_20, ↓hp_g_26_21, ↓hp_p_26_21, ↓hp_g_26_22, ↓hp_g_26_23, ↓hp_g_26_24, ↓hp_g_26_25, ↓hp_g_26_26, ↓hp_g_26_27, ↓hp_g_26_28, ↓hp_g_26_29, ↓hp_g_26_30, ↓hp_p_26_30, ↓hp_g_26_31, ↓hp_g_26_32, ↓hp_p_26_32, ↓hp_a_27, ↓hp_s_27, ↓hp_l_27, ↓hp_a_28, ↓hp_s_28, ↓hp_l_28, ↓hp_a_29, ↓hp_s_29, ↓hp_l_29, ↓hp_a_30, ↓hp_s_30, ↓hp_l_30, ↓hp_a_31, ↓hp_s_31, ↓hp_l_31, ↓hp_a_32, ↓hp_s_32, ↓hp_l_32, ↓hp_a_33, ↓hp_s_33, ↓hp_l_33, ↓hp_a_34, ↓hp_s_34, ↓hp_l_34, ↓hp_a_35, ↓hp_s_35, ↓hp_l_35, ↓hp_a_36, ↓hp_s_36, ↓hp_l_36, ↓hp_a_37, ↓hp_s_37, ↓hp_l_37, ↓hp_a_38, ↓hp_s_38, ↓hp_l_38, ↓hp_a_39, ↓hp_s_39, ↓hp_a_40, ↓hp_s_40, ↓hp_a_41, ↓hp_s_41, ↓hp_l_41, ↓hp_a_42, ↓hp_s_42, ↓hp_l_42, ↓hp_a_43, ↓hp_s_43, ↓hp_l_43, ↓hp_a_44, ↓hp_s_44, ↓hp_l_44, ↓hp_a_45, ↓hp_s_45, ↓hp_l_45, ↓hp_a_46, ↓hp_s_46, ↓hp_l_46, ↓hp_a_47, ↓hp_s_47, ↓hp_l_47, ↓hp_a_48, ↓hp_s_48, ↓hp_l_48, ↓hp_a_49, ↓hp_s_49, ↓hp_l_49, ↓hp_a_50, ↓hp_s_50, ↓hp_l_50, hap, e_X12_in, f1, g1, t3]
      · rw [if_neg (show ¬ (0 ≤ w ∧ w ≤ 2 ∧ 0 ≤ i ∧ i < (st.1 : Int)) by omega)]
        clear hV c4 f3 f4 g2 hR hB
        by_cases t1 : i < 0
        · clear gi; simp (disch := (first | assumption | (unfold i32; omega) | (unfold i64; omega) | omega)) only [↓reduceIte, ki_0, ki_1, ki_2, ki_3, ki_4, ki_5, ki_6, ki_7, ki_8, ki_9, ki_10, ki_11, ki_12, ki_13, ki_14, ki_15, ki_20, ki_21, ki_30, ki_31, ki_40, ki_41, ki_50, ki_51, ki_60, ki_63, ki_64, ki_65, ki_100, ki_158, ki_160, ki_200, ki_212, ki_1000, ki_2000, ki_2001, ki_5000, ki_10000, ki_10001, ki_100000, ki_200000, ki_1000000, ki_2000000, ki_3000000, iO_neg, iO_add, iO_sub, iO_mul, kn_4, kn_8, kn_10, kn_20, kn_24, kn_40, kn_41, kn_50, kn_60, kn_158, kn_160, kn_200, kn_212, kn_2001, tn_lt, fn_lt, tn_le, fn_le, tn_eq, fn_eq, x_lt, x_le, x_eq, x_ix, x_nat, t_lt, f_lt, t_le, f_le, t_eq, f_eq, eq_self, and_self, true_and, and_true, false_and, and_false, if_true, if_false, Int.toNat_natCast, bI_s, bL_s, bA_s, bA_n, bV_s, mq_s, mq_n, en_le, bl_0, bl_1, u_eq, u_ne, w_eq, w_ne, v_eq, v_ne, ↓hp_cc_26, ↓hp_g_26_0, ↓hp_p_26_0, ↓hp_g_26_1, ↓hp_p_26_1, ↓hp_g_26_2, ↓hp_p_26_2, ↓hp_g_26_3, ↓hp_g_26_4, ↓hp_g_26_5, ↓hp_g_26_6, ↓hp_g_26_7, ↓hp_g_26_8, ↓hp_g_26_9, ↓hp_g_26_10, ↓hp_g_26_11, ↓hp_g_26_12, ↓hp_g_26_13, ↓hp_g_26_14, ↓hp_g_26_15, ↓hp_p_26_15, ↓hp_g_26_16, ↓hp_g_26_17, ↓hp_g_26_18, ↓hp_p_26_18, ↓hp_g_26_19, ↓hp_p_26_19, ↓hp_g_26_20, ↓hp_g_26_21, ↓hp_p_26_21, ↓hp_g_26_22, ↓hp_g_26_23, ↓hp_g_26_24, ↓hp_g_26_25, ↓hp_g_26_26, ↓hp_g_26_27, ↓hp_g_26_28, ↓hp_g_26_29, ↓hp_g_26_30, ↓hp_p_26_30, ↓hp_g_26_31, ↓hp_g_26_32, ↓hp_p_26_32, ↓hp_a_27, ↓hp_s_27, ↓hp_l_27, ↓hp_a_28, ↓hp_s_28, ↓hp_l_28, ↓hp_a_29, ↓hp_s_29, ↓hp_l_29, ↓hp_a_30, ↓hp_s_30, ↓hp_l_30, ↓hp_a_31, ↓hp_s_31, ↓hp_l_31, ↓hp_a_32, ↓hp_s_32, ↓hp_l_32, ↓hp_a_33, ↓hp_s_33, ↓hp_l_33, ↓hp_a_34, ↓hp_s_34, ↓hp_l_34, ↓hp_a_35, ↓hp_s_35, ↓hp_l_35, ↓hp_a_36, ↓hp_s_36, ↓hp_l_36, ↓hp_a_37, ↓hp_s_37, ↓hp_l_37, ↓hp_a_38, ↓hp_s_38, ↓hp_l_38, ↓hp_a_39, ↓hp_s_39, ↓hp_a_40, ↓hp_s_40, ↓hp_a_41, ↓hp_s_41, ↓hp_l_41, ↓hp_a_42, ↓hp_s_42, ↓hp_l_42, ↓hp_a_43, ↓hp_s_43, ↓hp_l_43, ↓hp_a_44, ↓hp_s_44, ↓hp_l_44, ↓hp_a_45, ↓hp_s_45, ↓hp_l_45, ↓hp_a_46, ↓hp_s_46, ↓hp_l_46, ↓hp_a_47, ↓hp_s_47, ↓hp_l_47, ↓hp_a_48, ↓hp_s_48, ↓hp_l_48, ↓hp_a_49, ↓hp_s_49, ↓hp_l_49, ↓hp_a_50, ↓hp_s_50, ↓hp_l_50, hap, e_X12_in, f1, g1]
        · have t2 : (st.1 : Int) ≤ i := by omega
          clear gi; simp (disch := (first | assumption | (unfold i32; omega) | (unfold i64; omega) | omega)) only [↓reduceIte, ki_0, ki_1, ki_2, ki_3, ki_4, ki_5, ki_6, ki_7, ki_8, ki_9, ki_10, ki_11, ki_12, ki_13, ki_14, ki_15, ki_20, ki_21, ki_30, ki_31, ki_40, ki_41, ki_50, ki_51, ki_60, ki_63, ki_64, ki_65, ki_100, ki_158, ki_160, ki_200, ki_212, ki_1000, ki_2000, ki_2001, ki_5000, ki_10000, ki_10001, ki_100000, ki_200000, ki_1000000, ki_2000000, ki_3000000, iO_neg, iO_add, iO_sub, iO_mul, kn_4, kn_8, kn_10, kn_20, kn_24, kn_40, kn_41, kn_50, kn_60, kn_158, kn_160, kn_200, kn_212, kn_2001, tn_lt, fn_lt, tn_le, fn_le, tn_eq, fn_eq, x_lt, x_le, x_eq, x_ix, x_nat, t_lt, f_lt, t_le, f_le, t_eq, f_eq, eq_self, and_self, true_and, and_true, false_and, and_false, if_true, if_false, Int.toNat_natCast, bI_s, bL_s, bA_s, bA_n, bV_s, mq_s, mq_n, en_le, bl_0, bl_1, u_eq, u_ne, w_eq, w_ne, v_eq, v_ne, ↓hp_cc_26, ↓hp_g_26_0, ↓hp_p_26_0, ↓hp_g_26_1, ↓hp_p_26_1, ↓hp_g_26_2, ↓hp_p_26_2, ↓hp_g_26_3, ↓hp_g_26_4, ↓hp_g_26_5, ↓hp_g_26_6, ↓hp_g_26_7, ↓hp_g_26_8, ↓hp_g_26_9, ↓hp_g_26_10, ↓hp_g_26_11, ↓hp_g_26_12, ↓hp_g_26_13, ↓hp_g_26_14, ↓hp_g_26_15, ↓hp_p_26_15, ↓hp_g_26_16, ↓hp_g_26_17, ↓hp_g_26_18, ↓hp_p_26_18, ↓hp_g_26_19, ↓hp_p_26_19, ↓hp_g_26_20, ↓hp_g_26_21, ↓hp_p_26_21, ↓hp_g_26_22, ↓hp_g_26_23, ↓hp_g_26_24, ↓hp_g_26_25, ↓hp_g_26_26, ↓hp_g_26_27, ↓hp_g_26_28, ↓hp_g_26_29, ↓hp_g_26_30, ↓hp_p_26_30, ↓hp_g_26_31, ↓hp_g_26_32, ↓hp_p_26_32, ↓hp_a_27, ↓hp_s_27, ↓hp_l_27, ↓hp_a_28, ↓hp_s_28, ↓hp_l_28, ↓hp_a_29, ↓hp_s_29, ↓hp_l_29, ↓hp_a_30, ↓hp_s_30, ↓hp_l_30, ↓hp_a_31, ↓hp_s_31, ↓hp_l_31, ↓hp_a_32, ↓hp_s_32, ↓hp_l_32, ↓hp_a_33, ↓hp_s_33, ↓hp_l_33, ↓hp_a_34, ↓hp_s_34, ↓hp_l_34, ↓hp_a_35, ↓hp_s_35, ↓hp_l_35, ↓hp_a_36, ↓hp_s_36, ↓hp_l_36, ↓hp_a_37, ↓hp_s_37, ↓hp_l_37, ↓hp_a_38, ↓hp_s_38, ↓hp_l_38, ↓hp_a_39, ↓hp_s_39, ↓hp_a_40, ↓hp_s_40, ↓hp_a_41, ↓hp_s_41, ↓hp_l_41, ↓hp_a_42, ↓hp_s_42, ↓hp_l_42, ↓hp_a_43, ↓hp_s_43, ↓hp_l_43, ↓hp_a_44, ↓hp_s_44, ↓hp_l_44, ↓hp_a_45, ↓hp_s_45, ↓hp_l_45, ↓hp_a_46, ↓hp_s_46, ↓hp_l_46, ↓hp_a_47, ↓hp_s_47, ↓hp_l_47, ↓hp_a_48, ↓hp_s_48, ↓hp_l_48, ↓hp_a_49, ↓hp_s_49, ↓hp_l_49, ↓hp_a_50, ↓hp_s_50, ↓hp_l_50, hap, e_X12_in, f1, g1]
    · refine ⟨MI, MA, ML, ?_, hV, hP⟩
      show f_X12_gap sc (n + 40) 26 (iO (k : Int)) (iO (y : Int)) (iO i) (iO w) _ = _
      rw [if_neg (show ¬ (0 ≤ w ∧ w ≤ 2 ∧ 0 ≤ i ∧ i < ((gsts l y).1 : Int)) by omega), e_X12_gap]
      clear hV c4 hR
      by_cases t1 : w < 0
      · clear gw; simp (disch := (first | assumption | (unfold i32; omega) | (unfold i64; omega) | omega)) only [↓reduceIte, ki_0, ki_1, ki_2, ki_3, ki_4, ki_5, ki_6, ki_7, ki_8, ki_9, ki_10, ki_11, ki_12, ki_13, ki_14, ki_15, ki_20, ki_21, ki_30, ki_31, ki_40, ki_41, ki_50, ki_51, ki_60, ki_63, ki_64, ki_65, ki_100, ki_158, ki_160, ki_200, ki_212, ki_1000, ki_2000, ki_2001, ki_5000, ki_10000, ki_10001, ki_100000, ki_200000, ki_1000000, ki_2000000, ki_3000000, iO_neg, iO_add, iO_sub, iO_mul, kn_4, kn_8, kn_10, kn_20, kn_24, kn_40, kn_41, kn_50, kn_60, kn_158, kn_160, kn_200, kn_212, kn_2001, tn_lt, fn_lt, tn_le, fn_le, tn_eq, fn_eq, x_lt, x_le, x_eq, x_ix, x_nat, t_lt, f_lt, t_le, f_le, t_eq, f_eq, eq_self, and_self, true_and, and_true, false_and, and_false, if_true, if_false, Int.toNat_natCast, bI_s, bL_s, bA_s, bA_n, bV_s, mq_s, mq_n, en_le, bl_0, bl_1, u_eq, u_ne, w_eq, w_ne, v_eq, v_ne, ↓hp_cc_26, ↓hp_g_26_0, ↓hp_p_26_0, ↓hp_g_26_1, ↓hp_p_26_1, ↓hp_g_26_2, ↓hp_p_26_2, ↓hp_g_26_3, ↓hp_g_26_4, ↓hp_g_26_5, ↓hp_g_26_6, ↓hp_g_26_7, ↓hp_g_26_8, ↓hp_g_26_9, ↓hp_g_26_10, ↓hp_g_26_11, ↓hp_g_26_12, ↓hp_g_26_13, ↓hp_g_26_14, ↓hp_g_26_15, ↓hp_p_26_15, ↓hp_g_26_16, ↓hp_g_26_17, ↓hp_g_26_18, ↓hp_p_26_18, ↓hp_g_26_19, ↓hp_p_26_19, ↓hp_g_26_20, ↓hp_g_26_21, ↓hp_p_26_21, ↓hp_g_26_22, ↓hp_g_26_23, ↓hp_g_26_24, ↓hp_g_26_25, ↓hp_g_26_26, ↓hp_g_26_27, ↓hp_g_26_28, ↓hp_g_26_29, ↓hp_g_26_30, ↓hp_p_26_30, ↓hp_g_26_31, ↓hp_g_26_32, ↓hp_p_26_32, ↓hp_a_27, ↓hp_s_27, ↓hp_l_27, ↓hp_a_28, ↓hp_s_28, ↓hp_l_28, ↓hp_a_29, ↓hp_s_29, ↓hp_l_29, ↓hp_a_30, ↓hp_s_30, ↓hp_l_30, ↓hp_a_31, ↓hp_s_31, ↓hp_l_31, ↓hp_a_32, ↓hp_s_32, ↓hp_l_32, ↓hp_a_33, ↓hp_s_33, ↓hp_l_33, ↓hp_a_34, ↓hp_s_34, ↓hp_l_34, ↓hp_a_35, ↓hp_s_35, ↓hp_l_35, ↓hp_a_36, ↓hp_s_36, ↓hp_l_36, ↓hp_a_37, ↓hp_s_37, ↓hp_l_37, ↓hp_a_38, ↓hp_s_38, ↓hp_l_38, ↓hp_a_39, ↓hp_s_39, ↓hp_a_40, ↓hp_s_40, ↓hp_a_41, ↓hp_s_41, ↓hp_l_41, ↓hp_a_42, ↓hp_s_42, ↓hp_l_42, ↓hp_a_43, ↓hp_s_43, ↓hp_l_43, ↓hp_a_44, ↓hp_s_44, ↓hp_l_44, ↓hp_a_45, ↓hp_s_45, ↓hp_l_45, ↓hp_a_46, ↓hp_s_46, ↓hp_l_46, ↓hp_a_47, ↓hp_s_47, ↓hp_l_47, ↓hp_a_48, ↓hp_s_48, ↓hp_l_48, ↓hp_a_49, ↓hp_s_49, ↓hp_l_49, ↓hp_a_50, ↓hp_s_50, ↓hp_l_50, hap, e_X12_in]
      · have t2 : 2 < w := by omega
        clear gw; simp (disch := (first | assumption | (unfold i32; omega) | (unfold i64; omega) | omega)) only [↓reduceIte, ki_0, ki_1, ki_2, ki_3, ki_4, ki_5, ki_6, ki_7, ki_8, ki_9, ki_10, ki_11, ki_12, ki_13, ki_14, ki_15, ki_20, ki_21, ki_30, ki_31, ki_40, ki_41, ki_50, ki_51, ki_60, ki_63, ki_64, ki_65, ki_100, ki_158, ki_160, ki_200, ki_212, ki_1000, ki_2000, ki_2001, ki_5000, ki_10000, ki_10001, ki_100000, ki_200000, ki_1000000, ki_2000000, ki_3000000, iO_neg, iO_add, iO_sub, iO_mul, kn_4, kn_8, kn_10, kn_20, kn_24, kn_40, kn_41, kn_50, kn_60, kn_158, kn_160, kn_200, kn_212, kn_2001, tn_lt, fn_lt, tn_le, fn_le, tn_eq, fn_eq, x_lt, x_le, x_eq, x_ix, x_nat, t_lt, f_lt, t_le, f_le, t_eq, f_eq, eq_self, and_self, true_and, and_true, false_and, and_false, if_true, if_false, Int.toNat_natCast, bI_s, bL_s, bA_s, bA_n, bV_s, mq_s, mq_n, en_le, bl_0, bl_1, u_eq, u_ne, w_eq, w_ne, v_eq, v_ne, ↓hp_cc_26, ↓hp_g_26_0, ↓hp_p_26_0, ↓hp_g_26_1, ↓hp_p_26_1, ↓hp_g_26_2, ↓hp_p_26_2, ↓hp_g_26_3, ↓hp_g_26_4, ↓hp_g_26_5, ↓hp_g_26_6, ↓hp_g_26_7, ↓hp_g_26_8, ↓hp_g_26_9, ↓hp_g_26_10, ↓hp_g_26_11, ↓hp_g_26_12, ↓hp_g_26_13, ↓hp_g_26_14, ↓hp_g_26_15, ↓hp_p_26_15, ↓hp_g_26_16, ↓hp_g_26_17, ↓hp_g_26_18, ↓hp_p_26_18, ↓hp_g_26_19, ↓hp_p_26_19, ↓hp_g_26_20, ↓hp_g_26_21, ↓hp_p_26_21, ↓hp_g_26_22, ↓hp_g_26_23, ↓hp_g_26_24, ↓hp_g_26_25, ↓hp_g_26_26, ↓hp_g_26_27, ↓hp_g_26_28, ↓hp_g_26_29, ↓hp_g_26_30, ↓hp_p_26_30, ↓hp_g_26_31, ↓hp_g_26_32, ↓hp_p_26_32, ↓hp_a_27, ↓hp_s_27, ↓hp_l_27, ↓hp_a_28, ↓hp_s_28, ↓hp_l_28, ↓hp_a_29, ↓hp_s_29, ↓hp_l_29, ↓hp_a_30, ↓hp_s_30, ↓hp_l_30, ↓hp_a_31, ↓hp_s_31, ↓hp_l_31, ↓hp_a_32, ↓hp_s_32, ↓hp_l_32, ↓hp_a_33, ↓hp_s_33, ↓hp_l_33, ↓hp_a_34, ↓hp_s_34, ↓hp_l_34, ↓hp_a_35, ↓hp_s_35, ↓hp_l_35, ↓hp_a_36, ↓hp_s_36, ↓hp_l_36, ↓hp_a_37, ↓hp_s_37, ↓hp_l_37, ↓hp_a_38, ↓hp_s_38, ↓hp_l_38, ↓hp_a_39, ↓hp_s_39, ↓hp_a_40, ↓hp_s_40, ↓hp_a_41, ↓hp_s_41, ↓hp_l_41, ↓hp_a_42, ↓hp_s_42, ↓hp_l_42, ↓hp_a_43, ↓hp_s_43, ↓hp_l_43, ↓hp_a_44, ↓hp_s_44, ↓hp_l_44, ↓hp_a_45, ↓hp_s_45, ↓hp_l_45, ↓hp_a_46, ↓hp_s_46, ↓hp_l_46, ↓hp_a_47, ↓hp_s_47, ↓hp_l_47, ↓hp_a_48, ↓hp_s_48, ↓hp_l_48, ↓hp_a_49, ↓hp_s_49, ↓hp_l_49, ↓hp_a_50, ↓hp_s_50, ↓hp_l_50, hap, e_X12_in]
theorem mc_follows (hS : OK5 S) {r m i : Int} (hr : i32 r) (hm : i32 m) (hi : i32 i) : MC S S (p_follows S r m i) (fun z => f_X12_follows sc (n + 40) 26 (iO r) (iO m) (iO i) z) := by
  intro XI XA XP XC MI MA ML D hV hP
  have hap := m_arePoints (sc := sc) (n := n + 35) (XI := XI) (XA := XA) (XP := XP) (XC := XC) (ML := ML) (D := D) hV hS hr hm
  have h8 := hS.1
  have h10 := hS.2.1
  obtain ⟨i1, i2⟩ := id hi
  unfold p_follows
  cases hq : ptq S r m with
  | none =>
    rw [hq, Option.isSome_none, if_neg Bool.false_ne_true] at hap
    refine ⟨MI, MA, ML, ?_, hV, hP⟩
    show f_X12_follows sc (n + 40) 26 (iO r) (iO m) (iO i) _ = _
    rw [e_X12_follows]
    clear hV
    simp (disch := (first | assumption | (unfold i32; omega) | (unfold i64; omega) | omega)) only [↓reduceIte, ki_0, ki_1, ki_2, ki_3, ki_4, ki_5, ki_6, ki_7, ki_8, ki_9, ki_10, ki_11, ki_12, ki_13, ki_14, ki_15, ki_20, ki_21, ki_30, ki_31, ki_40, ki_41, ki_50, ki_51, ki_60, ki_63, ki_64, ki_65, ki_100, ki_158, ki_160, ki_200, ki_212, ki_1000, ki_2000, ki_2001, ki_5000, ki_10000, ki_10001, ki_100000, ki_200000, ki_1000000, ki_2000000, ki_3000000, iO_neg, iO_add, iO_sub, iO_mul, kn_4, kn_8, kn_10, kn_20, kn_24, kn_40, kn_41, kn_50, kn_60, kn_158, kn_160, kn_200, kn_212, kn_2001, tn_lt, fn_lt, tn_le, fn_le, tn_eq, fn_eq, x_lt, x_le, x_eq, x_ix, x_nat, t_lt, f_lt, t_le, f_le, t_eq, f_eq, eq_self, and_self, true_and, and_true, false_and, and_false, if_true, if_false, Int.toNat_natCast, bI_s, bL_s, bA_s, bA_n, bV_s, mq_s, mq_n, en_le, bl_0, bl_1, u_eq, u_ne, w_eq, w_ne, v_eq, v_ne, ↓hp_cc_26, ↓hp_g_26_0, ↓hp_p_26_0, ↓hp_g_26_1, ↓hp_p_26_1, ↓hp_g_26_2, ↓hp_p_26_2, ↓hp_g_26_3, ↓hp_g_26_4, ↓hp_g_26_5, ↓hp_g_26_6, ↓hp_g_26_7, ↓hp_g_26_8, ↓hp_g_26_9, ↓hp_g_26_10, ↓hp_g_26_11, ↓hp_g_26_12, ↓hp_g_26_13, ↓hp_g_26_14, ↓hp_g_26_15, ↓hp_p_26_15, ↓hp_g_26_16, ↓hp_g_26_17, ↓hp_g_26_18, ↓hp_p_26_18, ↓hp_g_26_19, ↓hp_p_26_19, ↓hp_g_26_20, ↓hp_g_26_21, ↓hp_p_26_21, ↓hp_g_26_22, ↓hp_g_26_23, ↓hp_g_26_24, ↓hp_g_26_25, ↓hp_g_26_26, ↓hp_g_26_27, ↓hp_g_26_28, ↓hp_g_26_29, ↓hp_g_26_30, ↓hp_p_26_30, ↓hp_g_26_31, ↓hp_g_26_32, ↓hp_p_26_32, ↓hp_a_27, ↓hp_s_27, ↓hp_l_27, ↓hp_a_28, ↓hp_s_28, ↓hp_l_28, ↓hp_a_29, ↓hp_s_29, ↓hp_l_29, ↓hp_a_30, ↓hp_s_30, ↓hp_l_30, ↓hp_a_31, ↓hp_s_31, ↓hp_l_31, ↓hp_a_32, ↓hp_s_32, ↓hp_l_32, ↓hp_a_33, ↓hp_s_33, ↓hp_l_33, ↓hp_a_34, ↓hp_s_34, ↓hp_l_34, ↓hp_a_35, ↓hp_s_35, ↓hp_l_35, ↓hp_a_36, ↓hp_s_36, ↓hp_l_36, ↓hp_a_37, ↓hp_s_37, ↓hp_l_37, ↓hp_a_38, ↓hp_s_38, ↓hp_l_38, ↓hp_a_39, ↓hp_s_39, ↓hp_a_40, ↓hp_s_40, ↓hp_a_41, ↓hp_s_41, ↓hp_l_41, ↓hp_a_42, ↓hp_s_42, ↓hp_l_42, ↓hp_a_43, ↓hp_s_43, ↓hp_l_43, ↓hp_a_44, ↓hp_s_44, ↓hp_l_44, ↓hp_a_45, ↓hp_s_45, ↓hp_l_45, ↓hp_a_46, ↓hp_s_46, ↓hp_l_46, ↓hp_a_47, ↓hp_s_47, ↓hp_l_47, ↓hp_a_48, ↓hp_s_48, ↓hp_l_48, ↓hp_a_49, ↓hp_s_49, ↓hp_l_49, ↓hp_a_50, ↓hp_s_50, ↓hp_l_50, hap]
  | some l =>
    rw [hq, Option.isSome_some, if_pos rfl] at hap
    obtain ⟨q, q1, q2, q3, q4, q5, q6⟩ := ptq_some hq
    obtain ⟨k, rfl, hk, hq2⟩ := rowq_some q1
    obtain ⟨c1, c2, c3, c4⟩ := hV.2.2.2.2.2.1 k q hq2
    have hR := hS.2.2.2.1 q (List.mem_of_getElem? hq2)
    have hs0 : 0 ≤ q.2.1 := (hR.2.2.2.2.2.2.1 q2).2
    have hs1 : q.2.1 < S.1.length := hR.2.2.2.1
    obtain ⟨s, hs⟩ : ∃ s : Nat, q.2.1 = s := ⟨q.2.1.toNat, by omega⟩
    have hss : q.2.1.toNat = s := by omega
    rw [hs] at c3
    rw [hss] at q5
    obtain ⟨y, rfl⟩ : ∃ y : Nat, m = y := ⟨m.toNat, by omega⟩
    dsimp only
    rw [Int.toNat_natCast]
    have hSL := hS.2.2.1 l (List.mem_of_getElem? q5)
    by_cases gi : 0 ≤ i ∧ i < (y : Int)
    · rw [if_pos gi]
      obtain ⟨gi1, gi2⟩ := gi
      obtain ⟨v, rfl⟩ : ∃ v : Nat, i = v := ⟨i.toNat, by omega⟩
      rw [Int.toNat_natCast]
      obtain ⟨MA1, f1, f2, f3, f4⟩ := m_rings (sc := sc) (d := n + 34) (XI := XI) (XA := XA) (XP := XP) (XC := XC) (MI := MI) (ML := ML) (D := D) (n := y) (by omega) hSL (by omega) y 0 MA (by omega) (hV.2.2.2.2.1 s l q5) (fun t ht => by omega) (fun t ht => by omega)
      have f1' : f_X12_rings sc (n + 39) 26 (iO (s : Int)) (iO (y : Int)) (hp XI XA XP XC MI MA ML D) = some (none, hp XI XA XP XC MI MA1 ML D) := (e_X12_rings _ _ _ _ _ _).trans f1
      have hfo := m_follows3 (sc := sc) (d := n + 39) (XI := XI) (XA := XA) (XP := XP) (XC := XC) (ML := ML) (D := D) (MI := MI) (l := l) (n := y) (by omega) f4 (a := v) (by omega) (inv (ords l y) v y) 0 (by omega)
      have hfo : b_X12_follows_3 sc (n + 39) 26 (iO (y : Int)) (iO (v : Int)) (iO 0) (hp XI XA XP XC MI MA1 ML D) = _ := hfo
      refine ⟨MI, MA1, ML, ?_, hV.scr (fun _ _ => rfl) (fun i hi => f2 i (by omega) (by omega)), pv_of hP rfl (f2 21 (by decide) (by decide))⟩
      show f_X12_follows sc (n + 40) 26 (iO (k : Int)) (iO (y : Int)) (iO (v : Int)) _ = _
      rw [e_X12_follows]
      clear hV c4 f1 f2 f3 f4 hR
      simp (disch := (first | assumption | (unfold i32; omega) | (unfold i64; omega) | omega)) only [↓reduceIte, ki_0, ki_1, ki_2, ki_3, ki_4, ki_5, ki_6, ki_7, ki_8, ki_9, ki_10, ki_11, ki_12, ki_13, ki_14, ki_15, ki_20, ki_21, ki_30, ki_31, ki_40, ki_41, ki_50, ki_51, ki_60, ki_63, ki_64, ki_65, ki_100, ki_158, ki_160, ki_200, ki_212, ki_1000, ki_2000, ki_2001, ki_5000, ki_10000, ki_10001, ki_100000, ki_200000, ki_1000000, ki_2000000, ki_3000000, iO_neg, iO_add, iO_sub, iO_mul, kn_4, kn_8, kn_10, kn_20, kn_24, kn_40, kn_41, kn_50, kn_60, kn_158, kn_160, kn_200, kn_212, kn_2001, tn_lt, fn_lt, tn_le, fn_le, tn_eq, fn_eq, x_lt, x_le, x_eq, x_ix, x_nat, t_lt, f_lt, t_le, f_le, t_eq, f_eq, eq_self, and_self, true_and, and_true, false_and, and_false, if_true, if_false, Int.toNat_natCast, bI_s, bL_s, bA_s, bA_n, bV_s, mq_s, mq_n, en_le, bl_0, bl_1, u_eq, u_ne, w_eq, w_ne, v_eq, v_ne, ↓hp_cc_26, ↓hp_g_26_0, ↓hp_p_26_0, ↓hp_g_26_1, ↓hp_p_26_1, ↓hp_g_26_2, ↓hp_p_26_2, ↓hp_g_26_3, ↓hp_g_26_4, ↓hp_g_26_5, ↓hp_g_26_6, ↓hp_g_26_7, ↓hp_g_26_8, ↓hp_g_26_9, ↓hp_g_26_10, ↓hp_g_26_11, ↓hp_g_26_12, ↓hp_g_26_13, ↓hp_g_26_14, ↓hp_g_26_15, ↓hp_p_26_15, ↓hp_g_26_16, ↓hp_g_26_17, ↓hp_g_26_18, ↓hp_p_26_18, ↓hp_g_26_19, ↓hp_p_26_19, ↓hp_g_26_20, ↓hp_g_26_21, ↓hp_p_26_21, ↓hp_g_26_22, ↓hp_g_26_23, ↓hp_g_26_24, ↓hp_g_26_25, ↓hp_g_26_26, ↓hp_g_26_27, ↓hp_g_26_28, ↓hp_g_26_29, ↓hp_g_26_30, ↓hp_p_26_30, ↓hp_g_26_31, ↓hp_g_26_32, ↓hp_p_26_32, ↓hp_a_27, ↓hp_s_27, ↓hp_l_27, ↓hp_a_28, ↓hp_s_28, ↓hp_l_28, ↓hp_a_29, ↓hp_s_29, ↓hp_l_29, ↓hp_a_30, ↓hp_s_30, ↓hp_l_30, ↓hp_a_31, ↓hp_s_31, ↓hp_l_31, ↓hp_a_32, ↓hp_s_32, ↓hp_l_32, ↓hp_a_33, ↓hp_s_33, ↓hp_l_33, ↓hp_a_34, ↓hp_s_34, ↓hp_l_34, ↓hp_a_35, ↓hp_s_35, ↓hp_l_35, ↓hp_a_36, ↓hp_s_36, ↓hp_l_36, ↓hp_a_37, ↓hp_s_37, ↓hp_l_37, ↓hp_a_38, ↓hp_s_38, ↓hp_l_38, ↓hp_a_39, ↓hp_s_39, ↓hp_a_40, ↓hp_s_40, ↓hp_a_41, ↓hp_s_41, ↓hp_l_41, ↓hp_a_42, ↓hp_s_42, ↓hp_l_42, ↓hp_a_43, ↓hp_s_43, ↓hp_l_43, ↓hp_a_44, ↓hp_s_44, ↓hp_l_44, ↓hp_a_45, ↓hp_s_45, ↓hp_l_45, ↓hp_a_46, ↓hp_s_46, ↓hp_l_46, ↓hp_a_47, ↓hp_s_47, ↓hp_l_47, ↓hp_a_48, ↓hp_s_48, ↓hp_l_48, ↓hp_a_49, ↓hp_s_49, ↓hp_l_49, ↓hp_a_50, ↓hp_s_50, ↓hp_l_50, hap, e_X12_in, c3, f1', hfo]
    · rw [if_neg gi]
      refine ⟨MI, MA, ML, ?_, hV, hP⟩
      show f_X12_follows sc (n + 40) 26 (iO (k : Int)) (iO (y : Int)) (iO i) _ = _
      rw [e_X12_follows]
      clear hV c4 hR
      by_cases t1 : i < 0
      · clear gi; simp (disch := (first | assumption | (unfold i32; omega) | (unfold i64; omega) | omega)) only [↓reduceIte, ki_0, ki_1, ki_2, ki_3, ki_4, ki_5, ki_6, ki_7, ki_8, ki_9, ki_10, ki_11, ki_12, ki_13, ki_14, ki_15, ki_20, ki_21, ki_30, ki_31, ki_40, ki_41, ki_50, ki_51, ki_60, ki_63, ki_64, ki_65, ki_100, ki_158, ki_160, ki_200, ki_212, ki_1000, ki_2000, ki_2001, ki_5000, ki_10000, ki_10001, ki_100000, ki_200000, ki_1000000, ki_2000000, ki_3000000, iO_neg, iO_add, iO_sub, iO_mul, kn_4, kn_8, kn_10, kn_20, kn_24, kn_40, kn_41, kn_50, kn_60, kn_158, kn_160, kn_200, kn_212, kn_2001, tn_lt, fn_lt, tn_le, fn_le, tn_eq, fn_eq, x_lt, x_le, x_eq, x_ix, x_nat, t_lt, f_lt, t_le, f_le, t_eq, f_eq, eq_self, and_self, true_and, and_true, false_and, and_false, if_true, if_false, Int.toNat_natCast, bI_s, bL_s, bA_s, bA_n, bV_s, mq_s, mq_n, en_le, bl_0, bl_1, u_eq, u_ne, w_eq, w_ne, v_eq, v_ne, ↓hp_cc_26, ↓hp_g_26_0, ↓hp_p_26_0, ↓hp_g_26_1, ↓hp_p_26_1, ↓hp_g_26_2, ↓hp_p_26_2, ↓hp_g_26_3, ↓hp_g_26_4, ↓hp_g_26_5, ↓hp_g_26_6, ↓hp_g_26_7, ↓hp_g_26_8, ↓hp_g_26_9, ↓hp_g_26_10, ↓hp_g_26_11, ↓hp_g_26_12, ↓hp_g_26_13, ↓hp_g_26_14, ↓hp_g_26_15, ↓hp_p_26_15, ↓hp_g_26_16, ↓hp_g_26_17, ↓hp_g_26_18, ↓hp_p_26_18, ↓hp_g_26_19, ↓hp_p_26_19, ↓hp_g_26_20, ↓hp_g_26_21, ↓hp_p_26_21, ↓hp_g_26_22, ↓hp_g_26_23, ↓hp_g_26_24, ↓hp_g_26_25, ↓hp_g_26_26, ↓hp_g_26_27, ↓hp_g_26_28, ↓hp_g_26_29, ↓hp_g_26_30, ↓hp_p_26_30, ↓hp_g_26_31, ↓hp_g_26_32, ↓hp_p_26_32, ↓hp_a_27, ↓hp_s_27, ↓hp_l_27, ↓hp_a_28, ↓hp_s_28, ↓hp_l_28, ↓hp_a_29, ↓hp_s_29, ↓hp_l_29, ↓hp_a_30, ↓hp_s_30, ↓hp_l_30, ↓hp_a_31, ↓hp_s_31, ↓hp_l_31, ↓hp_a_32, ↓hp_s_32, ↓hp_l_32, ↓hp_a_33, ↓hp_s_33, ↓hp_l_33, ↓hp_a_34, ↓hp_s_34, ↓hp_l_34, ↓hp_a_35, ↓hp_s_35, ↓hp_l_35, ↓hp_a_36, ↓hp_s_36, ↓hp_l_36, ↓hp_a_37, ↓hp_s_37, ↓hp_l_37, ↓hp_a_38, ↓hp_s_38, ↓hp_l_38, ↓hp_a_39, ↓hp_s_39, ↓hp_a_40, ↓hp_s_40, ↓hp_a_41, ↓hp_s_41, ↓hp_l_41, ↓hp_a_42, ↓hp_s_42, ↓hp_l_42, ↓hp_a_43, ↓hp_s_43, ↓hp_l_43, ↓hp_a_44, ↓hp_s_44, ↓hp_l_44, ↓hp_a_45, ↓hp_s_45, ↓hp_l_45, ↓hp_a_46, ↓hp_s_46, ↓hp_l_46, ↓hp_a_47, ↓hp_s_47, ↓hp_l_47, ↓hp_a_48, ↓hp_s_48, ↓hp_l_48, ↓hp_a_49, ↓hp_s_49, ↓hp_l_49, ↓hp_a_50, ↓hp_s_50, ↓hp_l_50, hap, e_X12_in]
      · have t2 : (y : Int) ≤ i := by omega
        clear gi; simp (disch := (first | assumption | (unfold i32; omega) | (unfold i64; omega) | omega)) only [↓reduceIte, ki_0, ki_1, ki_2, ki_3, ki_4, ki_5, ki_6, ki_7, ki_8, ki_9, ki_10, ki_11, ki_12, ki_13, ki_14, ki_15, ki_20, ki_21, ki_30, ki_31, ki_40, ki_41, ki_50, ki_51, ki_60, ki_63, ki_64, ki_65, ki_100, ki_158, ki_160, ki_200, ki_212, ki_1000, ki_2000, ki_2001, ki_5000, ki_10000, ki_10001, ki_100000, ki_200000, ki_1000000, ki_2000000, ki_3000000, iO_neg, iO_add, iO_sub, iO_mul, kn_4, kn_8, kn_10, kn_20, kn_24, kn_40, kn_41, kn_50, kn_60, kn_158, kn_160, kn_200, kn_212, kn_2001, tn_lt, fn_lt, tn_le, fn_le, tn_eq, fn_eq, x_lt, x_le, x_eq, x_ix, x_nat, t_lt, f_lt, t_le, f_le, t_eq, f_eq, eq_self, and_self, true_and, and_true, false_and, and_false, if_true, if_false, Int.toNat_natCast, bI_s, bL_s, bA_s, bA_n, bV_s, mq_s, mq_n, en_le, bl_0, bl_1, u_eq, u_ne, w_eq, w_ne, v_eq, v_ne, ↓hp_cc_26, ↓hp_g_26_0, ↓hp_p_26_0, ↓hp_g_26_1, ↓hp_p_26_1, ↓hp_g_26_2, ↓hp_p_26_2, ↓hp_g_26_3, ↓hp_g_26_4, ↓hp_g_26_5, ↓hp_g_26_6, ↓hp_g_26_7, ↓hp_g_26_8, ↓hp_g_26_9, ↓hp_g_26_10, ↓hp_g_26_11, ↓hp_g_26_12, ↓hp_g_26_13, ↓hp_g_26_14, ↓hp_g_26_15, ↓hp_p_26_15, ↓hp_g_26_16, ↓hp_g_26_17, ↓hp_g_26_18, ↓hp_p_26_18, ↓hp_g_26_19, ↓hp_p_26_19, ↓hp_g_26_20, ↓hp_g_26_21, ↓hp_p_26_21, ↓hp_g_26_22, ↓hp_g_26_23, ↓hp_g_26_24, ↓hp_g_26_25, ↓hp_g_26_26, ↓hp_g_26_27, ↓hp_g_26_28, ↓hp_g_26_29, ↓hp_g_26_30, ↓hp_p_26_30, ↓hp_g_26_31, ↓hp_g_26_32, ↓hp_p_26_32, ↓hp_a_27, ↓hp_s_27, ↓hp_l_27, ↓hp_a_28, ↓hp_s_28, ↓hp_l_28, ↓hp_a_29, ↓hp_s_29, ↓hp_l_29, ↓hp_a_30, ↓hp_s_30, ↓hp_l_30, ↓hp_a_31, ↓hp_s_31, ↓hp_l_31, ↓hp_a_32, ↓hp_s_32, ↓hp_l_32, ↓hp_a_33, ↓hp_s_33, ↓hp_l_33, ↓hp_a_34, ↓hp_s_34, ↓hp_l_34, ↓hp_a_35, ↓hp_s_35, ↓hp_l_35, ↓hp_a_36, ↓hp_s_36, ↓hp_l_36, ↓hp_a_37, ↓hp_s_37, ↓hp_l_37, ↓hp_a_38, ↓hp_s_38, ↓hp_l_38, ↓hp_a_39, ↓hp_s_39, ↓hp_a_40, ↓hp_s_40, ↓hp_a_41, ↓hp_s_41, ↓hp_l_41, ↓hp_a_42, ↓hp_s_42, ↓hp_l_42, ↓hp_a_43, ↓hp_s_43, ↓hp_l_43, ↓hp_a_44, ↓hp_s_44, ↓hp_l_44, ↓hp_a_45, ↓hp_s_45, ↓hp_l_45, ↓hp_a_46, ↓hp_s_46, ↓hp_l_46, ↓hp_a_47, ↓hp_s_47, ↓hp_l_47, ↓hp_a_48, ↓hp_s_48, ↓hp_l_48, ↓hp_a_49, ↓hp_s_49, ↓hp_l_49, ↓hp_a_50, ↓hp_s_50, ↓hp_l_50, hap, e_X12_in]
theorem x_layPoints (hS : OK5 S) {r m : Int} (hr : i32 r) (hm : i32 m) (XI : Nat → Int32) (XA : Nat → Nat → Int32) (XP : Nat → Nat → Option Nat) (XC : Value) (MI : Nat → Int32) (MA : Nat → Nat → Int32) (ML : Nat → Nat → Int64) (D : en_H) (Γ : Nat → Option GD) (hV : CV S Γ XI XA XP D) :
    (ptq S r m = none → f_X11_layPoints sc (n + 39) 1 (iO r) (iO m) (hp XI XA XP XC MI MA ML D) = some (some (.int (iO 0)), hp XI XA XP XC MI MA ML D)) ∧ (∀ l, ptq S r m = some l → ∃ XI' XA' XC', f_X11_layPoints sc (n + 39) 1 (iO r) (iO m) (hp XI XA XP XC MI MA ML D) = some (some (.int (iO 1)), hp XI' XA' XP XC' MI MA ML D) ∧ CV S Γ XI' XA' XP D ∧ GX (gsts l m.toNat) XI' XA' ∧ (∀ a, a < m.toNat → XA' 2 a = iO (nxt (ords l m.toNat) m.toNat a : Int))) := by
  obtain ⟨m1, m2⟩ := id hm
  have h8 := hS.1
  by_cases g0 : 1 ≤ m ∧ m ≤ 60
  · obtain ⟨g1, g2⟩ := g0
    cases hq : rowq S r with
    | none =>
      have hrow := x_rowAt0 (sc := sc) (n := n + 37) (XC := XC) (MI := MI) (MA := MA) (ML := ML) hV hS hr hq
      have hno : ptq S r m = none := by unfold ptq; rw [hq]
      refine ⟨fun _ => ?_, fun l h => by rw [hno] at h; cases h⟩
      rw [e_X11_layPoints]
      clear hV
      simp (disch := (first | assumption | (unfold i32; omega) | (unfold i64; omega) | omega)) only [↓reduceIte, ki_0, ki_1, ki_2, ki_3, ki_4, ki_5, ki_6, ki_7, ki_8, ki_9, ki_10, ki_11, ki_12, ki_13, ki_14, ki_15, ki_20, ki_21, ki_30, ki_31, ki_40, ki_41, ki_50, ki_51, ki_60, ki_63, ki_64, ki_65, ki_100, ki_158, ki_160, ki_200, ki_212, ki_1000, ki_2000, ki_2001, ki_5000, ki_10000, ki_10001, ki_100000, ki_200000, ki_1000000, ki_2000000, ki_3000000, iO_neg, iO_add, iO_sub, iO_mul, kn_4, kn_8, kn_10, kn_20, kn_24, kn_40, kn_41, kn_50, kn_60, kn_158, kn_160, kn_200, kn_212, kn_2001, tn_lt, fn_lt, tn_le, fn_le, tn_eq, fn_eq, x_lt, x_le, x_eq, x_ix, x_nat, t_lt, f_lt, t_le, f_le, t_eq, f_eq, eq_self, and_self, true_and, and_true, false_and, and_false, if_true, if_false, Int.toNat_natCast, bI_s, bL_s, bA_s, bA_n, bV_s, mq_s, mq_n, en_le, bl_0, bl_1, u_eq, u_ne, w_eq, w_ne, v_eq, v_ne, ↓hp_cc_1, ↓hp_g_1_0, ↓hp_g_1_1, ↓hp_g_1_2, ↓hp_g_1_3, ↓hp_g_1_4, ↓hp_g_1_5, ↓hp_g_1_6, ↓hp_g_1_7, ↓hp_g_1_8, ↓hp_p_1_8, ↓hp_g_1_9, ↓hp_p_1_9, ↓hp_g_1_10, ↓hp_p_1_10, ↓hp_a_2, ↓hp_n_2, ↓hp_a_3, ↓hp_n_3, ↓hp_a_4, hrow]
    | some q =>
      obtain ⟨k, rfl, hk, hq2⟩ := rowq_some hq
      have hR := hS.2.2.2.1 q (List.mem_of_getElem? hq2)
      obtain ⟨p, g, c1, c2, c3, c4, c5, c6, c7, c8, c9⟩ := hV.2.2.2.2.2.1 k q hq2
      have hrow := x_rowAt1 (sc := sc) (n := n + 37) (XC := XC) (MI := MI) (MA := MA) (ML := ML) hV hS hq2 c1
      have hrc := (hV.2.2.2.2.2.2.2.2 p g c2).2.2.2
      obtain ⟨h1, fs, h2⟩ := rc_cls hrc
      have hio : ∀ f0 f1 : Option en_R, en_io (hp XI XA XP XC MI MA ML D) (p + 51) [(1, 0), (2, 0), (3, 1), (4, 0), (8, 0)] f0 f1 = if q.1 = 4 then f1 else f0 := by
        intro f0 f1
        rw [d_io h2]
        rw [c3] at h1 ⊢
        rcases h1 with h | h | h | h | h <;> rw [h] <;> rfl
      by_cases g3 : q.1 = 4
      · have hio2 : ∀ f0 f1 : Option en_R, en_io (hp XI XA XP XC MI MA ML D) (p + 51) [(1, 0), (2, 0), (3, 1), (4, 0), (8, 0)] f0 f1 = f1 := fun f0 f1 => (hio f0 f1).trans (if_pos g3)
        have hl := c9 (Or.inr g3)
        rcases hrc with ⟨r0, -⟩ | ⟨r0, sp, u, v, r1, r2, r3, r4, r5, r6, r7, r8, r9, r10⟩ | ⟨r0, -⟩
        · omega
        · rw [c3, g3] at r1
          have r1 : en_nt D p = some (.inr (3, [.int (iO (g.2.1 : Nat)), .int (iO g.2.2.1), .ref (sp + 51), .int (iO g.2.2.2.1), .int (iO u), .int (iO v)])) := r1
          have hvt : ∀ f : Nat → Option en_R, en_vt (hp XI XA XP XC MI MA ML D) (p + 51) [(3, 1)] f = f 1 := fun f => by rw [d_vt r1]; rfl
          have g2' : ∀ (f0 : Option en_R) (f : Nat → Option en_R), en_gA (hp XI XA XP XC MI MA ML D) (p + 51) [(3, 0)] 2 f0 f = f (sp + 51) := fun f0 f => d_gA r1 rfl rfl f0 f
          obtain ⟨a, b, c, e, t, qs, ls, k1, k2, k3, hC, hE, hD, k4, k5, -⟩ := id r2
          have gc : ∀ (g : Nat → Option en_R), en_cc (hp XI XA XP XC MI MA ML D) (sp + 51) g = g 6 := fun g => d_cc k1 g
          have gb : ∀ (f : Int64 → Option en_R), en_gL (hp XI XA XP XC MI MA ML D) (sp + 51) [(6, 0)] 5 f = f (lO b) := fun f => d_gL k1 rfl rfl f
          have gcc : ∀ (f : Int64 → Option en_R), en_gL (hp XI XA XP XC MI MA ML D) (sp + 51) [(6, 0)] 6 f = f (lO c) := fun f => d_gL k1 rfl rfl f
          obtain ⟨x1, x2, x3, x4, x5, x6, x7, x8, -⟩ := id hC
          have hb0 : b = 0 ↔ g.2.2.2.2.2.2.2.1 = 0 := (hE.zero).symm
          have hun : f_X7_hasUnlikePoints sc (n + 38) (sp + 51) (iO m) (hp XI XA XP XC MI MA ML D) = some (some (.int (iO (if g.2.2.2.2.2.2.2.1 ≠ 0 ∨ m ≤ g.2.2.2.2.2.2.2.2.1 / (Int.gcd g.2.2.2.2.2.2.1 g.2.2.2.2.2.2.2.2.1 : Nat) then 1 else 0))), hp XI XA XP XC MI MA ML D) := by
            rw [e_X7_hasUnlikePoints]
            by_cases y1 : b = 0
            · rw [← k5 y1]
              by_cases y2 : m ≤ c
              · rw [if_pos (Or.inr y2)]
                simp (disch := (first | assumption | (unfold i32; omega) | (unfold i64; omega) | omega)) only [↓reduceIte, ki_0, ki_1, ki_2, ki_3, ki_4, ki_5, ki_6, ki_7, ki_8, ki_9, ki_10, ki_11, ki_12, ki_13, ki_14, ki_15, ki_20, ki_21, ki_30, ki_31, ki_40, ki_41, ki_50, ki_51, ki_60, ki_63, ki_64, ki_65, ki_100, ki_158, ki_160, ki_200, ki_212, ki_1000, ki_2000, ki_2001, ki_5000, ki_10000, ki_10001, ki_100000, ki_200000, ki_1000000, ki_2000000, ki_3000000, iO_neg, iO_add, iO_sub, iO_mul, kn_4, kn_8, kn_10, kn_20, kn_24, kn_40, kn_41, kn_50, kn_60, kn_158, kn_160, kn_200, kn_212, kn_2001, tn_lt, fn_lt, tn_le, fn_le, tn_eq, fn_eq, x_lt, x_le, x_eq, x_ix, x_nat, t_lt, f_lt, t_le, f_le, t_eq, f_eq, eq_self, and_self, true_and, and_true, false_and, and_false, if_true, if_false, Int.toNat_natCast, bI_s, bL_s, bA_s, bA_n, bV_s, mq_s, mq_n, en_le, bl_0, bl_1, u_eq, u_ne, w_eq, w_ne, v_eq, v_ne, gb, gcc, kl_0, lc_lt, lc_le, lc_gt, lc_ge, lc_eq, y_lt, y_le, y_eq, iO_wide]
              · rw [if_neg (by have := hb0.mp y1; omega)]
                simp (disch := (first | assumption | (unfold i32; omega) | (unfold i64; omega) | omega)) only [↓reduceIte, ki_0, ki_1, ki_2, ki_3, ki_4, ki_5, ki_6, ki_7, ki_8, ki_9, ki_10, ki_11, ki_12, ki_13, ki_14, ki_15, ki_20, ki_21, ki_30, ki_31, ki_40, ki_41, ki_50, ki_51, ki_60, ki_63, ki_64, ki_65, ki_100, ki_158, ki_160, ki_200, ki_212, ki_1000, ki_2000, ki_2001, ki_5000, ki_10000, ki_10001, ki_100000, ki_200000, ki_1000000, ki_2000000, ki_3000000, iO_neg, iO_add, iO_sub, iO_mul, kn_4, kn_8, kn_10, kn_20, kn_24, kn_40, kn_41, kn_50, kn_60, kn_158, kn_160, kn_200, kn_212, kn_2001, tn_lt, fn_lt, tn_le, fn_le, tn_eq, fn_eq, x_lt, x_le, x_eq, x_ix, x_nat, t_lt, f_lt, t_le, f_le, t_eq, f_eq, eq_self, and_self, true_and, and_true, false_and, and_false, if_true, if_false, Int.toNat_natCast, bI_s, bL_s, bA_s, bA_n, bV_s, mq_s, mq_n, en_le, bl_0, bl_1, u_eq, u_ne, w_eq, w_ne, v_eq, v_ne, gb, gcc, kl_0, lc_lt, lc_le, lc_gt, lc_ge, lc_eq, y_lt, y_le, y_eq, iO_wide]
            · rw [if_pos (Or.inl (fun q => y1 (hb0.mpr q)))]
              simp (disch := (first | assumption | (unfold i32; omega) | (unfold i64; omega) | omega)) only [↓reduceIte, ki_0, ki_1, ki_2, ki_3, ki_4, ki_5, ki_6, ki_7, ki_8, ki_9, ki_10, ki_11, ki_12, ki_13, ki_14, ki_15, ki_20, ki_21, ki_30, ki_31, ki_40, ki_41, ki_50, ki_51, ki_60, ki_63, ki_64, ki_65, ki_100, ki_158, ki_160, ki_200, ki_212, ki_1000, ki_2000, ki_2001, ki_5000, ki_10000, ki_10001, ki_100000, ki_200000, ki_1000000, ki_2000000, ki_3000000, iO_neg, iO_add, iO_sub, iO_mul, kn_4, kn_8, kn_10, kn_20, kn_24, kn_40, kn_41, kn_50, kn_60, kn_158, kn_160, kn_200, kn_212, kn_2001, tn_lt, fn_lt, tn_le, fn_le, tn_eq, fn_eq, x_lt, x_le, x_eq, x_ix, x_nat, t_lt, f_lt, t_le, f_le, t_eq, f_eq, eq_self, and_self, true_and, and_true, false_and, and_false, if_true, if_false, Int.toNat_natCast, bI_s, bL_s, bA_s, bA_n, bV_s, mq_s, mq_n, en_le, bl_0, bl_1, u_eq, u_ne, w_eq, w_ne, v_eq, v_ne, gb, kl_0, lc_lt, lc_le, lc_gt, lc_ge, lc_eq, y_lt, y_le, y_eq]
          have hpt : ptq S (k : Int) m = if g.2.2.2.2.2.2.2.1 ≠ 0 ∨ m ≤ g.2.2.2.2.2.2.2.2.1 / (Int.gcd g.2.2.2.2.2.2.1 g.2.2.2.2.2.2.2.2.1 : Nat) then some g.2.2.2.2.2.2 else none := by
            unfold ptq
            rw [hq]
            dsimp only
            rw [if_pos ⟨g3, g1, g2⟩, hl]
          obtain ⟨y, rfl⟩ : ∃ y : Nat, m = y := ⟨m.toNat, by omega⟩
          by_cases yy : g.2.2.2.2.2.2.2.1 ≠ 0 ∨ (y : Int) ≤ g.2.2.2.2.2.2.2.2.1 / (Int.gcd g.2.2.2.2.2.2.1 g.2.2.2.2.2.2.2.2.1 : Nat)
          · rw [if_pos yy] at hun hpt
            refine ⟨(fun h => by rw [hpt] at h; cases h), fun l h => ?_⟩
            rw [hpt] at h
            cases h
            obtain ⟨XI', XA', f1, f2, f3, f4, f5⟩ := x_lay (sc := sc) (d := n + 32) (XP := XP) (MI := MI) (MA := MA) (ML := ML) r2 r3 (n := y) (by omega) (by omega) XI XA XC
            rw [Int.toNat_natCast]
            refine ⟨XI', XA', .ref (sp + 51), ?_, hV.scr (fun i hi => f4 i (by omega)) (fun i hi => f5 i (by omega)), f2, f3⟩
            rw [e_X11_layPoints]
            clear hV f2 f3 f4 f5 h1 hio yy hpt hb0 k2 k3
            simp (disch := (first | assumption | (unfold i32; omega) | (unfold i64; omega) | omega)) only [↓reduceIte, ki_0, ki_1, ki_2, ki_3, ki_4, ki_5, ki_6, ki_7, ki_8, ki_9, ki_10, ki_11, ki_12, ki_13, ki_14, ki_15, ki_20, ki_21, ki_30, ki_31, ki_40, ki_41, ki_50, ki_51, ki_60, ki_63, ki_64, ki_65, ki_100, ki_158, ki_160, ki_200, ki_212, ki_1000, ki_2000, ki_2001, ki_5000, ki_10000, ki_10001, ki_100000, ki_200000, ki_1000000, ki_2000000, ki_3000000, iO_neg, iO_add, iO_sub, iO_mul, kn_4, kn_8, kn_10, kn_20, kn_24, kn_40, kn_41, kn_50, kn_60, kn_158, kn_160, kn_200, kn_212, kn_2001, tn_lt, fn_lt, tn_le, fn_le, tn_eq, fn_eq, x_lt, x_le, x_eq, x_ix, x_nat, t_lt, f_lt, t_le, f_le, t_eq, f_eq, eq_self, and_self, true_and, and_true, false_and, and_false, if_true, if_false, Int.toNat_natCast, bI_s, bL_s, bA_s, bA_n, bV_s, mq_s, mq_n, en_le, bl_0, bl_1, u_eq, u_ne, w_eq, w_ne, v_eq, v_ne, ↓hp_cc_1, ↓hp_g_1_0, ↓hp_g_1_1, ↓hp_g_1_2, ↓hp_g_1_3, ↓hp_g_1_4, ↓hp_g_1_5, ↓hp_g_1_6, ↓hp_g_1_7, ↓hp_g_1_8, ↓hp_p_1_8, ↓hp_g_1_9, ↓hp_p_1_9, ↓hp_g_1_10, ↓hp_p_1_10, ↓hp_a_2, ↓hp_n_2, ↓hp_a_3, ↓hp_n_3, ↓hp_a_4, ↓hp_cc_9, ↓hp_g_9_0, ↓hp_g_9_1, ↓hp_g_9_2, ↓hp_g_9_3, ↓hp_g_9_4, ↓hp_p_9_4, ↓hp_g_9_5, ↓hp_g_9_6, ↓hp_p_9_7, ↓hp_g_9_7, ↓hp_a_10, ↓hp_s_10, ↓hp_l_10, ↓hp_a_11, ↓hp_s_11, ↓hp_l_11, ↓hp_a_12, ↓hp_s_12, ↓hp_l_12, ↓hp_a_13, ↓hp_s_13, ↓hp_l_13, ↓hp_a_14, ↓hp_s_14, ↓hp_l_14, ↓hp_a_15, ↓hp_s_15, ↓hp_l_15, hrow, hio2, hvt, g2', gc, hun, f1]
          · rw [if_neg yy] at hun hpt
            refine ⟨fun _ => ?_, fun l h => by rw [hpt] at h; cases h⟩
            rw [e_X11_layPoints]
            clear hV h1 hio yy hpt hb0 k2 k3
            simp (disch := (first | assumption | (unfold i32; omega) | (unfold i64; omega) | omega)) only [↓reduceIte, ki_0, ki_1, ki_2, ki_3, ki_4, ki_5, ki_6, ki_7, ki_8, ki_9, ki_10, ki_11, ki_12, ki_13, ki_14, ki_15, ki_20, ki_21, ki_30, ki_31, ki_40, ki_41, ki_50, ki_51, ki_60, ki_63, ki_64, ki_65, ki_100, ki_158, ki_160, ki_200, ki_212, ki_1000, ki_2000, ki_2001, ki_5000, ki_10000, ki_10001, ki_100000, ki_200000, ki_1000000, ki_2000000, ki_3000000, iO_neg, iO_add, iO_sub, iO_mul, kn_4, kn_8, kn_10, kn_20, kn_24, kn_40, kn_41, kn_50, kn_60, kn_158, kn_160, kn_200, kn_212, kn_2001, tn_lt, fn_lt, tn_le, fn_le, tn_eq, fn_eq, x_lt, x_le, x_eq, x_ix, x_nat, t_lt, f_lt, t_le, f_le, t_eq, f_eq, eq_self, and_self, true_and, and_true, false_and, and_false, if_true, if_false, Int.toNat_natCast, bI_s, bL_s, bA_s, bA_n, bV_s, mq_s, mq_n, en_le, bl_0, bl_1, u_eq, u_ne, w_eq, w_ne, v_eq, v_ne, ↓hp_cc_1, ↓hp_g_1_0, ↓hp_g_1_1, ↓hp_g_1_2, ↓hp_g_1_3, ↓hp_g_1_4, ↓hp_g_1_5, ↓hp_g_1_6, ↓hp_g_1_7, ↓hp_g_1_8, ↓hp_p_1_8, ↓hp_g_1_9, ↓hp_p_1_9, ↓hp_g_1_10, ↓hp_p_1_10, ↓hp_a_2, ↓hp_n_2, ↓hp_a_3, ↓hp_n_3, ↓hp_a_4, ↓hp_cc_9, ↓hp_g_9_0, ↓hp_g_9_1, ↓hp_g_9_2, ↓hp_g_9_3, ↓hp_g_9_4, ↓hp_p_9_4, ↓hp_g_9_5, ↓hp_g_9_6, ↓hp_p_9_7, ↓hp_g_9_7, ↓hp_a_10, ↓hp_s_10, ↓hp_l_10, ↓hp_a_11, ↓hp_s_11, ↓hp_l_11, ↓hp_a_12, ↓hp_s_12, ↓hp_l_12, ↓hp_a_13, ↓hp_s_13, ↓hp_l_13, ↓hp_a_14, ↓hp_s_14, ↓hp_l_14, ↓hp_a_15, ↓hp_s_15, ↓hp_l_15, hrow, hio2, hvt, g2', gc, hun]
        · omega
      · have hio2 : ∀ f0 f1 : Option en_R, en_io (hp XI XA XP XC MI MA ML D) (p + 51) [(1, 0), (2, 0), (3, 1), (4, 0), (8, 0)] f0 f1 = f0 := fun f0 f1 => (hio f0 f1).trans (if_neg g3)
        have hno : ptq S (k : Int) m = none := by
          unfold ptq
          rw [hq]
          dsimp only
          rw [if_neg (by omega)]
        refine ⟨fun _ => ?_, fun l h => by rw [hno] at h; cases h⟩
        rw [e_X11_layPoints]
        clear hV hrc h1 hio
        simp (disch := (first | assumption | (unfold i32; omega) | (unfold i64; omega) | omega)) only [↓reduceIte, ki_0, ki_1, ki_2, ki_3, ki_4, ki_5, ki_6, ki_7, ki_8, ki_9, ki_10, ki_11, ki_12, ki_13, ki_14, ki_15, ki_20, ki_21, ki_30, ki_31, ki_40, ki_41, ki_50, ki_51, ki_60, ki_63, ki_64, ki_65, ki_100, ki_158, ki_160, ki_200, ki_212, ki_1000, ki_2000, ki_2001, ki_5000, ki_10000, ki_10001, ki_100000, ki_200000, ki_1000000, ki_2000000, ki_3000000, iO_neg, iO_add, iO_sub, iO_mul, kn_4, kn_8, kn_10, kn_20, kn_24, kn_40, kn_41, kn_50, kn_60, kn_158, kn_160, kn_200, kn_212, kn_2001, tn_lt, fn_lt, tn_le, fn_le, tn_eq, fn_eq, x_lt, x_le, x_eq, x_ix, x_nat, t_lt, f_lt, t_le, f_le, t_eq, f_eq, eq_self, and_self, true_and, and_true, false_and, and_false, if_true, if_false, Int.toNat_natCast, bI_s, bL_s, bA_s, bA_n, bV_s, mq_s, mq_n, en_le, bl_0, bl_1, u_eq, u_ne, w_eq, w_ne, v_eq, v_ne, ↓hp_cc_1, ↓hp_g_1_0, ↓hp_g_1_1, ↓hp_g_1_2, ↓hp_g_1_3, ↓hp_g_1_4, ↓hp_g_1_5, ↓hp_g_1_6, ↓hp_g_1_7, ↓hp_g_1_8, ↓hp_p_1_8, ↓hp_g_1_9, ↓hp_p_1_9, ↓hp_g_1_10, ↓hp_p_1_10, ↓hp_a_2, ↓hp_n_2, ↓hp_a_3, ↓hp_n_3, ↓hp_a_4, hrow, hio2]
  · have hno : ptq S r m = none := by
      unfold ptq
      cases rowq S r with
      | none => rfl
      | some q => dsimp only; rw [if_neg (by omega)]
    refine ⟨fun _ => ?_, fun l h => by rw [hno] at h; cases h⟩
    rw [e_X11_layPoints]
    clear hV hno
    by_cases t1 : m < 1
    · clear g0; simp (disch := (first | assumption | (unfold i32; omega) | (unfold i64; omega) | omega)) only [↓reduceIte, ki_0, ki_1, ki_2, ki_3, ki_4, ki_5, ki_6, ki_7, ki_8, ki_9, ki_10, ki_11, ki_12, ki_13, ki_14, ki_15, ki_20, ki_21, ki_30, ki_31, ki_40, ki_41, ki_50, ki_51, ki_60, ki_63, ki_64, ki_65, ki_100, ki_158, ki_160, ki_200, ki_212, ki_1000, ki_2000, ki_2001, ki_5000, ki_10000, ki_10001, ki_100000, ki_200000, ki_1000000, ki_2000000, ki_3000000, iO_neg, iO_add, iO_sub, iO_mul, kn_4, kn_8, kn_10, kn_20, kn_24, kn_40, kn_41, kn_50, kn_60, kn_158, kn_160, kn_200, kn_212, kn_2001, tn_lt, fn_lt, tn_le, fn_le, tn_eq, fn_eq, x_lt, x_le, x_eq, x_ix, x_nat, t_lt, f_lt, t_le, f_le, t_eq, f_eq, eq_self, and_self, true_and, and_true, false_and, and_false, if_true, if_false, Int.toNat_natCast, bI_s, bL_s, bA_s, bA_n, bV_s, mq_s, mq_n, en_le, bl_0, bl_1, u_eq, u_ne, w_eq, w_ne, v_eq, v_ne]
    · have t2 : 60 < m := by omega
      clear g0; simp (disch := (first | assumption | (unfold i32; omega) | (unfold i64; omega) | omega)) only [↓reduceIte, ki_0, ki_1, ki_2, ki_3, ki_4, ki_5, ki_6, ki_7, ki_8, ki_9, ki_10, ki_11, ki_12, ki_13, ki_14, ki_15, ki_20, ki_21, ki_30, ki_31, ki_40, ki_41, ki_50, ki_51, ki_60, ki_63, ki_64, ki_65, ki_100, ki_158, ki_160, ki_200, ki_212, ki_1000, ki_2000, ki_2001, ki_5000, ki_10000, ki_10001, ki_100000, ki_200000, ki_1000000, ki_2000000, ki_3000000, iO_neg, iO_add, iO_sub, iO_mul, kn_4, kn_8, kn_10, kn_20, kn_24, kn_40, kn_41, kn_50, kn_60, kn_158, kn_160, kn_200, kn_212, kn_2001, tn_lt, fn_lt, tn_le, fn_le, tn_eq, fn_eq, x_lt, x_le, x_eq, x_ix, x_nat, t_lt, f_lt, t_le, f_le, t_eq, f_eq, eq_self, and_self, true_and, and_true, false_and, and_false, if_true, if_false, Int.toNat_natCast, bI_s, bL_s, bA_s, bA_n, bV_s, mq_s, mq_n, en_le, bl_0, bl_1, u_eq, u_ne, w_eq, w_ne, v_eq, v_ne]
theorem cs_gaps (hS : OK5 S) {r m : Int} (hr : i32 r) (hm : i32 m) : CS S S (p_gaps S r m) (fun z => f_X11_gaps sc (n + 40) 1 (iO r) (iO m) z) := by
  intro XI XA XP XC MI MA ML D Γ hV
  obtain ⟨l0, l1⟩ := x_layPoints (sc := sc) (n := n) hS hr hm XI XA XP XC MI MA ML D Γ hV
  unfold p_gaps
  cases hq : ptq S r m with
  | none =>
    have h0 := l0 hq
    refine ⟨XI, XA, XP, XC, D, Γ, ?_, hV, GR.rfl'⟩
    show f_X11_gaps sc (n + 40) 1 (iO r) (iO m) _ = _
    rw [e_X11_gaps]
    clear hV l0 l1
    simp (disch := (first | assumption | (unfold i32; omega) | (unfold i64; omega) | omega)) only [↓reduceIte, ki_0, ki_1, ki_2, ki_3, ki_4, ki_5, ki_6, ki_7, ki_8, ki_9, ki_10, ki_11, ki_12, ki_13, ki_14, ki_15, ki_20, ki_21, ki_30, ki_31, ki_40, ki_41, ki_50, ki_51, ki_60, ki_63, ki_64, ki_65, ki_100, ki_158, ki_160, ki_200, ki_212, ki_1000, ki_2000, ki_2001, ki_5000, ki_10000, ki_10001, ki_100000, ki_200000, ki_1000000, ki_2000000, ki_3000000, iO_neg, iO_add, iO_sub, iO_mul, kn_4, kn_8, kn_10, kn_20, kn_24, kn_40, kn_41, kn_50, kn_60, kn_158, kn_160, kn_200, kn_212, kn_2001, tn_lt, fn_lt, tn_le, fn_le, tn_eq, fn_eq, x_lt, x_le, x_eq, x_ix, x_nat, t_lt, f_lt, t_le, f_le, t_eq, f_eq, eq_self, and_self, true_and, and_true, false_and, and_false, if_true, if_false, Int.toNat_natCast, bI_s, bL_s, bA_s, bA_n, bV_s, mq_s, mq_n, en_le, bl_0, bl_1, u_eq, u_ne, w_eq, w_ne, v_eq, v_ne, ↓hp_cc_1, ↓hp_g_1_0, ↓hp_g_1_1, ↓hp_g_1_2, ↓hp_g_1_3, ↓hp_g_1_4, ↓hp_g_1_5, ↓hp_g_1_6, ↓hp_g_1_7, ↓hp_g_1_8, ↓hp_p_1_8, ↓hp_g_1_9, ↓hp_p_1_9, ↓hp_g_1_10, ↓hp_p_1_10, ↓hp_a_2, ↓hp_n_2, ↓hp_a_3, ↓hp_n_3, ↓hp_a_4, h0]
  | some l =>
    obtain ⟨XI', XA', XC', h1, h2, h3, h4⟩ := l1 l hq
    refine ⟨XI', XA', XP, XC', D, Γ, ?_, h2, GR.rfl'⟩
    show f_X11_gaps sc (n + 40) 1 (iO r) (iO m) _ = _
    rw [e_X11_gaps]
    have h5 := h3.1
    clear hV l0 l1 h2 h3 h4
    simp (disch := (first | assumption | (unfold i32; omega) | (unfold i64; omega) | omega)) only [↓reduceIte, ki_0, ki_1, ki_2, ki_3, ki_4, ki_5, ki_6, ki_7, ki_8, ki_9, ki_10, ki_11, ki_12, ki_13, ki_14, ki_15, ki_20, ki_21, ki_30, ki_31, ki_40, ki_41, ki_50, ki_51, ki_60, ki_63, ki_64, ki_65, ki_100, ki_158, ki_160, ki_200, ki_212, ki_1000, ki_2000, ki_2001, ki_5000, ki_10000, ki_10001, ki_100000, ki_200000, ki_1000000, ki_2000000, ki_3000000, iO_neg, iO_add, iO_sub, iO_mul, kn_4, kn_8, kn_10, kn_20, kn_24, kn_40, kn_41, kn_50, kn_60, kn_158, kn_160, kn_200, kn_212, kn_2001, tn_lt, fn_lt, tn_le, fn_le, tn_eq, fn_eq, x_lt, x_le, x_eq, x_ix, x_nat, t_lt, f_lt, t_le, f_le, t_eq, f_eq, eq_self, and_self, true_and, and_true, false_and, and_false, if_true, if_false, Int.toNat_natCast, bI_s, bL_s, bA_s, bA_n, bV_s, mq_s, mq_n, en_le, bl_0, bl_1, u_eq, u_ne, w_eq, w_ne, v_eq, v_ne, ↓hp_cc_1, ↓hp_g_1_0, ↓hp_g_1_1, ↓hp_g_1_2, ↓hp_g_1_3, ↓hp_g_1_4, ↓hp_g_1_5, ↓hp_g_1_6, ↓hp_g_1_7, ↓hp_g_1_8, ↓hp_p_1_8, ↓hp_g_1_9, ↓hp_p_1_9, ↓hp_g_1_10, ↓hp_p_1_10, ↓hp_a_2, ↓hp_n_2, ↓hp_a_3, ↓hp_n_3, ↓hp_a_4, ↓hp_cc_9, ↓hp_g_9_0, ↓hp_g_9_1, ↓hp_g_9_2, ↓hp_g_9_3, ↓hp_g_9_4, ↓hp_p_9_4, ↓hp_g_9_5, ↓hp_g_9_6, ↓hp_p_9_7, ↓hp_g_9_7, ↓hp_a_10, ↓hp_s_10, ↓hp_l_10, ↓hp_a_11, ↓hp_s_11, ↓hp_l_11, ↓hp_a_12, ↓hp_s_12, ↓hp_l_12, ↓hp_a_13, ↓hp_s_13, ↓hp_l_13, ↓hp_a_14, ↓hp_s_14, ↓hp_l_14, ↓hp_a_15, ↓hp_s_15, ↓hp_l_15, h1, h5]
theorem cs_gap (hS : OK5 S) {r m i w : Int} (hr : i32 r) (hm : i32 m) (hi : i32 i) (hw : i32 w) : CS S S (p_gap S r m i w) (fun z => f_X11_gap sc (n + 40) 1 (iO r) (iO m) (iO i) (iO w) z) := by
  intro XI XA XP XC MI MA ML D Γ hV
  obtain ⟨i1, i2⟩ := id hi
  obtain ⟨w1, w2⟩ := id hw
  obtain ⟨l0, l1⟩ := x_layPoints (sc := sc) (n := n) hS hr hm XI XA XP XC MI MA ML D Γ hV
  unfold p_gap
  cases hq : ptq S r m with
  | none =>
    have h0 := l0 hq
    refine ⟨XI, XA, XP, XC, D, Γ, ?_, hV, GR.rfl'⟩
    show f_X11_gap sc (n + 40) 1 (iO r) (iO m) (iO i) (iO w) _ = _
    rw [e_X11_gap]
    clear hV l0 l1
    simp (disch := (first | assumption | (unfold i32; omega) | (unfold i64; omega) | omega)) only [↓reduceIte, ki_0, ki_1, ki_2, ki_3, ki_4, ki_5, ki_6, ki_7, ki_8, ki_9, ki_10, ki_11, ki_12, ki_13, ki_14, ki_15, ki_20, ki_21, ki_30, ki_31, ki_40, ki_41, ki_50, ki_51, ki_60, ki_63, ki_64, ki_65, ki_100, ki_158, ki_160, ki_200, ki_212, ki_1000, ki_2000, ki_2001, ki_5000, ki_10000, ki_10001, ki_100000, ki_200000, ki_1000000, ki_2000000, ki_3000000, iO_neg, iO_add, iO_sub, iO_mul, kn_4, kn_8, kn_10, kn_20, kn_24, kn_40, kn_41, kn_50, kn_60, kn_158, kn_160, kn_200, kn_212, kn_2001, tn_lt, fn_lt, tn_le, fn_le, tn_eq, fn_eq, x_lt, x_le, x_eq, x_ix, x_nat, t_lt, f_lt, t_le, f_le, t_eq, f_eq, eq_self, and_self, true_and, and_true, false_and, and_false, if_true, if_false, Int.toNat_natCast, bI_s, bL_s, bA_s, bA_n, bV_s, mq_s, mq_n, en_le, bl_0, bl_1, u_eq, u_ne, w_eq, w_ne, v_eq, v_ne, ↓hp_cc_1, ↓hp_g_1_0, ↓hp_g_1_1, ↓hp_g_1_2, ↓hp_g_1_3, ↓hp_g_1_4, ↓hp_g_1_5, ↓hp_g_1_6, ↓hp_g_1_7, ↓hp_g_1_8, ↓hp_p_1_8, ↓hp_g_1_9, ↓hp_p_1_9, ↓hp_g_1_10, ↓hp_p_1_10, ↓hp_a_2, ↓hp_n_2, ↓hp_a_3, ↓hp_n_3, ↓hp_a_4, h0]
  | some l =>
    obtain ⟨XI', XA', XC', h1, h2, h3, h4⟩ := l1 l hq
    refine ⟨XI', XA', XP, XC', D, Γ, ?_, h2, GR.rfl'⟩
    show f_X11_gap sc (n + 40) 1 (iO r) (iO m) (iO i) (iO w) _ = _
    rw [e_X11_gap]
    obtain ⟨q, q1, q2, q3, q4, q5, q6⟩ := ptq_some hq
    have hSL := hS.2.2.1 l (List.mem_of_getElem? q5)
    have hB := gst_bd (l := l) (gx := gxf l m.toNat) (gy := gyf l m.toNat) (n := m.toNat) (fun i hi => by obtain ⟨q1, q2, q3, q4, -⟩ := gf_bd hSL (by omega) hi; exact ⟨q1, q2, q3, q4⟩) m.toNat (Nat.le_refl _)
    have hB : GB (gsts l m.toNat) m.toNat := hB
    have hk60 : (gsts l m.toNat).1 ≤ 60 := by have := hB.1; omega
    dsimp only
    obtain ⟨h5, h6⟩ := h3
    generalize gsts l m.toNat = st at *
    by_cases gi : 0 ≤ i ∧ i < (st.1 : Int)
    · obtain ⟨gi1, gi2⟩ := gi
      obtain ⟨v, rfl⟩ : ∃ v : Nat, i = v := ⟨i.toNat, by omega⟩
      rw [Int.toNat_natCast]
      obtain ⟨t1, t2, t3⟩ := h6 v (by omega)
      clear hV l0 l1 h2 h4 h6 hB
      by_cases gw : 0 ≤ w ∧ w ≤ 2
      · rw [if_pos ⟨gw.1, gw.2, gi1, gi2⟩]
        rcases (show w = 0 ∨ w = 1 ∨ w = 2 by omega) with rfl | rfl | rfl
        · simp (disch := (first | assumption | (unfold i32; omega) | (unfold i64; omega) | omega)) only [↓reduceIte, ki_0, ki_1, ki_2, ki_3, ki_4, ki_5, ki_6, ki_7, ki_8, ki_9, ki_10, ki_11, ki_12, ki_13, ki_14, ki_15, ki_20, ki_21, ki_30, ki_31, ki_40, ki_41, ki_50, ki_51, ki_60, ki_63, ki_64, ki_65, ki_100, ki_158, ki_160, ki_200, ki_212, ki_1000, ki_2000, ki_2001, ki_5000, ki_10000, ki_10001, ki_100000, ki_200000, ki_1000000, ki_2000000, ki_3000000, iO_neg, iO_add, iO_sub, iO_mul, kn_4, kn_8, kn_10, kn_20, kn_24, kn_40, kn_41, kn_50, kn_60, kn_158, kn_160, kn_200, kn_212, kn_2001, tn_lt, fn_lt, tn_le, fn_le, tn_eq, fn_eq, x_lt, x_le, x_eq, x_ix, x_nat, t_lt, f_lt, t_le, f_le, t_eq, f_eq, eq_self, and_self, true_and, and_true, false_and, and_false, if_true, if_false, Int.toNat_natCast, bI_s, bL_s, bA_s, bA_n, bV_s, mq_s, mq_n, en_le, bl_0, bl_1, u_eq, u_ne, w_eq, w_ne, v_eq, v_ne, ↓hp_cc_1, ↓hp_g_1_0, ↓hp_g_1_1, ↓hp_g_1_2, ↓hp_g_1_3, ↓hp_g_1_4, ↓hp_g_1_5, ↓hp_g_1_6, ↓hp_g_1_7, ↓hp_g_1_8, ↓hp_p_1_8, ↓hp_g_1_9, ↓hp_p_1_9, ↓hp_g_1_10, ↓hp_p_1_10, ↓hp_a_2, ↓hp_n_2, ↓hp_a_3, ↓hp_n_3, ↓hp_a_4, ↓hp_cc_9, ↓hp_g_9_0, ↓hp_g_9_1, ↓hp_g_9_2, ↓hp_g_9_3, ↓hp_g_9_4, ↓hp_p_9_4, ↓hp_g_9_5, ↓hp_g_9_6, ↓hp_p_9_7, ↓hp_g_9_7, ↓hp_a_10, ↓hp_s_10, ↓hp_l_10, ↓hp_a_11, ↓hp_s_11, ↓hp_l_11, ↓hp_a_12, ↓hp_s_12, ↓hp_l_12, ↓hp_a_13, ↓hp_s_13, ↓hp_l_13, ↓hp_a_14, ↓hp_s_14, ↓hp_l_14, ↓hp_a_15, ↓hp_s_15, ↓hp_l_15, h1, h5, t1]
        · simp (disch := (first | assumption | (unfold i32; omega) | (unfold i64; omega) | omega)) only [↓reduceIte, ki_0, ki_1, ki_2, ki_3, ki_4, ki_5, ki_6, ki_7, ki_8, ki_9, ki_10, ki_11, ki_12, ki_13, ki_14, ki_15, ki_20, ki_21, ki_30, ki_31, ki_40, ki_41, ki_50, ki_51, ki_60, ki_63, ki_64, ki_65, ki_100, ki_158, ki_160, ki_200, ki_212, ki_1000, ki_2000, ki_2001, ki_5000, ki_10000, ki_10001, ki_100000, ki_200000, ki_1000000, ki_2000000, ki_3000000, iO_neg, iO_add, iO_sub, iO_mul, kn_4, kn_8, kn_10, kn_20, kn_24, kn_40, kn_41, kn_50, kn_60, kn_158, kn_160, kn_200, kn_212, kn_2001, tn_lt, fn_lt, tn_le, fn_le, tn_eq, fn_eq, x_lt, x_le, x_eq, x_ix, x_nat, t_lt, f_lt, t_le, f_le, t_eq, f_eq, eq_self, and_self, true_and, and_true, false_and, and_false, if_true, if_false, Int.toNat_natCast, bI_s, bL_s, bA_s, bA_n, bV_s, mq_s, mq_n, en_le, bl_0, bl_1, u_eq, u_ne, w_eq, w_ne, v_eq, v_ne, ↓hp_cc_1, ↓hp_g_1_0, ↓hp_g_1_1, ↓hp_g_1_2, ↓hp_g_1_3, ↓hp_g_1_4, ↓hp_g_1_5, ↓hp_g_1_6, ↓hp_g_1_7, ↓hp_g_1_8, ↓hp_p_1_8, ↓hp_g_1_9, ↓hp_p_1_9, ↓hp_g_1_10, ↓hp_p_1_10, ↓hp_a_2, ↓hp_n_2, ↓hp_a_3, ↓hp_n_3, ↓hp_a_4, ↓hp_cc_9, ↓hp_g_9_0, ↓hp_g_9_1, ↓hp_g_9_2, ↓hp_g_9_3, ↓hp_g_9_4, ↓hp_p_9_4, ↓hp_g_9_5, ↓hp_g_9_6, ↓hp_p_9_7, ↓hp_g_9_7, ↓hp_a_10, ↓hp_s_10, ↓hp_l_10, ↓hp_a_11, ↓hp_s_11, ↓hp_l_11, ↓hp_a_12, ↓hp_s_12, ↓hp_l_12, ↓hp_a_13, ↓hp_s_13, ↓hp_l_13, ↓hp_a_14, ↓hp_s_14, ↓hp_l_14, ↓hp_a_15, ↓hp_s_15, ↓hp_l_15, h1, h5, t2]
        · simp (disch := (first | assumption | (unfold i32; omega) | (unfold i64; omega) | omega)) only [↓reduceIte, ki_0, ki_1, ki_2, ki_3, ki_4, ki_5, ki_6, ki_7, ki_8, ki_9, ki_10, ki_11, ki_12, ki_13, ki_14, ki_15, ki_20, ki_21, ki_30, ki_31, ki_40, ki_41, ki_50, ki_51, ki_60, ki_63, ki_64, ki_65, ki_100, ki_158, ki_160, ki_200, ki_212, ki_1000, ki_2000, ki_2001, ki_5000, ki_10000, ki_10001, ki_100000, ki_200000, ki_1000000, ki_2000000, ki_3000000, iO_neg, iO_add, iO_sub, iO_mul, kn_4, kn_8, kn_10, kn_20, kn_24, kn_40, kn_41, kn_50, kn_60, kn_158, kn_160, kn_200, kn_212, kn_2001, tn_lt, fn_lt, tn_le, fn_le, tn_eq, fn_eq, x_lt, x_le, x_eq, x_ix, x_nat, t_lt, f_lt, t_le, f_le, t_eq, f_eq, eq_self, and_self, true_and, and_true, false_and, and_false, if_true, if_false, Int.toNat_natCast, bI_s, bL_s, bA_s, bA_n, bV_s, mq_s, mq_n, en_le, bl_0, bl_1, u_eq, u_ne, w_eq, w_ne, v_eq, v_ne, ↓hp_cc_1, ↓hp_g_1_0, ↓hp_g_1_1, ↓hp_g_1_2, ↓hp_g_1_3, ↓hp_g_1_4, ↓hp_g_1_5, ↓hp_g_1_6, ↓hp_g_1_7, ↓hp_g_1_8, ↓hp_p_1_8, ↓hp_g_1_9, ↓hp_p_1_9, ↓hp_g_1_10, ↓hp_p_1_10, ↓hp_a_2, ↓hp_n_2, ↓hp_a_3, ↓hp_n_3, ↓hp_a_4, ↓hp_cc_9, ↓hp_g_9_0, ↓hp_g_9_1, ↓hp_g_9_2, ↓hp_g_9_3, ↓hp_g_9_4, ↓hp_p_9_4, ↓hp_g_9_5, ↓hp_g_9_6, ↓hp_p_9_7, ↓hp_g_9_7, ↓hp_a_10, ↓hp_s_10, ↓hp_l_10, ↓hp_a_11, ↓hp_s_11, ↓hp_l_11, ↓hp_a_12, ↓hp_s_12, ↓hp_l_12, ↓hp_a_13, ↓hp_s_13, ↓hp_l_13, ↓hp_a_14, ↓hp_s_14, ↓hp_l_14, ↓hp_a_15, ↓hp_s_15, ↓hp_l_15, h1, h5, t3]
      · rw [if_neg (show ¬ (0 ≤ w ∧ w ≤ 2 ∧ 0 ≤ (v : Int) ∧ (v : Int) < (st.1 : Int)) by omega)]
        have n0 : w ≠ 0 := by omega
        have n1 : w ≠ 1 := by omega
        have n2 : w ≠ 2 := by omega
        clear gw
        simp (disch := (first | assumption | (unfold i32; omega) | (unfold i64; omega) | omega)) only [↓reduceIte, ki_0, ki_1, ki_2, ki_3, ki_4, ki_5, ki_6, ki_7, ki_8, ki_9, ki_10, ki_11, ki_12, ki_13, ki_14, ki_15, ki_20, ki_21, ki_30, ki_31, ki_40, ki_41, ki_50, ki_51, ki_60, ki_63, ki_64, ki_65, ki_100, ki_158, ki_160, ki_200, ki_212, ki_1000, ki_2000, ki_2001, ki_5000, ki_10000, ki_10001, ki_100000, ki_200000, ki_1000000, ki_2000000, ki_3000000, iO_neg, iO_add, iO_sub, iO_mul, kn_4, kn_8, kn_10, kn_20, kn_24, kn_40, kn_41, kn_50, kn_60, kn_158, kn_160, kn_200, kn_212, kn_2001, tn_lt, fn_lt, tn_le, fn_le, tn_eq, fn_eq, x_lt, x_le, x_eq, x_ix, x_nat, t_lt, f_lt, t_le, f_le, t_eq, f_eq, eq_self, and_self, true_and, and_true, false_and, and_false, if_true, if_false, Int.toNat_natCast, bI_s, bL_s, bA_s, bA_n, bV_s, mq_s, mq_n, en_le, bl_0, bl_1, u_eq, u_ne, w_eq, w_ne, v_eq, v_ne, ↓hp_cc_1, ↓hp_g_1_0, ↓hp_g_1_1, ↓hp_g_1_2, ↓hp_g_1_3, ↓hp_g_1_4, ↓hp_g_1_5, ↓hp_g_1_6, ↓hp_g_1_7, ↓hp_g_1_8, ↓hp_p_1_8, ↓hp_g_1_9, ↓hp_p_1_9, ↓hp_g_1_10, ↓hp_p_1_10, ↓hp_a_2, ↓hp_n_2, ↓hp_a_3, ↓hp_n_3, ↓hp_a_4, ↓hp_cc_9, ↓hp_g_9_0, ↓hp_g_9_1, ↓hp_g_9_2, ↓hp_g_9_3, ↓hp_g_9_4, ↓hp_p_9_4, ↓hp_g_9_5, ↓hp_g_9_6, ↓hp_p_9_7, ↓hp_g_9_7, ↓hp_a_10, ↓hp_s_10, ↓hp_l_10, ↓hp_a_11, ↓hp_s_11, ↓hp_l_11, ↓hp_a_12, ↓hp_s_12, ↓hp_l_12, ↓hp_a_13, ↓hp_s_13, ↓hp_l_13, ↓hp_a_14, ↓hp_s_14, ↓hp_l_14, ↓hp_a_15, ↓hp_s_15, ↓hp_l_15, h1, h5]
    · rw [if_neg (show ¬ (0 ≤ w ∧ w ≤ 2 ∧ 0 ≤ i ∧ i < (st.1 : Int)) by omega)]
      clear hV l0 l1 h2 h4 h6 hB
      by_cases t1 : i < 0
      · clear gi; simp (disch := (first | assumption | (unfold i32; omega) | (unfold i64; omega) | omega)) only [↓reduceIte, ki_0, ki_1, ki_2, ki_3, ki_4, ki_5, ki_6, ki_7, ki_8, ki_9, ki_10, ki_11, ki_12, ki_13, ki_14, ki_15, ki_20, ki_21, ki_30, ki_31, ki_40, ki_41, ki_50, ki_51, ki_60, ki_63, ki_64, ki_65, ki_100, ki_158, ki_160, ki_200, ki_212, ki_1000, ki_2000, ki_2001, ki_5000, ki_10000, ki_10001, ki_100000, ki_200000, ki_1000000, ki_2000000, ki_3000000, iO_neg, iO_add, iO_sub, iO_mul, kn_4, kn_8, kn_10, kn_20, kn_24, kn_40, kn_41, kn_50, kn_60, kn_158, kn_160, kn_200, kn_212, kn_2001, tn_lt, fn_lt, tn_le, fn_le, tn_eq, fn_eq, x_lt, x_le, x_eq, x_ix, x_nat, t_lt, f_lt, t_le, f_le, t_eq, f_eq, eq_self, and_self, true_and, and_true, false_and, and_false, if_true, if_false, Int.toNat_natCast, bI_s, bL_s, bA_s, bA_n, bV_s, mq_s, mq_n, en_le, bl_0, bl_1, u_eq, u_ne, w_eq, w_ne, v_eq, v_ne, ↓hp_cc_1, ↓hp_g_1_0, ↓hp_g_1_1, ↓hp_g_1_2, ↓hp_g_1_3, ↓hp_g_1_4, ↓hp_g_1_5, ↓hp_g_1_6, ↓hp_g_1_7, ↓hp_g_1_8, ↓hp_p_1_8, ↓hp_g_1_9, ↓hp_p_1_9, ↓hp_g_1_10, ↓hp_p_1_10, ↓hp_a_2, ↓hp_n_2, ↓hp_a_3, ↓hp_n_3, ↓hp_a_4, ↓hp_cc_9, ↓hp_g_9_0, ↓hp_g_9_1, ↓hp_g_9_2, ↓hp_g_9_3, ↓hp_g_9_4, ↓hp_p_9_4, ↓hp_g_9_5, ↓hp_g_9_6, ↓hp_p_9_7, ↓hp_g_9_7, ↓hp_a_10, ↓hp_s_10, ↓hp_l_10, ↓hp_a_11, ↓hp_s_11, ↓hp_l_11, ↓hp_a_12, ↓hp_s_12, ↓hp_l_12, ↓hp_a_13, ↓hp_s_13, ↓hp_l_13, ↓hp_a_14, ↓hp_s_14, ↓hp_l_14, ↓hp_a_15, ↓hp_s_15, ↓hp_l_15, h1, h5]
      · have t2 : (st.1 : Int) ≤ i := by omega
        clear gi; simp (disch := (first | assumption | (unfold i32; omega) | (unfold i64; omega) | omega)) only [↓reduceIte, ki_0, ki_1, ki_2, ki_3, ki_4, ki_5, ki_6, ki_7, ki_8, ki_9, ki_10, ki_11, ki_12, ki_13, ki_14, ki_15, ki_20, ki_21, ki_30, ki_31, ki_40, ki_41, ki_50, ki_51, ki_60, ki_63, ki_64, ki_65, ki_100, ki_158, ki_160, ki_200, ki_212, ki_1000, ki_2000, ki_2001, ki_5000, ki_10000, ki_10001, ki_100000, ki_200000, ki_1000000, ki_2000000, ki_3000000, iO_neg, iO_add, iO_sub, iO_mul, kn_4, kn_8, kn_10, kn_20, kn_24, kn_40, kn_41, kn_50, kn_60, kn_158, kn_160, kn_200, kn_212, kn_2001, tn_lt, fn_lt, tn_le, fn_le, tn_eq, fn_eq, x_lt, x_le, x_eq, x_ix, x_nat, t_lt, f_lt, t_le, f_le, t_eq, f_eq, eq_self, and_self, true_and, and_true, false_and, and_false, if_true, if_false, Int.toNat_natCast, bI_s, bL_s, bA_s, bA_n, bV_s, mq_s, mq_n, en_le, bl_0, bl_1, u_eq, u_ne, w_eq, w_ne, v_eq, v_ne, ↓hp_cc_1, ↓hp_g_1_0, ↓hp_g_1_1, ↓hp_g_1_2, ↓hp_g_1_3, ↓hp_g_1_4, ↓hp_g_1_5, ↓hp_g_1_6, ↓hp_g_1_7, ↓hp_g_1_8, ↓hp_p_1_8, ↓hp_g_1_9, ↓hp_p_1_9, ↓hp_g_1_10, ↓hp_p_1_10, ↓hp_a_2, ↓hp_n_2, ↓hp_a_3, ↓hp_n_3, ↓hp_a_4, ↓hp_cc_9, ↓hp_g_9_0, ↓hp_g_9_1, ↓hp_g_9_2, ↓hp_g_9_3, ↓hp_g_9_4, ↓hp_p_9_4, ↓hp_g_9_5, ↓hp_g_9_6, ↓hp_p_9_7, ↓hp_g_9_7, ↓hp_a_10, ↓hp_s_10, ↓hp_l_10, ↓hp_a_11, ↓hp_s_11, ↓hp_l_11, ↓hp_a_12, ↓hp_s_12, ↓hp_l_12, ↓hp_a_13, ↓hp_s_13, ↓hp_l_13, ↓hp_a_14, ↓hp_s_14, ↓hp_l_14, ↓hp_a_15, ↓hp_s_15, ↓hp_l_15, h1, h5]
theorem cs_follows (hS : OK5 S) {r m i : Int} (hr : i32 r) (hm : i32 m) (hi : i32 i) : CS S S (p_follows S r m i) (fun z => f_X11_follows sc (n + 40) 1 (iO r) (iO m) (iO i) z) := by
  intro XI XA XP XC MI MA ML D Γ hV
  obtain ⟨i1, i2⟩ := id hi
  obtain ⟨m1, m2⟩ := id hm
  obtain ⟨l0, l1⟩ := x_layPoints (sc := sc) (n := n) hS hr hm XI XA XP XC MI MA ML D Γ hV
  by_cases gi : 0 ≤ i ∧ i < m
  · obtain ⟨gi1, gi2⟩ := gi
    unfold p_follows
    cases hq : ptq S r m with
    | none =>
      have h0 := l0 hq
      refine ⟨XI, XA, XP, XC, D, Γ, ?_, hV, GR.rfl'⟩
      show f_X11_follows sc (n + 40) 1 (iO r) (iO m) (iO i) _ = _
      rw [e_X11_follows]
      clear hV l0 l1
      simp (disch := (first | assumption | (unfold i32; omega) | (unfold i64; omega) | omega)) only [↓reduceIte, ki_0, ki_1, ki_2, ki_3, ki_4, ki_5, ki_6, ki_7, ki_8, ki_9, ki_10, ki_11, ki_12, ki_13, ki_14, ki_15, ki_20, ki_21, ki_30, ki_31, ki_40, ki_41, ki_50, ki_51, ki_60, ki_63, ki_64, ki_65, ki_100, ki_158, ki_160, ki_200, ki_212, ki_1000, ki_2000, ki_2001, ki_5000, ki_10000, ki_10001, ki_100000, ki_200000, ki_1000000, ki_2000000, ki_3000000, iO_neg, iO_add, iO_sub, iO_mul, kn_4, kn_8, kn_10, kn_20, kn_24, kn_40, kn_41, kn_50, kn_60, kn_158, kn_160, kn_200, kn_212, kn_2001, tn_lt, fn_lt, tn_le, fn_le, tn_eq, fn_eq, x_lt, x_le, x_eq, x_ix, x_nat, t_lt, f_lt, t_le, f_le, t_eq, f_eq, eq_self, and_self, true_and, and_true, false_and, and_false, if_true, if_false, Int.toNat_natCast, bI_s, bL_s, bA_s, bA_n, bV_s, mq_s, mq_n, en_le, bl_0, bl_1, u_eq, u_ne, w_eq, w_ne, v_eq, v_ne, ↓hp_cc_1, ↓hp_g_1_0, ↓hp_g_1_1, ↓hp_g_1_2, ↓hp_g_1_3, ↓hp_g_1_4, ↓hp_g_1_5, ↓hp_g_1_6, ↓hp_g_1_7, ↓hp_g_1_8, ↓hp_p_1_8, ↓hp_g_1_9, ↓hp_p_1_9, ↓hp_g_1_10, ↓hp_p_1_10, ↓hp_a_2, ↓hp_n_2, ↓hp_a_3, ↓hp_n_3, ↓hp_a_4, h0]
    | some l =>
      obtain ⟨q, q1, q2, q3, q4, q5, q6⟩ := ptq_some hq
      obtain ⟨XI', XA', XC', h1, h2, h3, h4⟩ := l1 l hq
      refine ⟨XI', XA', XP, XC', D, Γ, ?_, h2, GR.rfl'⟩
      show f_X11_follows sc (n + 40) 1 (iO r) (iO m) (iO i) _ = _
      rw [e_X11_follows]
      dsimp only
      rw [if_pos (show 0 ≤ i ∧ i < m from ⟨gi1, gi2⟩)]
      obtain ⟨v, rfl⟩ : ∃ v : Nat, i = v := ⟨i.toNat, by omega⟩
      have h5 := h4 v (by omega)
      rw [Int.toNat_natCast]
      clear hV l0 l1 h2 h3 h4
      simp (disch := (first | assumption | (unfold i32; omega) | (unfold i64; omega) | omega)) only [↓reduceIte, ki_0, ki_1, ki_2, ki_3, ki_4, ki_5, ki_6, ki_7, ki_8, ki_9, ki_10, ki_11, ki_12, ki_13, ki_14, ki_15, ki_20, ki_21, ki_30, ki_31, ki_40, ki_41, ki_50, ki_51, ki_60, ki_63, ki_64, ki_65, ki_100, ki_158, ki_160, ki_200, ki_212, ki_1000, ki_2000, ki_2001, ki_5000, ki_10000, ki_10001, ki_100000, ki_200000, ki_1000000, ki_2000000, ki_3000000, iO_neg, iO_add, iO_sub, iO_mul, kn_4, kn_8, kn_10, kn_20, kn_24, kn_40, kn_41, kn_50, kn_60, kn_158, kn_160, kn_200, kn_212, kn_2001, tn_lt, fn_lt, tn_le, fn_le, tn_eq, fn_eq, x_lt, x_le, x_eq, x_ix, x_nat, t_lt, f_lt, t_le, f_le, t_eq, f_eq, eq_self, and_self, true_and, and_true, false_and, and_false, if_true, if_false, Int.toNat_natCast, bI_s, bL_s, bA_s, bA_n, bV_s, mq_s, mq_n, en_le, bl_0, bl_1, u_eq, u_ne, w_eq, w_ne, v_eq, v_ne, ↓hp_cc_1, ↓hp_g_1_0, ↓hp_g_1_1, ↓hp_g_1_2, ↓hp_g_1_3, ↓hp_g_1_4, ↓hp_g_1_5, ↓hp_g_1_6, ↓hp_g_1_7, ↓hp_g_1_8, ↓hp_p_1_8, ↓hp_g_1_9, ↓hp_p_1_9, ↓hp_g_1_10, ↓hp_p_1_10, ↓hp_a_2, ↓hp_n_2, ↓hp_a_3, ↓hp_n_3, ↓hp_a_4, ↓hp_cc_9, ↓hp_g_9_0, ↓hp_g_9_1, ↓hp_g_9_2, ↓hp_g_9_3, ↓hp_g_9_4, ↓hp_p_9_4, ↓hp_g_9_5, ↓hp_g_9_6, ↓hp_p_9_7, ↓hp_g_9_7, ↓hp_a_10, ↓hp_s_10, ↓hp_l_10, ↓hp_a_11, ↓hp_s_11, ↓hp_l_11, ↓hp_a_12, ↓hp_s_12, ↓hp_l_12, ↓hp_a_13, ↓hp_s_13, ↓hp_l_13, ↓hp_a_14, ↓hp_s_14, ↓hp_l_14, ↓hp_a_15, ↓hp_s_15, ↓hp_l_15, h1, h5]
  · have hno : p_follows S r m i = -1 := by
      unfold p_follows
      cases ptq S r m with
      | none => rfl
      | some l => exact if_neg gi
    rw [hno]
    refine ⟨XI, XA, XP, XC, D, Γ, ?_, hV, GR.rfl'⟩
    show f_X11_follows sc (n + 40) 1 (iO r) (iO m) (iO i) _ = _
    rw [e_X11_follows]
    clear hV l0 l1 hno
    by_cases t1 : i < 0
    · clear gi; simp (disch := (first | assumption | (unfold i32; omega) | (unfold i64; omega) | omega)) only [↓reduceIte, ki_0, ki_1, ki_2, ki_3, ki_4, ki_5, ki_6, ki_7, ki_8, ki_9, ki_10, ki_11, ki_12, ki_13, ki_14, ki_15, ki_20, ki_21, ki_30, ki_31, ki_40, ki_41, ki_50, ki_51, ki_60, ki_63, ki_64, ki_65, ki_100, ki_158, ki_160, ki_200, ki_212, ki_1000, ki_2000, ki_2001, ki_5000, ki_10000, ki_10001, ki_100000, ki_200000, ki_1000000, ki_2000000, ki_3000000, iO_neg, iO_add, iO_sub, iO_mul, kn_4, kn_8, kn_10, kn_20, kn_24, kn_40, kn_41, kn_50, kn_60, kn_158, kn_160, kn_200, kn_212, kn_2001, tn_lt, fn_lt, tn_le, fn_le, tn_eq, fn_eq, x_lt, x_le, x_eq, x_ix, x_nat, t_lt, f_lt, t_le, f_le, t_eq, f_eq, eq_self, and_self, true_and, and_true, false_and, and_false, if_true, if_false, Int.toNat_natCast, bI_s, bL_s, bA_s, bA_n, bV_s, mq_s, mq_n, en_le, bl_0, bl_1, u_eq, u_ne, w_eq, w_ne, v_eq, v_ne]
    · have t2 : m ≤ i := by omega
      clear gi; simp (disch := (first | assumption | (unfold i32; omega) | (unfold i64; omega) | omega)) only [↓reduceIte, ki_0, ki_1, ki_2, ki_3, ki_4, ki_5, ki_6, ki_7, ki_8, ki_9, ki_10, ki_11, ki_12, ki_13, ki_14, ki_15, ki_20, ki_21, ki_30, ki_31, ki_40, ki_41, ki_50, ki_51, ki_60, ki_63, ki_64, ki_65, ki_100, ki_158, ki_160, ki_200, ki_212, ki_1000, ki_2000, ki_2001, ki_5000, ki_10000, ki_10001, ki_100000, ki_200000, ki_1000000, ki_2000000, ki_3000000, iO_neg, iO_add, iO_sub, iO_mul, kn_4, kn_8, kn_10, kn_20, kn_24, kn_40, kn_41, kn_50, kn_60, kn_158, kn_160, kn_200, kn_212, kn_2001, tn_lt, fn_lt, tn_le, fn_le, tn_eq, fn_eq, x_lt, x_le, x_eq, x_ix, x_nat, t_lt, f_lt, t_le, f_le, t_eq, f_eq, eq_self, and_self, true_and, and_true, false_and, and_false, if_true, if_false, Int.toNat_natCast, bI_s, bL_s, bA_s, bA_n, bV_s, mq_s, mq_n, en_le, bl_0, bl_1, u_eq, u_ne, w_eq, w_ne, v_eq, v_ne]
end PTS
-- FILE 99e
/-! share: when the multiples of two slopes share out all numbers -/
/-- the model's test -/
def oneP (l m : SL4) : Prop := l.2.1 ≠ 0 ∧ m.2.1 ≠ 0
  ∧ (l.1 * (l.1 - l.2.2.1) - l.2.1 * l.2.1 * l.2.2.2) * m.2.2.1 = m.1 * ((l.1 - l.2.2.1) * (l.1 - l.2.2.1) - l.2.1 * l.2.1 * l.2.2.2)
  ∧ ((0 < -l.2.1 * l.2.2.1 ↔ 0 < (l.1 - l.2.2.1) * (l.1 - l.2.2.1) - l.2.1 * l.2.1 * l.2.2.2) ↔ 0 < m.2.1)
  ∧ -l.2.1 * l.2.2.1 * (-l.2.1 * l.2.2.1) * l.2.2.2 * m.2.2.1 * m.2.2.1 = m.2.1 * m.2.1 * m.2.2.2 * ((l.1 - l.2.2.1) * (l.1 - l.2.2.1) - l.2.1 * l.2.1 * l.2.2.2) * ((l.1 - l.2.2.1) * (l.1 - l.2.2.1) - l.2.1 * l.2.1 * l.2.2.2)
/-- the class's test -/
def shr2 (a b c d a' b' c' d' : Int) : Prop := b ≠ 0 ∧ b' ≠ 0 ∧ d = d' ∧ (a - c) * (a' - c') + b * b' * d = c * c' ∧ (a - c) * b' + (a' - c') * b = 0
theorem sq_eq {x y : Int} (h : x * x = y * y) : x = y ∨ x = -y := by
  have : (x - y) * (x + y) = 0 := by grind
  rcases Int.mul_eq_zero.mp this with g | g
  · exact Or.inl (by omega)
  · exact Or.inr (by omega)
theorem pos_mul_iff {x y : Int} (hy : 0 < y) : 0 < x * y ↔ 0 < x := by
  constructor
  · intro h
    rcases Int.lt_or_le 0 x with g | g
    · exact g
    · have := Int.mul_le_mul_of_nonneg_right g (Int.le_of_lt hy)
      omega
  · intro h
    exact Int.mul_pos h hy
theorem sgn_pr {x y : Int} (hx : x ≠ 0) (hy : y ≠ 0) : 0 < x * y ↔ (0 < x ↔ 0 < y) := by
  rcases Int.lt_or_gt_of_ne hx with g | g <;> rcases Int.lt_or_gt_of_ne hy with k | k
  · have := Int.mul_pos (a := -x) (b := -y) (by omega) (by omega)
    rw [Int.neg_mul_neg] at this
    exact ⟨fun _ => ⟨fun h => by omega, fun h => by omega⟩, fun _ => this⟩
  · have := Int.mul_pos (a := -x) (b := y) (by omega) (by omega)
    rw [Int.neg_mul] at this
    exact ⟨fun h => by omega, fun h => by have := h.mpr k; omega⟩
  · have := Int.mul_pos (a := x) (b := -y) (by omega) (by omega)
    rw [Int.mul_neg] at this
    exact ⟨fun h => by omega, fun h => by have := h.mp g; omega⟩
  · have := Int.mul_pos g k
    exact ⟨fun _ => ⟨fun _ => k, fun _ => g⟩, fun _ => this⟩
/-- the normal forms: numbers as they stand in the class -/
theorem one_norm {a b c d a' b' c' d' : Int} (hc : 0 < c) (hc' : 0 < c') (hd : d ∈ sqfl) (hd' : d' ∈ sqfl) (hb : b ≠ 0) (hb' : b' ≠ 0) :
    ((a * (a - c) - b * b * d) * c' = a' * ((a - c) * (a - c) - b * b * d) ∧ ((0 < -b * c ↔ 0 < (a - c) * (a - c) - b * b * d) ↔ 0 < b') ∧ -b * c * (-b * c) * d * c' * c' = b' * b' * d' * ((a - c) * (a - c) - b * b * d) * ((a - c) * (a - c) - b * b * d)) ↔ (d = d' ∧ (a - c) * (a' - c') + b * b' * d = c * c' ∧ (a - c) * b' + (a' - c') * b = 0) := by
  have hden : (a - c) * (a - c) - b * b * d ≠ 0 := fun h => by
    have := nc_ne (e := a - c) (b := b) (d := d) hb (sqfl_nsq d hd)
    apply this
    omega
  have hbc : -b * c ≠ 0 := fun h => by
    rcases Int.mul_eq_zero.mp h with g | g <;> omega
  generalize hx : a - c = x at *
  generalize hN : x * x - b * b * d = N at *
  have ea : a = x + c := by omega
  subst ea
  constructor
  · rintro ⟨h1, h2, h3⟩
    have hbb : b * c * c' ≠ 0 := fun h => by
      rcases Int.mul_eq_zero.mp h with g | g
      · rcases Int.mul_eq_zero.mp g with k | k <;> omega
      · omega
    have hbN : b' * N ≠ 0 := fun h => by
      rcases Int.mul_eq_zero.mp h with g | g
      · exact hb' g
      · exact hden g
    have h4 : (b * c * c') * (b * c * c') * d = (b' * N) * (b' * N) * d' := by grind
    have hdd : d = d' := sqfl_one hd hd' hbb hbN h4
    subst hdd
    have hd0 : 0 < d := by have := sqfl_ok d hd; omega
    have h5 : (b * c * c') * (b * c * c') = (b' * N) * (b' * N) := Int.eq_of_mul_eq_mul_right (by omega) h4
    -- the sign tells which
    have h6 : b' * N = -(b * c * c') := by
      rcases sq_eq h5 with g | g
      · exfalso
        have s1 := sgn_pr hbc hden
        have s2 : 0 < -b * c * N * b' ↔ (0 < -b * c * N ↔ 0 < b') := sgn_pr (fun h => by
          rcases Int.mul_eq_zero.mp h with k | k
          · exact hbc k
          · exact hden k) hb'
        have s3 : 0 < -b * c * N * b' := s2.mpr (s1.trans h2)
        have s4 : -b * c * N * b' = -(b * c * (b * c)) * c' := by
          have : -b * c * N * b' = -b * c * (b' * N) := by grind
          rw [this, ← g]
          grind
        rw [s4] at s3
        have s5 := (pos_mul_iff hc').mp s3
        have := sq_nn (b * c)
        omega
      · omega
    have h7 : (a' - c') * N = c * c' * x := by grind
    refine ⟨rfl, ?_, ?_⟩
    · have : (x * (a' - c') + b * b' * d) * N = (c * c') * N := by grind
      exact Int.eq_of_mul_eq_mul_right hden this
    · have : (x * b' + (a' - c') * b) * N = 0 * N := by grind
      exact Int.eq_of_mul_eq_mul_right hden this
  · rintro ⟨rfl, h1, h2⟩
    have h6 : b' * N = -(b * c * c') := by rw [← hN]; grind
    have h7 : (a' - c') * N = c * c' * x := by rw [← hN]; grind
    refine ⟨?_, ?_, ?_⟩
    · have : (x + c) * x - b * b * d = N + c * x := by rw [← hN]; grind
      rw [this]
      grind
    · have s1 := sgn_pr hbc hden
      rw [← s1]
      have s2 : -b * c * N * b' = (b * c * (b * c)) * c' := by
        have : -b * c * N * b' = -b * c * (b' * N) := by grind
        rw [this, h6]
        grind
      have s3 : 0 < -b * c * N * b' := by
        rw [s2]
        apply Int.mul_pos _ hc'
        have hbc2 : b * c ≠ 0 := fun h => hbc (by rw [Int.neg_mul, h]; rfl)
        have := sq_nn (b * c)
        rcases Int.lt_or_gt_of_ne (show b * c * (b * c) ≠ 0 from fun h => by rcases Int.mul_eq_zero.mp h with k | k <;> exact hbc2 k) with k | k
        · omega
        · exact k
      have hcN : -b * c * N ≠ 0 := fun h => by
        rcases Int.mul_eq_zero.mp h with k | k
        · exact hbc k
        · exact hden k
      exact (sgn_pr hcN hb').mp s3
    · have : -b * c * (-b * c) * d * c' * c' = (b' * N) * (b' * N) * d := by
        rw [h6]
        grind
      rw [this]
      grind
theorem one_iff {A B C D A' B' C' D' t a b c d t' a' b' c' d' : Int} (hE : EQN A B C t a b c) (hD : D = d * (t * t)) (hE' : EQN A' B' C' t' a' b' c') (hD' : D' = d' * (t' * t')) (hd : b ≠ 0 → d ∈ sqfl) (hd' : b' ≠ 0 → d' ∈ sqfl) : oneP (A, B, C, D) (A', B', C', D') ↔ shr2 a b c d a' b' c' d' := by
  obtain ⟨c1, c2, c3, e1, e2⟩ := id hE
  obtain ⟨c1', c2', c3', e1', e2'⟩ := id hE'
  have z1 := hE.zero
  have z2 := hE'.zero
  unfold oneP shr2
  by_cases g1 : B = 0
  · exact ⟨fun h => absurd g1 h.1, fun h => absurd (z1.mp g1) h.1⟩
  by_cases g2 : B' = 0
  · exact ⟨fun h => absurd g2 h.2.1, fun h => absurd (z2.mp g2) h.2.1⟩
  have hb : b ≠ 0 := fun h => g1 (z1.mpr h)
  have hb' : b' ≠ 0 := fun h => g2 (z2.mpr h)
  have key := one_norm (a := a) (b := b) (c := c) (d := d) (a' := a') (b' := b') (c' := c') (d' := d') c2 c2' (hd hb) (hd' hb') hb hb'
  show (B ≠ 0 ∧ B' ≠ 0 ∧ (A * (A - C) - B * B * D) * C' = A' * ((A - C) * (A - C) - B * B * D) ∧ ((0 < -B * C ↔ 0 < (A - C) * (A - C) - B * B * D) ↔ 0 < B') ∧ -B * C * (-B * C) * D * C' * C' = B' * B' * D' * ((A - C) * (A - C) - B * B * D) * ((A - C) * (A - C) - B * B * D)) ↔ _
  -- from one form to the other
  have hUp : (A * (A - C) - B * B * D) * (c * c) = (a * (a - c) - b * b * d) * (C * C) := by
    subst hD
    have q1 : (A * (A - C)) * (c * c) = (a * (a - c)) * (C * C) := by
      have : (A * (A - C)) * (c * c) = (A * c) * (A * c - C * c) := by grind
      rw [this, e1]
      grind
    have q2 : (B * B * (d * (t * t))) * (c * c) = (b * b * d) * (C * C) := by
      have : (B * B * (d * (t * t))) * (c * c) = (B * t * c) * (B * t * c) * d := by grind
      rw [this, e2]
      grind
    rw [Int.sub_mul _ _ (c * c), Int.sub_mul _ _ (C * C), q1, q2]
  have hDn : ((A - C) * (A - C) - B * B * D) * (c * c) = ((a - c) * (a - c) - b * b * d) * (C * C) := by
    subst hD
    have q1 : ((A - C) * (A - C)) * (c * c) = ((a - c) * (a - c)) * (C * C) := by
      have : ((A - C) * (A - C)) * (c * c) = (A * c - C * c) * (A * c - C * c) := by grind
      rw [this, e1]
      grind
    have q2 : (B * B * (d * (t * t))) * (c * c) = (b * b * d) * (C * C) := by
      have : (B * B * (d * (t * t))) * (c * c) = (B * t * c) * (B * t * c) * d := by grind
      rw [this, e2]
      grind
    rw [Int.sub_mul _ _ (c * c), Int.sub_mul _ _ (C * C), q1, q2]
  have hM : (-B * C * (-B * C) * D) * (c * c * (c * c)) = (-b * c * (-b * c) * d) * (C * C * (C * C)) := by
    subst hD
    have : (-B * C * (-B * C) * (d * (t * t))) * (c * c * (c * c)) = (B * t * c) * (B * t * c) * d * (C * C) * (c * c) := by grind
    rw [this, e2]
    grind
  have hN : (B' * B' * D') * (c' * c') = (b' * b' * d') * (C' * C') := by
    subst hD'
    have : (B' * B' * (d' * (t' * t'))) * (c' * c') = (B' * t' * c') * (B' * t' * c') * d' := by grind
    rw [this, e2']
    grind
  have pcc := Int.mul_pos c2 c2
  have pCC := Int.mul_pos c1 c1
  have pcc' := Int.mul_pos c2' c2'
  have pCC' := Int.mul_pos c1' c1'
  have sB : 0 < B ↔ 0 < b := by
    rw [← pos_mul_iff (x := B) (Int.mul_pos c3 c2), show B * (t * c) = b * C by rw [← Int.mul_assoc]; exact e2, pos_mul_iff c1]
  have sB' : 0 < B' ↔ 0 < b' := by
    rw [← pos_mul_iff (x := B') (Int.mul_pos c3' c2'), show B' * (t' * c') = b' * C' by rw [← Int.mul_assoc]; exact e2', pos_mul_iff c1']
  have sM : 0 < -B * C ↔ 0 < -b * c := by
    rw [pos_mul_iff c1, pos_mul_iff c2]
    omega
  have sD : 0 < (A - C) * (A - C) - B * B * D ↔ 0 < (a - c) * (a - c) - b * b * d := by
    rw [← pos_mul_iff (x := (A - C) * (A - C) - B * B * D) pcc, hDn, pos_mul_iff pCC]
  generalize (A - C) * (A - C) - B * B * D = DN at *
  generalize A * (A - C) - B * B * D = UP at *
  generalize (a - c) * (a - c) - b * b * d = dn at *
  generalize a * (a - c) - b * b * d = up at *
  have k1 : UP * C' = A' * DN ↔ up * c' = a' * dn := by
    have l1 : (UP * C') * (c * c * c') = (up * c') * (C * C * C') := by grind
    have l2 : (A' * DN) * (c * c * c') = (a' * dn) * (C * C * C') := by
      have : (A' * DN) * (c * c * c') = (A' * c') * (DN * (c * c)) := by grind
      rw [this, e1', hDn]
      grind
    have p1 : c * c * c' ≠ 0 := by have := Int.mul_pos pcc c2'; omega
    have p2 : C * C * C' ≠ 0 := by have := Int.mul_pos pCC c1'; omega
    constructor
    · intro h
      rw [h, l2] at l1
      exact (Int.eq_of_mul_eq_mul_right p2 l1).symm
    · intro h
      rw [h, ← l2] at l1
      exact Int.eq_of_mul_eq_mul_right p1 l1
  have k3 : -B * C * (-B * C) * D * C' * C' = B' * B' * D' * DN * DN ↔ -b * c * (-b * c) * d * c' * c' = b' * b' * d' * dn * dn := by
    have l1 : (-B * C * (-B * C) * D * C' * C') * (c * c * (c * c) * (c' * c')) = (-b * c * (-b * c) * d * c' * c') * (C * C * (C * C) * (C' * C')) := by
      have : (-B * C * (-B * C) * D * C' * C') * (c * c * (c * c) * (c' * c')) = ((-B * C * (-B * C) * D) * (c * c * (c * c))) * (C' * C' * (c' * c')) := by grind
      rw [this, hM]
      grind
    have l2 : (B' * B' * D' * DN * DN) * (c * c * (c * c) * (c' * c')) = (b' * b' * d' * dn * dn) * (C * C * (C * C) * (C' * C')) := by
      have : (B' * B' * D' * DN * DN) * (c * c * (c * c) * (c' * c')) = ((B' * B' * D') * (c' * c')) * (DN * (c * c)) * (DN * (c * c)) := by grind
      rw [this, hN, hDn]
      grind
    have p1 : c * c * (c * c) * (c' * c') ≠ 0 := by have := Int.mul_pos (Int.mul_pos pcc pcc) pcc'; omega
    have p2 : C * C * (C * C) * (C' * C') ≠ 0 := by have := Int.mul_pos (Int.mul_pos pCC pCC) pCC'; omega
    constructor
    · intro h
      rw [h, l2] at l1
      exact (Int.eq_of_mul_eq_mul_right p2 l1).symm
    · intro h
      rw [h, ← l2] at l1
      exact Int.eq_of_mul_eq_mul_right p1 l1
  rw [k1, k3, sM, sD, sB']
  constructor
  · rintro ⟨-, -, h⟩
    exact ⟨hb, hb', key.mp h⟩
  · rintro ⟨-, -, h⟩
    exact ⟨g1, g2, key.mpr h⟩
/-! the numbers that are told -/
def cntw (W : Nat → Int) (i v : Nat) : Nat := if W i = (v : Int) then (if W (i + 1) = (v : Int) then 2 else 1) else 0
def idxw (W : Nat → Int) : Nat → Nat
  | 0 => 1
  | v + 1 => idxw W v + cntw W (idxw W v) v
def shrw (W V : Nat → Int) : Nat → Nat → Int
  | 0, _ => -2
  | j + 1, v => if cntw W (idxw W v) v + cntw V (idxw V v) v = 1 then shrw W V j (v + 1) else (v : Int)
theorem idxw_le {W : Nat → Int} : ∀ v, idxw W v ≤ 2 * v + 1
  | 0 => Nat.le_refl _
  | v + 1 => by
    have := idxw_le (W := W) v
    rw [idxw]
    unfold cntw
    split
    · split <;> omega
    · omega
theorem idxw_ge {W : Nat → Int} (h0 : ∀ i, 0 ≤ W i) (h1 : ∀ i, W i ≤ W (i + 1)) (h2 : ∀ i, W i + 1 ≤ W (i + 2)) : ∀ v : Nat, (v : Int) ≤ W (idxw W v)
  | 0 => h0 1
  | v + 1 => by
    have ih := idxw_ge h0 h1 h2 v
    rw [idxw]
    unfold cntw
    have a1 := h1 (idxw W v)
    have a2 := h2 (idxw W v)
    split
    · rename_i g
      split
      · have : idxw W v + 2 = idxw W v + 2 := rfl
        omega
      · rename_i g2
        omega
    · rename_i g
      show ((v + 1 : Nat) : Int) ≤ W (idxw W v)
      omega
noncomputable def WNn (l : SL4) (i : Nat) : Int := WN l i
noncomputable def p_share (S : ST5) (r s : Int) : Int := match slq S r with
  | none => -1
  | some l => match slq S s with
    | none => -1
    | some m => (haveI := Classical.propDecidable (oneP l m); if oneP l m then 0 else if sgn l (-1) 2 ≤ 0 ∨ sgn m (-1) 2 ≤ 0 then 1 else shrw (WNn l) (WNn m) 5000 1)
theorem WNn_ok {l : SL4} (hS : SL l.1 l.2.1 l.2.2.1 l.2.2.2) (hs : 0 < sgn l (-1) 2) : (∀ i, 0 ≤ WNn l i) ∧ (∀ i, WNn l i ≤ WNn l (i + 1)) ∧ (∀ i, WNn l i + 1 ≤ WNn l (i + 2)) ∧ (∀ i : Nat, WNn l i ≤ 20 * (i : Int)) := by
  have hd := hS.dpos
  have hc := hS.cpos
  refine ⟨fun i => ?_, fun i => ?_, fun i => ?_, fun i => ?_⟩
  · exact hS.w0 (N := (i : Int)) (by omega)
  · have := (EW_mono (u := 0) (v := 1) hS (by omega) (i : Int)).1
    rw [EW_01, EW_01] at this
    exact this
  · show WN l i + 1 ≤ WN l ((i + 2 : Nat) : Int)
    have h1 : nn (2 * l.1 + -1 * l.2.2.1) (2 * l.2.1) l.2.2.2 := (sg_nn hd).mp (by have : 0 < sg (2 * l.1 + -1 * l.2.2.1) (2 * l.2.1) l.2.2.2 := hs; omega)
    have h2 := (whl_iff (k := WN l i) hd (hS.hn (N := (i : Int))) hc).mpr (Int.le_refl _)
    have h3 := nn_add (by omega) h2 h1
    unfold WN
    rw [← whl_iff hd hS.hn hc]
    have e1 : l.1 * (i : Int) - WN l i * l.2.2.1 + (2 * l.1 + -1 * l.2.2.1) = l.1 * ((i + 2 : Nat) : Int) - (WN l i + 1) * l.2.2.1 := by
      rw [show ((i + 2 : Nat) : Int) = (i : Int) + 2 by omega]
      generalize WN l i = P
      grind
    have e2 : l.2.1 * (i : Int) + 2 * l.2.1 = l.2.1 * ((i + 2 : Nat) : Int) := by
      rw [show ((i + 2 : Nat) : Int) = (i : Int) + 2 by omega]
      grind
    rw [e1, e2] at h3
    exact h3
  · exact hS.w20 (N := (i : Int)) (by omega)
section SHC
variable {sc : en_S} {n : Nat} {XI : Nat → Int32} {XA : Nat → Nat → Int32} {XP : Nat → Nat → Option Nat} {XC : Value} {MI : Nat → Int32} {MA : Nat → Nat → Int32} {ML : Nat → Nat → Int64} {D : en_H}
theorem x_tellings {p : Nat} {l : SL4} (hs : SlO D p l) (hS : SL l.1 l.2.1 l.2.2.1 l.2.2.2) {i v : Nat} (hi : i ≤ 20000) (hv : v ≤ 5000) : f_X11_tellings sc (n + 6) (p + 51) (iO (i : Int)) (iO (v : Int)) (hp XI XA XP XC MI MA ML D) = some (some (.int (iO (cntw (WNn l) i v : Int))), hp XI XA XP XC MI MA ML D) := by
  have hw : ∀ N : Nat, N ≤ 30000 → f_X7_wholeOf sc (n + 5) (p + 51) (lO (N : Int)) (lO 0) (lO 1) (hp XI XA XP XC MI MA ML D) = some (some (.long (lO (WNn l N))), hp XI XA XP XC MI MA ML D) := fun N hN => x_whole0 (n := n + 1) hs hS (by omega) (by omega)
  have c3 := hs
  obtain ⟨a, b, c, d, t, qs, ls, k1, -⟩ := c3
  have gc : ∀ (g : Nat → Option en_R), en_cc (hp XI XA XP XC MI MA ML D) (p + 51) g = g 6 := fun g => d_cc k1 g
  have b0 : 0 ≤ WNn l i ∧ WNn l i ≤ 400000 := ⟨hS.w0 (N := (i : Int)) (by omega), by have : WNn l i ≤ 20 * (i : Int) := hS.w20 (N := (i : Int)) (by omega); omega⟩
  have b1 : 0 ≤ WNn l (i + 1) ∧ WNn l (i + 1) ≤ 400020 := ⟨hS.w0 (N := ((i + 1 : Nat) : Int)) (by omega), by have : WNn l (i + 1) ≤ 20 * ((i + 1 : Nat) : Int) := hS.w20 (N := ((i + 1 : Nat) : Int)) (by omega); omega⟩
  have h0 := hw i (by omega)
  have h1 := hw (i + 1) (by omega)
  rw [show ((i + 1 : Nat) : Int) = (i : Int) + 1 by omega] at h1
  rw [e_X11_tellings, eb_X11_tellings_1]
  unfold cntw
  generalize WNn l i = P at *
  generalize WNn l (i + 1) = Q at *
  have ez : (i : Int) + 0 = (i : Int) := by omega
  have z1 : (0 : Int) + 1 = 1 := rfl
  have z2 : (1 : Int) + 1 = 2 := rfl
  clear hw hs
  by_cases g1 : P = (v : Int)
  · rw [if_pos g1]
    by_cases g2 : Q = (v : Int)
    · rw [if_pos g2]
      simp (disch := (first | assumption | (unfold i32; omega) | (unfold i64; omega) | omega)) only [↓reduceIte, ki_0, ki_1, ki_2, ki_3, ki_4, ki_5, ki_6, ki_7, ki_8, ki_9, ki_10, ki_11, ki_12, ki_13, ki_14, ki_15, ki_20, ki_21, ki_30, ki_31, ki_40, ki_41, ki_50, ki_51, ki_60, ki_63, ki_64, ki_65, ki_100, ki_158, ki_160, ki_200, ki_212, ki_1000, ki_2000, ki_2001, ki_5000, ki_10000, ki_10001, ki_100000, ki_200000, ki_1000000, ki_2000000, ki_3000000, iO_neg, iO_add, iO_sub, iO_mul, kn_4, kn_8, kn_10, kn_20, kn_24, kn_40, kn_41, kn_50, kn_60, kn_158, kn_160, kn_200, kn_212, kn_2001, tn_lt, fn_lt, tn_le, fn_le, tn_eq, fn_eq, x_lt, x_le, x_eq, x_ix, x_nat, t_lt, f_lt, t_le, f_le, t_eq, f_eq, eq_self, and_self, true_and, and_true, false_and, and_false, if_true, if_false, Int.toNat_natCast, bI_s, bL_s, bA_s, bA_n, bV_s, mq_s, mq_n, en_le, bl_0, bl_1, u_eq, u_ne, w_eq, w_ne, v_eq, v_ne, ez, z1, z2, iO_wide, kl_0, kl_1, gc, h0, lc_lt, lc_le, lc_gt, lc_ge, lc_eq, y_lt, y_le, y_eq, eb_X11_tellings_1, h1]
      try rfl
    · rw [if_neg g2]
      simp (disch := (first | assumption | (unfold i32; omega) | (unfold i64; omega) | omega)) only [↓reduceIte, ki_0, ki_1, ki_2, ki_3, ki_4, ki_5, ki_6, ki_7, ki_8, ki_9, ki_10, ki_11, ki_12, ki_13, ki_14, ki_15, ki_20, ki_21, ki_30, ki_31, ki_40, ki_41, ki_50, ki_51, ki_60, ki_63, ki_64, ki_65, ki_100, ki_158, ki_160, ki_200, ki_212, ki_1000, ki_2000, ki_2001, ki_5000, ki_10000, ki_10001, ki_100000, ki_200000, ki_1000000, ki_2000000, ki_3000000, iO_neg, iO_add, iO_sub, iO_mul, kn_4, kn_8, kn_10, kn_20, kn_24, kn_40, kn_41, kn_50, kn_60, kn_158, kn_160, kn_200, kn_212, kn_2001, tn_lt, fn_lt, tn_le, fn_le, tn_eq, fn_eq, x_lt, x_le, x_eq, x_ix, x_nat, t_lt, f_lt, t_le, f_le, t_eq, f_eq, eq_self, and_self, true_and, and_true, false_and, and_false, if_true, if_false, Int.toNat_natCast, bI_s, bL_s, bA_s, bA_n, bV_s, mq_s, mq_n, en_le, bl_0, bl_1, u_eq, u_ne, w_eq, w_ne, v_eq, v_ne, ez, z1, z2, iO_wide, kl_0, kl_1, gc, h0, lc_lt, lc_le, lc_gt, lc_ge, lc_eq, y_lt, y_le, y_eq, eb_X11_tellings_1, h1]
      try rfl
  · rw [if_neg g1]
    simp (disch := (first | assumption | (unfold i32; omega) | (unfold i64; omega) | omega)) only [↓reduceIte, ki_0, ki_1, ki_2, ki_3, ki_4, ki_5, ki_6, ki_7, ki_8, ki_9, ki_10, ki_11, ki_12, ki_13, ki_14, ki_15, ki_20, ki_21, ki_30, ki_31, ki_40, ki_41, ki_50, ki_51, ki_60, ki_63, ki_64, ki_65, ki_100, ki_158, ki_160, ki_200, ki_212, ki_1000, ki_2000, ki_2001, ki_5000, ki_10000, ki_10001, ki_100000, ki_200000, ki_1000000, ki_2000000, ki_3000000, iO_neg, iO_add, iO_sub, iO_mul, kn_4, kn_8, kn_10, kn_20, kn_24, kn_40, kn_41, kn_50, kn_60, kn_158, kn_160, kn_200, kn_212, kn_2001, tn_lt, fn_lt, tn_le, fn_le, tn_eq, fn_eq, x_lt, x_le, x_eq, x_ix, x_nat, t_lt, f_lt, t_le, f_le, t_eq, f_eq, eq_self, and_self, true_and, and_true, false_and, and_false, if_true, if_false, Int.toNat_natCast, bI_s, bL_s, bA_s, bA_n, bV_s, mq_s, mq_n, en_le, bl_0, bl_1, u_eq, u_ne, w_eq, w_ne, v_eq, v_ne, ez, z1, z2, iO_wide, kl_0, kl_1, gc, h0, lc_lt, lc_le, lc_gt, lc_ge, lc_eq, y_lt, y_le, y_eq]
    try rfl
theorem x_unshared3 {p q : Nat} {l m : SL4} (hs : SlO D p l) (hS : SL l.1 l.2.1 l.2.2.1 l.2.2.2) (hs' : SlO D q m) (hS' : SL m.1 m.2.1 m.2.2.1 m.2.2.2) : ∀ (j v : Nat), v + j = 5001 → b_X11_unshared_3 sc (n + 6) (p + 51) (q + 51) (iO (idxw (WNn l) v : Int)) (iO (idxw (WNn m) v : Int)) (iO (v : Int)) (hp XI XA XP XC MI MA ML D) = some (some (.int (iO (if v = 0 then shrw (WNn l) (WNn m) (j - 1) 1 else shrw (WNn l) (WNn m) j v))), hp XI XA XP XC MI MA ML D) := by
  intro j
  induction j with
  | zero =>
    intro v hv
    rw [eb_X11_unshared_3, if_neg (show ¬ v = 0 by omega), shrw]
    simp (disch := (first | assumption | (unfold i32; omega) | (unfold i64; omega) | omega)) only [↓reduceIte, ki_0, ki_1, ki_2, ki_3, ki_4, ki_5, ki_6, ki_7, ki_8, ki_9, ki_10, ki_11, ki_12, ki_13, ki_14, ki_15, ki_20, ki_21, ki_30, ki_31, ki_40, ki_41, ki_50, ki_51, ki_60, ki_63, ki_64, ki_65, ki_100, ki_158, ki_160, ki_200, ki_212, ki_1000, ki_2000, ki_2001, ki_5000, ki_10000, ki_10001, ki_100000, ki_200000, ki_1000000, ki_2000000, ki_3000000, iO_neg, iO_add, iO_sub, iO_mul, kn_4, kn_8, kn_10, kn_20, kn_24, kn_40, kn_41, kn_50, kn_60, kn_158, kn_160, kn_200, kn_212, kn_2001, tn_lt, fn_lt, tn_le, fn_le, tn_eq, fn_eq, x_lt, x_le, x_eq, x_ix, x_nat, t_lt, f_lt, t_le, f_le, t_eq, f_eq, eq_self, and_self, true_and, and_true, false_and, and_false, if_true, if_false, Int.toNat_natCast, bI_s, bL_s, bA_s, bA_n, bV_s, mq_s, mq_n, en_le, bl_0, bl_1, u_eq, u_ne, w_eq, w_ne, v_eq, v_ne]
  | succ j ih =>
    intro v hv
    have i1 := idxw_le (W := WNn l) v
    have i2 := idxw_le (W := WNn m) v
    have t1 := x_tellings (sc := sc) (n := n) (XI := XI) (XA := XA) (XP := XP) (XC := XC) (MI := MI) (MA := MA) (ML := ML) hs hS (i := idxw (WNn l) v) (v := v) (by omega) (by omega)
    have t2 := x_tellings (sc := sc) (n := n) (XI := XI) (XA := XA) (XP := XP) (XC := XC) (MI := MI) (MA := MA) (ML := ML) hs' hS' (i := idxw (WNn m) v) (v := v) (by omega) (by omega)
    have ih' := ih (v + 1) (by omega)
    rw [if_neg (show ¬ v + 1 = 0 by omega), idxw, idxw] at ih'
    have c1 : cntw (WNn l) (idxw (WNn l) v) v ≤ 2 := by unfold cntw; split <;> (try split) <;> omega
    have c2 : cntw (WNn m) (idxw (WNn m) v) v ≤ 2 := by unfold cntw; split <;> (try split) <;> omega
    rw [eb_X11_unshared_3]
    by_cases g0 : v = 0
    · rw [if_pos g0]
      subst g0
      rw [show j + 1 - 1 = j by omega, ← ih']
      generalize cntw (WNn l) (idxw (WNn l) 0) 0 = C1 at *
      generalize cntw (WNn m) (idxw (WNn m) 0) 0 = C2 at *
      generalize idxw (WNn l) 0 = I1 at *
      generalize idxw (WNn m) 0 = I2 at *
      clear ih ih' hs hs'
      have t1 : f_X11_tellings sc (n + 6) (p + 51) (iO (I1 : Int)) (iO 0) (hp XI XA XP XC MI MA ML D) = _ := t1
      have t2 : f_X11_tellings sc (n + 6) (q + 51) (iO (I2 : Int)) (iO 0) (hp XI XA XP XC MI MA ML D) = _ := t2
      have e0 : ((0 : Nat) : Int) = 0 := rfl
      simp (disch := (first | assumption | (unfold i32; omega) | (unfold i64; omega) | omega)) only [↓reduceIte, ki_0, ki_1, ki_2, ki_3, ki_4, ki_5, ki_6, ki_7, ki_8, ki_9, ki_10, ki_11, ki_12, ki_13, ki_14, ki_15, ki_20, ki_21, ki_30, ki_31, ki_40, ki_41, ki_50, ki_51, ki_60, ki_63, ki_64, ki_65, ki_100, ki_158, ki_160, ki_200, ki_212, ki_1000, ki_2000, ki_2001, ki_5000, ki_10000, ki_10001, ki_100000, ki_200000, ki_1000000, ki_2000000, ki_3000000, iO_neg, iO_add, iO_sub, iO_mul, kn_4, kn_8, kn_10, kn_20, kn_24, kn_40, kn_41, kn_50, kn_60, kn_158, kn_160, kn_200, kn_212, kn_2001, tn_lt, fn_lt, tn_le, fn_le, tn_eq, fn_eq, x_lt, x_le, x_eq, x_ix, x_nat, t_lt, f_lt, t_le, f_le, t_eq, f_eq, eq_self, and_self, true_and, and_true, false_and, and_false, if_true, if_false, Int.toNat_natCast, bI_s, bL_s, bA_s, bA_n, bV_s, mq_s, mq_n, en_le, bl_0, bl_1, u_eq, u_ne, w_eq, w_ne, v_eq, v_ne, e0, t1, t2, eb_X11_unshared_4]
      try rfl
    · rw [if_neg g0, shrw]
      generalize hC1 : cntw (WNn l) (idxw (WNn l) v) v = C1 at *
      generalize hC2 : cntw (WNn m) (idxw (WNn m) v) v = C2 at *
      generalize idxw (WNn l) v = I1 at *
      generalize idxw (WNn m) v = I2 at *
      by_cases g1 : C1 + C2 = 1
      · rw [if_pos g1, ← ih']
        clear ih ih' hs hs' hC1 hC2
        simp (disch := (first | assumption | (unfold i32; omega) | (unfold i64; omega) | omega)) only [↓reduceIte, ki_0, ki_1, ki_2, ki_3, ki_4, ki_5, ki_6, ki_7, ki_8, ki_9, ki_10, ki_11, ki_12, ki_13, ki_14, ki_15, ki_20, ki_21, ki_30, ki_31, ki_40, ki_41, ki_50, ki_51, ki_60, ki_63, ki_64, ki_65, ki_100, ki_158, ki_160, ki_200, ki_212, ki_1000, ki_2000, ki_2001, ki_5000, ki_10000, ki_10001, ki_100000, ki_200000, ki_1000000, ki_2000000, ki_3000000, iO_neg, iO_add, iO_sub, iO_mul, kn_4, kn_8, kn_10, kn_20, kn_24, kn_40, kn_41, kn_50, kn_60, kn_158, kn_160, kn_200, kn_212, kn_2001, tn_lt, fn_lt, tn_le, fn_le, tn_eq, fn_eq, x_lt, x_le, x_eq, x_ix, x_nat, t_lt, f_lt, t_le, f_le, t_eq, f_eq, eq_self, and_self, true_and, and_true, false_and, and_false, if_true, if_false, Int.toNat_natCast, bI_s, bL_s, bA_s, bA_n, bV_s, mq_s, mq_n, en_le, bl_0, bl_1, u_eq, u_ne, w_eq, w_ne, v_eq, v_ne, t1, t2, eb_X11_unshared_4]
        try rfl
      · rw [if_neg g1]
        clear ih ih' hs hs' hC1 hC2
        simp (disch := (first | assumption | (unfold i32; omega) | (unfold i64; omega) | omega)) only [↓reduceIte, ki_0, ki_1, ki_2, ki_3, ki_4, ki_5, ki_6, ki_7, ki_8, ki_9, ki_10, ki_11, ki_12, ki_13, ki_14, ki_15, ki_20, ki_21, ki_30, ki_31, ki_40, ki_41, ki_50, ki_51, ki_60, ki_63, ki_64, ki_65, ki_100, ki_158, ki_160, ki_200, ki_212, ki_1000, ki_2000, ki_2001, ki_5000, ki_10000, ki_10001, ki_100000, ki_200000, ki_1000000, ki_2000000, ki_3000000, iO_neg, iO_add, iO_sub, iO_mul, kn_4, kn_8, kn_10, kn_20, kn_24, kn_40, kn_41, kn_50, kn_60, kn_158, kn_160, kn_200, kn_212, kn_2001, tn_lt, fn_lt, tn_le, fn_le, tn_eq, fn_eq, x_lt, x_le, x_eq, x_ix, x_nat, t_lt, f_lt, t_le, f_le, t_eq, f_eq, eq_self, and_self, true_and, and_true, false_and, and_false, if_true, if_false, Int.toNat_natCast, bI_s, bL_s, bA_s, bA_n, bV_s, mq_s, mq_n, en_le, bl_0, bl_1, u_eq, u_ne, w_eq, w_ne, v_eq, v_ne, t1, t2]
theorem x_sharesWith {p q : Nat} {l m : SL4} (hs : SlO D p l) (hs' : SlO D q m) : ∃ w : Int, (w = 1 ↔ oneP l m) ∧ (w = 0 ∨ w = 1) ∧ f_X7_sharesWith sc (n + 1) (p + 51) (q + 51) (hp XI XA XP XC MI MA ML D) = some (some (.int (iO w)), hp XI XA XP XC MI MA ML D) := by
  obtain ⟨a, b, c, d, t, qs, ls, k1, k2, k3, hC, hE, hD, hsq, -⟩ := hs
  obtain ⟨a', b', c', d', t', qs', ls', k1', k2', k3', hC', hE', hD', hsq', -⟩ := hs'
  have key := one_iff hE hD hE' hD' hsq hsq'
  have g4 : ∀ (f : Int64 → Option en_R), en_gL (hp XI XA XP XC MI MA ML D) (p + 51) [(6, 0)] 4 f = f (lO a) := fun f => d_gL k1 rfl rfl f
  have g5 : ∀ (f : Int64 → Option en_R), en_gL (hp XI XA XP XC MI MA ML D) (p + 51) [(6, 0)] 5 f = f (lO b) := fun f => d_gL k1 rfl rfl f
  have g6 : ∀ (f : Int64 → Option en_R), en_gL (hp XI XA XP XC MI MA ML D) (p + 51) [(6, 0)] 6 f = f (lO c) := fun f => d_gL k1 rfl rfl f
  have g7 : ∀ (f : Int64 → Option en_R), en_gL (hp XI XA XP XC MI MA ML D) (p + 51) [(6, 0)] 7 f = f (lO d) := fun f => d_gL k1 rfl rfl f
  have h4 : ∀ (f : Int64 → Option en_R), en_gL (hp XI XA XP XC MI MA ML D) (q + 51) [(6, 0)] 4 f = f (lO a') := fun f => d_gL k1' rfl rfl f
  have h5 : ∀ (f : Int64 → Option en_R), en_gL (hp XI XA XP XC MI MA ML D) (q + 51) [(6, 0)] 5 f = f (lO b') := fun f => d_gL k1' rfl rfl f
  have h6 : ∀ (f : Int64 → Option en_R), en_gL (hp XI XA XP XC MI MA ML D) (q + 51) [(6, 0)] 6 f = f (lO c') := fun f => d_gL k1' rfl rfl f
  have h7 : ∀ (f : Int64 → Option en_R), en_gL (hp XI XA XP XC MI MA ML D) (q + 51) [(6, 0)] 7 f = f (lO d') := fun f => d_gL k1' rfl rfl f
  obtain ⟨x1, x2, x3, x4, x5, x6, x7, x8, x9, -⟩ := id hC
  obtain ⟨y1, y2, y3, y4, y5, y6, y7, y8, y9, -⟩ := id hC'
  have pr : ∀ (x y : Int), -2000 ≤ x → x ≤ 2000 → -2000 ≤ y → y ≤ 2000 → -12000000 ≤ x * y ∧ x * y ≤ 12000000 := by
    intro x y a1 a2 a3 a4
    have := mul_bd (x := x) (y := y + 2000) (a := 2000) (b := 4000) (by omega) (by omega) (by omega) (by omega)
    rw [Int.mul_add] at this
    omega
  have m1 := pr (a - c) (a' - c') (by omega) (by omega) (by omega) (by omega)
  have m2 := pr b b' (by omega) (by omega) (by omega) (by omega)
  have m3 := mul_bd (x := b * b') (y := d) (a := 12000000) (b := 50) (by omega) (by omega) (by omega) (by omega)
  have m4 := pr c c' (by omega) (by omega) (by omega) (by omega)
  have m5 := pr (a - c) b' (by omega) (by omega) (by omega) (by omega)
  have m6 := pr (a' - c') b (by omega) (by omega) (by omega) (by omega)
  rw [e_X7_sharesWith]
  unfold shr2 at key
  have key : oneP l m ↔ _ := key
  by_cases q1 : b = 0
  · refine ⟨0, ⟨fun h => by omega, fun h => absurd q1 (key.mp h).1⟩, Or.inl rfl, ?_⟩
    simp (disch := (first | assumption | (unfold i32; omega) | (unfold i64; omega) | omega)) only [↓reduceIte, ki_0, ki_1, ki_2, ki_3, ki_4, ki_5, ki_6, ki_7, ki_8, ki_9, ki_10, ki_11, ki_12, ki_13, ki_14, ki_15, ki_20, ki_21, ki_30, ki_31, ki_40, ki_41, ki_50, ki_51, ki_60, ki_63, ki_64, ki_65, ki_100, ki_158, ki_160, ki_200, ki_212, ki_1000, ki_2000, ki_2001, ki_5000, ki_10000, ki_10001, ki_100000, ki_200000, ki_1000000, ki_2000000, ki_3000000, iO_neg, iO_add, iO_sub, iO_mul, kn_4, kn_8, kn_10, kn_20, kn_24, kn_40, kn_41, kn_50, kn_60, kn_158, kn_160, kn_200, kn_212, kn_2001, tn_lt, fn_lt, tn_le, fn_le, tn_eq, fn_eq, x_lt, x_le, x_eq, x_ix, x_nat, t_lt, f_lt, t_le, f_le, t_eq, f_eq, eq_self, and_self, true_and, and_true, false_and, and_false, if_true, if_false, Int.toNat_natCast, bI_s, bL_s, bA_s, bA_n, bV_s, mq_s, mq_n, en_le, bl_0, bl_1, u_eq, u_ne, w_eq, w_ne, v_eq, v_ne, g5, kl_0, lc_lt, lc_le, lc_gt, lc_ge, lc_eq, y_lt, y_le, y_eq]
  by_cases q2 : b' = 0
  · refine ⟨0, ⟨fun h => by omega, fun h => absurd q2 (key.mp h).2.1⟩, Or.inl rfl, ?_⟩
    simp (disch := (first | assumption | (unfold i32; omega) | (unfold i64; omega) | omega)) only [↓reduceIte, ki_0, ki_1, ki_2, ki_3, ki_4, ki_5, ki_6, ki_7, ki_8, ki_9, ki_10, ki_11, ki_12, ki_13, ki_14, ki_15, ki_20, ki_21, ki_30, ki_31, ki_40, ki_41, ki_50, ki_51, ki_60, ki_63, ki_64, ki_65, ki_100, ki_158, ki_160, ki_200, ki_212, ki_1000, ki_2000, ki_2001, ki_5000, ki_10000, ki_10001, ki_100000, ki_200000, ki_1000000, ki_2000000, ki_3000000, iO_neg, iO_add, iO_sub, iO_mul, kn_4, kn_8, kn_10, kn_20, kn_24, kn_40, kn_41, kn_50, kn_60, kn_158, kn_160, kn_200, kn_212, kn_2001, tn_lt, fn_lt, tn_le, fn_le, tn_eq, fn_eq, x_lt, x_le, x_eq, x_ix, x_nat, t_lt, f_lt, t_le, f_le, t_eq, f_eq, eq_self, and_self, true_and, and_true, false_and, and_false, if_true, if_false, Int.toNat_natCast, bI_s, bL_s, bA_s, bA_n, bV_s, mq_s, mq_n, en_le, bl_0, bl_1, u_eq, u_ne, w_eq, w_ne, v_eq, v_ne, g5, h5, kl_0, lc_lt, lc_le, lc_gt, lc_ge, lc_eq, y_lt, y_le, y_eq]
  by_cases q3 : d = d'
  · by_cases q4 : (a - c) * (a' - c') + b * b' * d = c * c'
    · by_cases q5 : (a - c) * b' + (a' - c') * b = 0
      · refine ⟨1, ⟨fun _ => key.mpr ⟨q1, q2, q3, q4, q5⟩, fun _ => rfl⟩, Or.inr rfl, ?_⟩
        simp (disch := (first | assumption | (unfold i32; omega) | (unfold i64; omega) | omega)) only [↓reduceIte, ki_0, ki_1, ki_2, ki_3, ki_4, ki_5, ki_6, ki_7, ki_8, ki_9, ki_10, ki_11, ki_12, ki_13, ki_14, ki_15, ki_20, ki_21, ki_30, ki_31, ki_40, ki_41, ki_50, ki_51, ki_60, ki_63, ki_64, ki_65, ki_100, ki_158, ki_160, ki_200, ki_212, ki_1000, ki_2000, ki_2001, ki_5000, ki_10000, ki_10001, ki_100000, ki_200000, ki_1000000, ki_2000000, ki_3000000, iO_neg, iO_add, iO_sub, iO_mul, kn_4, kn_8, kn_10, kn_20, kn_24, kn_40, kn_41, kn_50, kn_60, kn_158, kn_160, kn_200, kn_212, kn_2001, tn_lt, fn_lt, tn_le, fn_le, tn_eq, fn_eq, x_lt, x_le, x_eq, x_ix, x_nat, t_lt, f_lt, t_le, f_le, t_eq, f_eq, eq_self, and_self, true_and, and_true, false_and, and_false, if_true, if_false, Int.toNat_natCast, bI_s, bL_s, bA_s, bA_n, bV_s, mq_s, mq_n, en_le, bl_0, bl_1, u_eq, u_ne, w_eq, w_ne, v_eq, v_ne, g4, g5, g6, g7, h4, h5, h6, h7, kl_0, lO_sub, lO_mul, lO_add, lc_lt, lc_le, lc_gt, lc_ge, lc_eq, y_lt, y_le, y_eq]
      · refine ⟨0, ⟨fun h => by omega, fun h => absurd (key.mp h).2.2.2.2 q5⟩, Or.inl rfl, ?_⟩
        simp (disch := (first | assumption | (unfold i32; omega) | (unfold i64; omega) | omega)) only [↓reduceIte, ki_0, ki_1, ki_2, ki_3, ki_4, ki_5, ki_6, ki_7, ki_8, ki_9, ki_10, ki_11, ki_12, ki_13, ki_14, ki_15, ki_20, ki_21, ki_30, ki_31, ki_40, ki_41, ki_50, ki_51, ki_60, ki_63, ki_64, ki_65, ki_100, ki_158, ki_160, ki_200, ki_212, ki_1000, ki_2000, ki_2001, ki_5000, ki_10000, ki_10001, ki_100000, ki_200000, ki_1000000, ki_2000000, ki_3000000, iO_neg, iO_add, iO_sub, iO_mul, kn_4, kn_8, kn_10, kn_20, kn_24, kn_40, kn_41, kn_50, kn_60, kn_158, kn_160, kn_200, kn_212, kn_2001, tn_lt, fn_lt, tn_le, fn_le, tn_eq, fn_eq, x_lt, x_le, x_eq, x_ix, x_nat, t_lt, f_lt, t_le, f_le, t_eq, f_eq, eq_self, and_self, true_and, and_true, false_and, and_false, if_true, if_false, Int.toNat_natCast, bI_s, bL_s, bA_s, bA_n, bV_s, mq_s, mq_n, en_le, bl_0, bl_1, u_eq, u_ne, w_eq, w_ne, v_eq, v_ne, g4, g5, g6, g7, h4, h5, h6, h7, kl_0, lO_sub, lO_mul, lO_add, lc_lt, lc_le, lc_gt, lc_ge, lc_eq, y_lt, y_le, y_eq]
    · refine ⟨0, ⟨fun h => by omega, fun h => absurd (key.mp h).2.2.2.1 q4⟩, Or.inl rfl, ?_⟩
      simp (disch := (first | assumption | (unfold i32; omega) | (unfold i64; omega) | omega)) only [↓reduceIte, ki_0, ki_1, ki_2, ki_3, ki_4, ki_5, ki_6, ki_7, ki_8, ki_9, ki_10, ki_11, ki_12, ki_13, ki_14, ki_15, ki_20, ki_21, ki_30, ki_31, ki_40, ki_41, ki_50, ki_51, ki_60, ki_63, ki_64, ki_65, ki_100, ki_158, ki_160, ki_200, ki_212, ki_1000, ki_2000, ki_2001, ki_5000, ki_10000, ki_10001, ki_100000, ki_200000, ki_1000000, ki_2000000, ki_3000000, iO_neg, iO_add, iO_sub, iO_mul, kn_4, kn_8, kn_10, kn_20, kn_24, kn_40, kn_41, kn_50, kn_60, kn_158, kn_160, kn_200, kn_212, kn_2001, tn_lt, fn_lt, tn_le, fn_le, tn_eq, fn_eq, x_lt, x_le, x_eq, x_ix, x_nat, t_lt, f_lt, t_le, f_le, t_eq, f_eq, eq_self, and_self, true_and, and_true, false_and, and_false, if_true, if_false, Int.toNat_natCast, bI_s, bL_s, bA_s, bA_n, bV_s, mq_s, mq_n, en_le, bl_0, bl_1, u_eq, u_ne, w_eq, w_ne, v_eq, v_ne, g4, g5, g6, g7, h4, h5, h6, h7, kl_0, lO_sub, lO_mul, lO_add, lc_lt, lc_le, lc_gt, lc_ge, lc_eq, y_lt, y_le, y_eq]
  · refine ⟨0, ⟨fun h => by omega, fun h => absurd (key.mp h).2.2.1 q3⟩, Or.inl rfl, ?_⟩
    simp (disch := (first | assumption | (unfold i32; omega) | (unfold i64; omega) | omega)) only [↓reduceIte, ki_0, ki_1, ki_2, ki_3, ki_4, ki_5, ki_6, ki_7, ki_8, ki_9, ki_10, ki_11, ki_12, ki_13, ki_14, ki_15, ki_20, ki_21, ki_30, ki_31, ki_40, ki_41, ki_50, ki_51, ki_60, ki_63, ki_64, ki_65, ki_100, ki_158, ki_160, ki_200, ki_212, ki_1000, ki_2000, ki_2001, ki_5000, ki_10000, ki_10001, ki_100000, ki_200000, ki_1000000, ki_2000000, ki_3000000, iO_neg, iO_add, iO_sub, iO_mul, kn_4, kn_8, kn_10, kn_20, kn_24, kn_40, kn_41, kn_50, kn_60, kn_158, kn_160, kn_200, kn_212, kn_2001, tn_lt, fn_lt, tn_le, fn_le, tn_eq, fn_eq, x_lt, x_le, x_eq, x_ix, x_nat, t_lt, f_lt, t_le, f_le, t_eq, f_eq, eq_self, and_self, true_and, and_true, false_and, and_false, if_true, if_false, Int.toNat_natCast, bI_s, bL_s, bA_s, bA_n, bV_s, mq_s, mq_n, en_le, bl_0, bl_1, u_eq, u_ne, w_eq, w_ne, v_eq, v_ne, g5, h5, g7, h7, kl_0, lc_lt, lc_le, lc_gt, lc_ge, lc_eq, y_lt, y_le, y_eq]
end SHC
section SHS
variable {sc : en_S} {n : Nat} {S : ST5}
theorem cs_share (hS : OK5 S) {r s : Int} (hr : i32 r) (hs : i32 s) : CS S S (p_share S r s) (fun z => f_X11_share sc (n + 40) 1 (iO r) (iO s) z) := by
  apply cs_ask
  intro XI XA XP XC MI MA ML D Γ hV
  show f_X11_share sc (n + 40) 1 (iO r) (iO s) _ = _
  rw [e_X11_share]
  unfold p_share
  cases hq : slq S r with
  | none =>
    have h1 := x_slopeAt0 (sc := sc) (n := n + 38) (XC := XC) (MI := MI) (MA := MA) (ML := ML) hV hS hr hq
    cases hq2 : slq S s with
    | none =>
      have h2 := x_slopeAt0 (sc := sc) (n := n + 38) (XC := XC) (MI := MI) (MA := MA) (ML := ML) hV hS hs hq2
      clear hV
      simp (disch := (first | assumption | (unfold i32; omega) | (unfold i64; omega) | omega)) only [↓reduceIte, ki_0, ki_1, ki_2, ki_3, ki_4, ki_5, ki_6, ki_7, ki_8, ki_9, ki_10, ki_11, ki_12, ki_13, ki_14, ki_15, ki_20, ki_21, ki_30, ki_31, ki_40, ki_41, ki_50, ki_51, ki_60, ki_63, ki_64, ki_65, ki_100, ki_158, ki_160, ki_200, ki_212, ki_1000, ki_2000, ki_2001, ki_5000, ki_10000, ki_10001, ki_100000, ki_200000, ki_1000000, ki_2000000, ki_3000000, iO_neg, iO_add, iO_sub, iO_mul, kn_4, kn_8, kn_10, kn_20, kn_24, kn_40, kn_41, kn_50, kn_60, kn_158, kn_160, kn_200, kn_212, kn_2001, tn_lt, fn_lt, tn_le, fn_le, tn_eq, fn_eq, x_lt, x_le, x_eq, x_ix, x_nat, t_lt, f_lt, t_le, f_le, t_eq, f_eq, eq_self, and_self, true_and, and_true, false_and, and_false, if_true, if_false, Int.toNat_natCast, bI_s, bL_s, bA_s, bA_n, bV_s, mq_s, mq_n, en_le, bl_0, bl_1, u_eq, u_ne, w_eq, w_ne, v_eq, v_ne, ↓hp_cc_1, ↓hp_g_1_0, ↓hp_g_1_1, ↓hp_g_1_2, ↓hp_g_1_3, ↓hp_g_1_4, ↓hp_g_1_5, ↓hp_g_1_6, ↓hp_g_1_7, ↓hp_g_1_8, ↓hp_p_1_8, ↓hp_g_1_9, ↓hp_p_1_9, ↓hp_g_1_10, ↓hp_p_1_10, ↓hp_a_2, ↓hp_n_2, ↓hp_a_3, ↓hp_n_3, ↓hp_a_4, h1, h2]
    | some m =>
      obtain ⟨k', rfl, hk', hq2'⟩ := slq_some hq2
      obtain ⟨p', c1', c2'⟩ := hV.2.2.2.2.1 k' m hq2'
      have h2 := x_slopeAt1 (sc := sc) (n := n + 38) (XC := XC) (MI := MI) (MA := MA) (ML := ML) hV hS hq2' c1'
      clear hV
      simp (disch := (first | assumption | (unfold i32; omega) | (unfold i64; omega) | omega)) only [↓reduceIte, ki_0, ki_1, ki_2, ki_3, ki_4, ki_5, ki_6, ki_7, ki_8, ki_9, ki_10, ki_11, ki_12, ki_13, ki_14, ki_15, ki_20, ki_21, ki_30, ki_31, ki_40, ki_41, ki_50, ki_51, ki_60, ki_63, ki_64, ki_65, ki_100, ki_158, ki_160, ki_200, ki_212, ki_1000, ki_2000, ki_2001, ki_5000, ki_10000, ki_10001, ki_100000, ki_200000, ki_1000000, ki_2000000, ki_3000000, iO_neg, iO_add, iO_sub, iO_mul, kn_4, kn_8, kn_10, kn_20, kn_24, kn_40, kn_41, kn_50, kn_60, kn_158, kn_160, kn_200, kn_212, kn_2001, tn_lt, fn_lt, tn_le, fn_le, tn_eq, fn_eq, x_lt, x_le, x_eq, x_ix, x_nat, t_lt, f_lt, t_le, f_le, t_eq, f_eq, eq_self, and_self, true_and, and_true, false_and, and_false, if_true, if_false, Int.toNat_natCast, bI_s, bL_s, bA_s, bA_n, bV_s, mq_s, mq_n, en_le, bl_0, bl_1, u_eq, u_ne, w_eq, w_ne, v_eq, v_ne, ↓hp_cc_1, ↓hp_g_1_0, ↓hp_g_1_1, ↓hp_g_1_2, ↓hp_g_1_3, ↓hp_g_1_4, ↓hp_g_1_5, ↓hp_g_1_6, ↓hp_g_1_7, ↓hp_g_1_8, ↓hp_p_1_8, ↓hp_g_1_9, ↓hp_p_1_9, ↓hp_g_1_10, ↓hp_p_1_10, ↓hp_a_2, ↓hp_n_2, ↓hp_a_3, ↓hp_n_3, ↓hp_a_4, h1, h2]
  | some l =>
    obtain ⟨k, rfl, hk, hq1'⟩ := slq_some hq
    obtain ⟨p, c1, c2⟩ := hV.2.2.2.2.1 k l hq1'
    have h1 := x_slopeAt1 (sc := sc) (n := n + 38) (XC := XC) (MI := MI) (MA := MA) (ML := ML) hV hS hq1' c1
    cases hq2 : slq S s with
    | none =>
      have h2 := x_slopeAt0 (sc := sc) (n := n + 38) (XC := XC) (MI := MI) (MA := MA) (ML := ML) hV hS hs hq2
      clear hV
      simp (disch := (first | assumption | (unfold i32; omega) | (unfold i64; omega) | omega)) only [↓reduceIte, ki_0, ki_1, ki_2, ki_3, ki_4, ki_5, ki_6, ki_7, ki_8, ki_9, ki_10, ki_11, ki_12, ki_13, ki_14, ki_15, ki_20, ki_21, ki_30, ki_31, ki_40, ki_41, ki_50, ki_51, ki_60, ki_63, ki_64, ki_65, ki_100, ki_158, ki_160, ki_200, ki_212, ki_1000, ki_2000, ki_2001, ki_5000, ki_10000, ki_10001, ki_100000, ki_200000, ki_1000000, ki_2000000, ki_3000000, iO_neg, iO_add, iO_sub, iO_mul, kn_4, kn_8, kn_10, kn_20, kn_24, kn_40, kn_41, kn_50, kn_60, kn_158, kn_160, kn_200, kn_212, kn_2001, tn_lt, fn_lt, tn_le, fn_le, tn_eq, fn_eq, x_lt, x_le, x_eq, x_ix, x_nat, t_lt, f_lt, t_le, f_le, t_eq, f_eq, eq_self, and_self, true_and, and_true, false_and, and_false, if_true, if_false, Int.toNat_natCast, bI_s, bL_s, bA_s, bA_n, bV_s, mq_s, mq_n, en_le, bl_0, bl_1, u_eq, u_ne, w_eq, w_ne, v_eq, v_ne, ↓hp_cc_1, ↓hp_g_1_0, ↓hp_g_1_1, ↓hp_g_1_2, ↓hp_g_1_3, ↓hp_g_1_4, ↓hp_g_1_5, ↓hp_g_1_6, ↓hp_g_1_7, ↓hp_g_1_8, ↓hp_p_1_8, ↓hp_g_1_9, ↓hp_p_1_9, ↓hp_g_1_10, ↓hp_p_1_10, ↓hp_a_2, ↓hp_n_2, ↓hp_a_3, ↓hp_n_3, ↓hp_a_4, h1, h2]
    | some m =>
      obtain ⟨k', rfl, hk', hq2'⟩ := slq_some hq2
      obtain ⟨p', c1', c2'⟩ := hV.2.2.2.2.1 k' m hq2'
      have h2 := x_slopeAt1 (sc := sc) (n := n + 38) (XC := XC) (MI := MI) (MA := MA) (ML := ML) hV hS hq2' c1'
      have hSl := hS.2.2.1 l (List.mem_of_getElem? hq1')
      have hSm := hS.2.2.1 m (List.mem_of_getElem? hq2')
      obtain ⟨w, w1, w2, w3⟩ := x_sharesWith (sc := sc) (n := n + 38) (XI := XI) (XA := XA) (XP := XP) (XC := XC) (MI := MI) (MA := MA) (ML := ML) c2 c2'
      have d2 := c2
      obtain ⟨a, b, c, d, t, qs, ls, k1, -⟩ := d2
      have d2' := c2'
      obtain ⟨a', b', c', d', t', qs', ls', k1', -⟩ := d2'
      have gc : ∀ (g : Nat → Option en_R), en_cc (hp XI XA XP XC MI MA ML D) (p + 51) g = g 6 := fun g => d_cc k1 g
      have gc' : ∀ (g : Nat → Option en_R), en_cc (hp XI XA XP XC MI MA ML D) (p' + 51) g = g 6 := fun g => d_cc k1' g
      have s1 := x_sum (sc := sc) (n := n + 36) (XI := XI) (XA := XA) (XP := XP) (XC := XC) (MI := MI) (MA := MA) (ML := ML) c2 (x := -1) (y := 2) (by omega) (by omega) (by omega) (by omega)
      have s2 := x_sum (sc := sc) (n := n + 36) (XI := XI) (XA := XA) (XP := XP) (XC := XC) (MI := MI) (MA := MA) (ML := ML) c2' (x := -1) (y := 2) (by omega) (by omega) (by omega) (by omega)
      have s1 : f_X7_signOfSum sc (n + 38) (p + 51) (-1) 2 (hp XI XA XP XC MI MA ML D) = some (some (.int (iO (sgn l (-1) 2))), hp XI XA XP XC MI MA ML D) := s1
      have s2 : f_X7_signOfSum sc (n + 38) (p' + 51) (-1) 2 (hp XI XA XP XC MI MA ML D) = some (some (.int (iO (sgn m (-1) 2))), hp XI XA XP XC MI MA ML D) := s2
      have u3 := x_unshared3 (sc := sc) (n := n + 32) (XI := XI) (XA := XA) (XP := XP) (XC := XC) (MI := MI) (MA := MA) (ML := ML) c2 hSl c2' hSm 5001 0 (by omega)
      rw [if_pos rfl] at u3
      have u3 : b_X11_unshared_3 sc (n + 38) (p + 51) (p' + 51) 1 1 0 (hp XI XA XP XC MI MA ML D) = some (some (.int (iO (shrw (WNn l) (WNn m) 5000 1))), hp XI XA XP XC MI MA ML D) := u3
      have r1 : sgn l (-1) 2 = -1 ∨ sgn l (-1) 2 = 0 ∨ sgn l (-1) 2 = 1 := sg_range _ _ _
      have r2 : sgn m (-1) 2 = -1 ∨ sgn m (-1) 2 = 0 ∨ sgn m (-1) 2 = 1 := sg_range _ _ _
      dsimp only
      generalize sgn l (-1) 2 = P at *
      generalize sgn m (-1) 2 = Q at *
      generalize shrw (WNn l) (WNn m) 5000 1 = R at *
      clear hV c2 c2' k1 k1'
      rcases w2 with e | e
      · rw [if_neg (show ¬ oneP l m from fun h => by have := w1.mpr h; omega)]
        rw [e] at w3
        have hun : f_X11_unshared sc (n + 39) (p + 51) (p' + 51) (hp XI XA XP XC MI MA ML D) = some (some (.int (iO (if P ≤ 0 ∨ Q ≤ 0 then 1 else R))), hp XI XA XP XC MI MA ML D) := by
          rw [e_X11_unshared, gc, if_pos rfl, s1, bI_s]
          by_cases g1 : P ≤ 0
          · rw [if_pos (show iO P ≤ 0 from ple (a := P) (b := 0) (by unfold i32; omega) (by unfold i32; omega) g1), if_pos (Or.inl g1)]
            rfl
          · rw [if_neg (show ¬ iO P ≤ 0 from nle (a := P) (b := 0) (by unfold i32; omega) (by unfold i32; omega) (by omega)), gc', if_pos rfl, s2, bI_s]
            by_cases g2 : Q ≤ 0
            · rw [if_neg (show ¬ 0 < iO Q from nlt (a := 0) (b := Q) (by unfold i32; omega) (by unfold i32; omega) (by omega)), if_pos (Or.inr g2)]
              rfl
            · rw [if_pos (show 0 < iO Q from plt (a := 0) (b := Q) (by unfold i32; omega) (by unfold i32; omega) (by omega)), if_neg (by omega), u3]
        clear w1 r1 r2
        simp (disch := (first | assumption | (unfold i32; omega) | (unfold i64; omega) | omega)) only [↓reduceIte, ki_0, ki_1, ki_2, ki_3, ki_4, ki_5, ki_6, ki_7, ki_8, ki_9, ki_10, ki_11, ki_12, ki_13, ki_14, ki_15, ki_20, ki_21, ki_30, ki_31, ki_40, ki_41, ki_50, ki_51, ki_60, ki_63, ki_64, ki_65, ki_100, ki_158, ki_160, ki_200, ki_212, ki_1000, ki_2000, ki_2001, ki_5000, ki_10000, ki_10001, ki_100000, ki_200000, ki_1000000, ki_2000000, ki_3000000, iO_neg, iO_add, iO_sub, iO_mul, kn_4, kn_8, kn_10, kn_20, kn_24, kn_40, kn_41, kn_50, kn_60, kn_158, kn_160, kn_200, kn_212, kn_2001, tn_lt, fn_lt, tn_le, fn_le, tn_eq, fn_eq, x_lt, x_le, x_eq, x_ix, x_nat, t_lt, f_lt, t_le, f_le, t_eq, f_eq, eq_self, and_self, true_and, and_true, false_and, and_false, if_true, if_false, Int.toNat_natCast, bI_s, bL_s, bA_s, bA_n, bV_s, mq_s, mq_n, en_le, bl_0, bl_1, u_eq, u_ne, w_eq, w_ne, v_eq, v_ne, ↓hp_cc_1, ↓hp_g_1_0, ↓hp_g_1_1, ↓hp_g_1_2, ↓hp_g_1_3, ↓hp_g_1_4, ↓hp_g_1_5, ↓hp_g_1_6, ↓hp_g_1_7, ↓hp_g_1_8, ↓hp_p_1_8, ↓hp_g_1_9, ↓hp_p_1_9, ↓hp_g_1_10, ↓hp_p_1_10, ↓hp_a_2, ↓hp_n_2, ↓hp_a_3, ↓hp_n_3, ↓hp_a_4, h1, h2, gc, w3, hun]
      · rw [if_pos (w1.mp e)]
        rw [e] at w3
        clear w1 r1 r2
        simp (disch := (first | assumption | (unfold i32; omega) | (unfold i64; omega) | omega)) only [↓reduceIte, ki_0, ki_1, ki_2, ki_3, ki_4, ki_5, ki_6, ki_7, ki_8, ki_9, ki_10, ki_11, ki_12, ki_13, ki_14, ki_15, ki_20, ki_21, ki_30, ki_31, ki_40, ki_41, ki_50, ki_51, ki_60, ki_63, ki_64, ki_65, ki_100, ki_158, ki_160, ki_200, ki_212, ki_1000, ki_2000, ki_2001, ki_5000, ki_10000, ki_10001, ki_100000, ki_200000, ki_1000000, ki_2000000, ki_3000000, iO_neg, iO_add, iO_sub, iO_mul, kn_4, kn_8, kn_10, kn_20, kn_24, kn_40, kn_41, kn_50, kn_60, kn_158, kn_160, kn_200, kn_212, kn_2001, tn_lt, fn_lt, tn_le, fn_le, tn_eq, fn_eq, x_lt, x_le, x_eq, x_ix, x_nat, t_lt, f_lt, t_le, f_le, t_eq, f_eq, eq_self, and_self, true_and, and_true, false_and, and_false, if_true, if_false, Int.toNat_natCast, bI_s, bL_s, bA_s, bA_n, bV_s, mq_s, mq_n, en_le, bl_0, bl_1, u_eq, u_ne, w_eq, w_ne, v_eq, v_ne, ↓hp_cc_1, ↓hp_g_1_0, ↓hp_g_1_1, ↓hp_g_1_2, ↓hp_g_1_3, ↓hp_g_1_4, ↓hp_g_1_5, ↓hp_g_1_6, ↓hp_g_1_7, ↓hp_g_1_8, ↓hp_p_1_8, ↓hp_g_1_9, ↓hp_p_1_9, ↓hp_g_1_10, ↓hp_p_1_10, ↓hp_a_2, ↓hp_n_2, ↓hp_a_3, ↓hp_n_3, ↓hp_a_4, h1, h2, gc, w3]
end SHS
-- FILE 99f
/-! share: the model -/
section SHM
variable {sc : en_S} {n : Nat} {XI : Nat → Int32} {XA : Nat → Nat → Int32} {XP : Nat → Nat → Option Nat} {XC : Value} {MI : Nat → Int32} {MA : Nat → Nat → Int32} {ML : Nat → Nat → Int64} {D : en_H} {k k' : Nat} {l m : SL4}
theorem m_areOne (hk : k < 8) (hk' : k' < 8) (hM : MS MA k l.1 l.2.1 l.2.2.1 l.2.2.2) (hM' : MS MA k' m.1 m.2.1 m.2.2.1 m.2.2.2) (hS : SL l.1 l.2.1 l.2.2.1 l.2.2.2) (hS' : SL m.1 m.2.1 m.2.2.1 m.2.2.2) : ∃ w : Int, (w = 1 ↔ oneP l m) ∧ (w = 0 ∨ w = 1) ∧ f_X12_areOne sc (n + 1) 26 (iO (k : Int)) (iO (k' : Int)) (hp XI XA XP XC MI MA ML D) = some (some (.int (iO w)), hp XI XA XP XC MI MA ML D) := by
  obtain ⟨a, b, c, d⟩ := l
  obtain ⟨a', b', c', d'⟩ := m
  obtain ⟨m0, m1, m2, m3⟩ := hM
  obtain ⟨n0, n1, n2, n3⟩ := hM'
  obtain ⟨x1, x2, x3, x4, x5, x6, x7, x8, -⟩ := hS
  obtain ⟨y1, y2, y3, y4, y5, y6, y7, y8, -⟩ := hS'
  dsimp only at *
  have pr : ∀ (x y : Int), -2000 ≤ x → x ≤ 2000 → -2000 ≤ y → y ≤ 2000 → -12000000 ≤ x * y ∧ x * y ≤ 12000000 := by
    intro x y a1 a2 a3 a4
    have := mul_bd (x := x) (y := y + 2000) (a := 2000) (b := 4000) (by omega) (by omega) (by omega) (by omega)
    rw [Int.mul_add] at this
    omega
  have q1 := sq_bd (x := a - c) (K := 1100) (by omega) (by omega)
  have q2 := sq_bd (x := b) (K := 20) (by omega) (by omega)
  have q3 := mul_bd (x := b * b) (y := d) (a := 400) (b := 50) (by omega) (by omega) (by omega) (by omega)
  have q4 := pr a (a - c) (by omega) (by omega) (by omega) (by omega)
  have hN : -20000 ≤ (a - c) * (a - c) - b * b * d ∧ (a - c) * (a - c) - b * b * d ≤ 1230000 := by omega
  have hU : -12020000 ≤ a * (a - c) - b * b * d ∧ a * (a - c) - b * b * d ≤ 12020000 := by omega
  have u1 := mul_bd (x := a * (a - c) - b * b * d) (y := c') (a := 12020000) (b := 100) (by omega) (by omega) (by omega) (by omega)
  have u2 := mul_bd (x := (a - c) * (a - c) - b * b * d) (y := a' + 1000) (a := 1230000) (b := 2000) (by omega) (by omega) (by omega) (by omega)
  rw [Int.mul_add] at u2
  have u3 : a' * ((a - c) * (a - c) - b * b * d) = ((a - c) * (a - c) - b * b * d) * a' := Int.mul_comm _ _
  have v1 := mul_bd (x := -b) (y := c) (a := 20) (b := 100) (by omega) (by omega) (by omega) (by omega)
  have v2 := sq_bd (x := -b * c) (K := 2000) (by omega) (by omega)
  have v3 := mul_bd (x := -b * c * (-b * c)) (y := d) (a := 4000000) (b := 50) (by omega) (by omega) (by omega) (by omega)
  have v4 := mul_bd (x := -b * c * (-b * c) * d) (y := c') (a := 200000000) (b := 100) (by omega) (by omega) (by omega) (by omega)
  have v5 := mul_bd (x := -b * c * (-b * c) * d * c') (y := c') (a := 20000000000) (b := 100) (by omega) (by omega) (by omega) (by omega)
  have w1 := sq_bd (x := b') (K := 20) (by omega) (by omega)
  have w2 := mul_bd (x := b' * b') (y := d') (a := 400) (b := 50) (by omega) (by omega) (by omega) (by omega)
  have w3 := mul_bd (x := b' * b' * d') (y := (a - c) * (a - c) - b * b * d + 20000) (a := 20000) (b := 1250000) (by omega) (by omega) (by omega) (by omega)
  rw [Int.mul_add] at w3
  have w4 := mul_bd (x := b' * b' * d' * ((a - c) * (a - c) - b * b * d)) (y := (a - c) * (a - c) - b * b * d + 20000) (a := 26000000000) (b := 1250000) (by omega) (by omega) (by omega) (by omega)
  rw [Int.mul_add] at w4
  rw [e_X12_areOne]
  unfold oneP
  show ∃ w : Int, (w = 1 ↔ (b ≠ 0 ∧ b' ≠ 0 ∧ (a * (a - c) - b * b * d) * c' = a' * ((a - c) * (a - c) - b * b * d) ∧ ((0 < -b * c ↔ 0 < (a - c) * (a - c) - b * b * d) ↔ 0 < b') ∧ -b * c * (-b * c) * d * c' * c' = b' * b' * d' * ((a - c) * (a - c) - b * b * d) * ((a - c) * (a - c) - b * b * d))) ∧ _
  by_cases g1 : b = 0
  · refine ⟨0, ⟨fun h => by omega, fun h => absurd g1 h.1⟩, Or.inl rfl, ?_⟩
    clear u1 u2 u3 v1 v2 v3 v4 v5 w1 w2 w3 w4 hN hU q1 q2 q3 q4 pr
    simp (disch := (first | assumption | (unfold i32; omega) | (unfold i64; omega) | omega)) only [↓reduceIte, ki_0, ki_1, ki_2, ki_3, ki_4, ki_5, ki_6, ki_7, ki_8, ki_9, ki_10, ki_11, ki_12, ki_13, ki_14, ki_15, ki_20, ki_21, ki_30, ki_31, ki_40, ki_41, ki_50, ki_51, ki_60, ki_63, ki_64, ki_65, ki_100, ki_158, ki_160, ki_200, ki_212, ki_1000, ki_2000, ki_2001, ki_5000, ki_10000, ki_10001, ki_100000, ki_200000, ki_1000000, ki_2000000, ki_3000000, iO_neg, iO_add, iO_sub, iO_mul, kn_4, kn_8, kn_10, kn_20, kn_24, kn_40, kn_41, kn_50, kn_60, kn_158, kn_160, kn_200, kn_212, kn_2001, tn_lt, fn_lt, tn_le, fn_le, tn_eq, fn_eq, x_lt, x_le, x_eq, x_ix, x_nat, t_lt, f_lt, t_le, f_le, t_eq, f_eq, eq_self, and_self, true_and, and_true, false_and, and_false, if_true, if_false, Int.toNat_natCast, bI_s, bL_s, bA_s, bA_n, bV_s, mq_s, mq_n, en_le, bl_0, bl_1, u_eq, u_ne, w_eq, w_ne, v_eq, v_ne, ↓hp_cc_26, ↓hp_g_26_0, ↓hp_p_26_0, ↓hp_g_26_1, ↓hp_p_26_1, ↓hp_g_26_2, ↓hp_p_26_2, ↓hp_g_26_3, ↓hp_g_26_4, ↓hp_g_26_5, ↓hp_g_26_6, ↓hp_g_26_7, ↓hp_g_26_8, ↓hp_g_26_9, ↓hp_g_26_10, ↓hp_g_26_11, ↓hp_g_26_12, ↓hp_g_26_13, ↓hp_g_26_14, ↓hp_g_26_15, ↓hp_p_26_15, ↓hp_g_26_16, ↓hp_g_26_17, ↓hp_g_26_18, ↓hp_p_26_18, ↓hp_g_26_19, ↓hp_p_26_19, ↓hp_g_26_20, ↓hp_g_26_21, ↓hp_p_26_21, ↓hp_g_26_22, ↓hp_g_26_23, ↓hp_g_26_24, ↓hp_g_26_25, ↓hp_g_26_26, ↓hp_g_26_27, ↓hp_g_26_28, ↓hp_g_26_29, ↓hp_g_26_30, ↓hp_p_26_30, ↓hp_g_26_31, ↓hp_g_26_32, ↓hp_p_26_32, ↓hp_a_27, ↓hp_s_27, ↓hp_l_27, ↓hp_a_28, ↓hp_s_28, ↓hp_l_28, ↓hp_a_29, ↓hp_s_29, ↓hp_l_29, ↓hp_a_30, ↓hp_s_30, ↓hp_l_30, ↓hp_a_31, ↓hp_s_31, ↓hp_l_31, ↓hp_a_32, ↓hp_s_32, ↓hp_l_32, ↓hp_a_33, ↓hp_s_33, ↓hp_l_33, ↓hp_a_34, ↓hp_s_34, ↓hp_l_34, ↓hp_a_35, ↓hp_s_35, ↓hp_l_35, ↓hp_a_36, ↓hp_s_36, ↓hp_l_36, ↓hp_a_37, ↓hp_s_37, ↓hp_l_37, ↓hp_a_38, ↓hp_s_38, ↓hp_l_38, ↓hp_a_39, ↓hp_s_39, ↓hp_a_40, ↓hp_s_40, ↓hp_a_41, ↓hp_s_41, ↓hp_l_41, ↓hp_a_42, ↓hp_s_42, ↓hp_l_42, ↓hp_a_43, ↓hp_s_43, ↓hp_l_43, ↓hp_a_44, ↓hp_s_44, ↓hp_l_44, ↓hp_a_45, ↓hp_s_45, ↓hp_l_45, ↓hp_a_46, ↓hp_s_46, ↓hp_l_46, ↓hp_a_47, ↓hp_s_47, ↓hp_l_47, ↓hp_a_48, ↓hp_s_48, ↓hp_l_48, ↓hp_a_49, ↓hp_s_49, ↓hp_l_49, ↓hp_a_50, ↓hp_s_50, ↓hp_l_50, m1]
  by_cases g2 : b' = 0
  · refine ⟨0, ⟨fun h => by omega, fun h => absurd g2 h.2.1⟩, Or.inl rfl, ?_⟩
    clear u1 u2 u3 v1 v2 v3 v4 v5 w1 w2 w3 w4 hN hU q1 q2 q3 q4 pr
    simp (disch := (first | assumption | (unfold i32; omega) | (unfold i64; omega) | omega)) only [↓reduceIte, ki_0, ki_1, ki_2, ki_3, ki_4, ki_5, ki_6, ki_7, ki_8, ki_9, ki_10, ki_11, ki_12, ki_13, ki_14, ki_15, ki_20, ki_21, ki_30, ki_31, ki_40, ki_41, ki_50, ki_51, ki_60, ki_63, ki_64, ki_65, ki_100, ki_158, ki_160, ki_200, ki_212, ki_1000, ki_2000, ki_2001, ki_5000, ki_10000, ki_10001, ki_100000, ki_200000, ki_1000000, ki_2000000, ki_3000000, iO_neg, iO_add, iO_sub, iO_mul, kn_4, kn_8, kn_10, kn_20, kn_24, kn_40, kn_41, kn_50, kn_60, kn_158, kn_160, kn_200, kn_212, kn_2001, tn_lt, fn_lt, tn_le, fn_le, tn_eq, fn_eq, x_lt, x_le, x_eq, x_ix, x_nat, t_lt, f_lt, t_le, f_le, t_eq, f_eq, eq_self, and_self, true_and, and_true, false_and, and_false, if_true, if_false, Int.toNat_natCast, bI_s, bL_s, bA_s, bA_n, bV_s, mq_s, mq_n, en_le, bl_0, bl_1, u_eq, u_ne, w_eq, w_ne, v_eq, v_ne, ↓hp_cc_26, ↓hp_g_26_0, ↓hp_p_26_0, ↓hp_g_26_1, ↓hp_p_26_1, ↓hp_g_26_2, ↓hp_p_26_2, ↓hp_g_26_3, ↓hp_g_26_4, ↓hp_g_26_5, ↓hp_g_26_6, ↓hp_g_26_7, ↓hp_g_26_8, ↓hp_g_26_9, ↓hp_g_26_10, ↓hp_g_26_11, ↓hp_g_26_12, ↓hp_g_26_13, ↓hp_g_26_14, ↓hp_g_26_15, ↓hp_p_26_15, ↓hp_g_26_16, ↓hp_g_26_17, ↓hp_g_26_18, ↓hp_p_26_18, ↓hp_g_26_19, ↓hp_p_26_19, ↓hp_g_26_20, ↓hp_g_26_21, ↓hp_p_26_21, ↓hp_g_26_22, ↓hp_g_26_23, ↓hp_g_26_24, ↓hp_g_26_25, ↓hp_g_26_26, ↓hp_g_26_27, ↓hp_g_26_28, ↓hp_g_26_29, ↓hp_g_26_30, ↓hp_p_26_30, ↓hp_g_26_31, ↓hp_g_26_32, ↓hp_p_26_32, ↓hp_a_27, ↓hp_s_27, ↓hp_l_27, ↓hp_a_28, ↓hp_s_28, ↓hp_l_28, ↓hp_a_29, ↓hp_s_29, ↓hp_l_29, ↓hp_a_30, ↓hp_s_30, ↓hp_l_30, ↓hp_a_31, ↓hp_s_31, ↓hp_l_31, ↓hp_a_32, ↓hp_s_32, ↓hp_l_32, ↓hp_a_33, ↓hp_s_33, ↓hp_l_33, ↓hp_a_34, ↓hp_s_34, ↓hp_l_34, ↓hp_a_35, ↓hp_s_35, ↓hp_l_35, ↓hp_a_36, ↓hp_s_36, ↓hp_l_36, ↓hp_a_37, ↓hp_s_37, ↓hp_l_37, ↓hp_a_38, ↓hp_s_38, ↓hp_l_38, ↓hp_a_39, ↓hp_s_39, ↓hp_a_40, ↓hp_s_40, ↓hp_a_41, ↓hp_s_41, ↓hp_l_41, ↓hp_a_42, ↓hp_s_42, ↓hp_l_42, ↓hp_a_43, ↓hp_s_43, ↓hp_l_43, ↓hp_a_44, ↓hp_s_44, ↓hp_l_44, ↓hp_a_45, ↓hp_s_45, ↓hp_l_45, ↓hp_a_46, ↓hp_s_46, ↓hp_l_46, ↓hp_a_47, ↓hp_s_47, ↓hp_l_47, ↓hp_a_48, ↓hp_s_48, ↓hp_l_48, ↓hp_a_49, ↓hp_s_49, ↓hp_l_49, ↓hp_a_50, ↓hp_s_50, ↓hp_l_50, m1, n1]
  have huI : i64 ((a * (a - c) - b * b * d) * c') := by unfold i64; omega
  have huJ : i64 (a' * ((a - c) * (a - c) - b * b * d)) := by unfold i64; omega
  have hvI : i64 (-b * c * (-b * c) * d * c' * c') := by unfold i64; omega
  have hvJ : i64 (b' * b' * d' * ((a - c) * (a - c) - b * b * d) * ((a - c) * (a - c) - b * b * d)) := by unfold i64; omega
  have hmI : i64 (-b * c) := by unfold i64; omega
  have hnI : i64 ((a - c) * (a - c) - b * b * d) := by unfold i64; omega
  have hm0 : -b * c ≠ 0 := fun h => by rcases Int.mul_eq_zero.mp h with z | z <;> omega
  clear u1 u2 u3 v1 v2 v3 v4 v5 w1 w2 w3 w4 q1 q2 q3 q4 pr hN hU
  by_cases g3 : (a * (a - c) - b * b * d) * c' = a' * ((a - c) * (a - c) - b * b * d)
  · by_cases g5 : -b * c * (-b * c) * d * c' * c' = b' * b' * d' * ((a - c) * (a - c) - b * b * d) * ((a - c) * (a - c) - b * b * d)
    · rcases Int.lt_or_le 0 (-b * c) with hM | hM
      · skip
        rcases Int.lt_or_le 0 ((a - c) * (a - c) - b * b * d) with hN | hN
        · skip
          rcases Int.lt_or_le 0 (b') with hB | hB
          · skip
            refine ⟨1, ⟨fun _ => ⟨g1, g2, g3, by omega, g5⟩, fun _ => rfl⟩, Or.inr rfl, ?_⟩
            simp (disch := (first | assumption | (unfold i32; omega) | (unfold i64; omega) | omega)) only [↓reduceIte, ki_0, ki_1, ki_2, ki_3, ki_4, ki_5, ki_6, ki_7, ki_8, ki_9, ki_10, ki_11, ki_12, ki_13, ki_14, ki_15, ki_20, ki_21, ki_30, ki_31, ki_40, ki_41, ki_50, ki_51, ki_60, ki_63, ki_64, ki_65, ki_100, ki_158, ki_160, ki_200, ki_212, ki_1000, ki_2000, ki_2001, ki_5000, ki_10000, ki_10001, ki_100000, ki_200000, ki_1000000, ki_2000000, ki_3000000, iO_neg, iO_add, iO_sub, iO_mul, kn_4, kn_8, kn_10, kn_20, kn_24, kn_40, kn_41, kn_50, kn_60, kn_158, kn_160, kn_200, kn_212, kn_2001, tn_lt, fn_lt, tn_le, fn_le, tn_eq, fn_eq, x_lt, x_le, x_eq, x_ix, x_nat, t_lt, f_lt, t_le, f_le, t_eq, f_eq, eq_self, and_self, true_and, and_true, false_and, and_false, if_true, if_false, Int.toNat_natCast, bI_s, bL_s, bA_s, bA_n, bV_s, mq_s, mq_n, en_le, bl_0, bl_1, u_eq, u_ne, w_eq, w_ne, v_eq, v_ne, ↓hp_cc_26, ↓hp_g_26_0, ↓hp_p_26_0, ↓hp_g_26_1, ↓hp_p_26_1, ↓hp_g_26_2, ↓hp_p_26_2, ↓hp_g_26_3, ↓hp_g_26_4, ↓hp_g_26_5, ↓hp_g_26_6, ↓hp_g_26_7, ↓hp_g_26_8, ↓hp_g_26_9, ↓hp_g_26_10, ↓hp_g_26_11, ↓hp_g_26_12, ↓hp_g_26_13, ↓hp_g_26_14, ↓hp_g_26_15, ↓hp_p_26_15, ↓hp_g_26_16, ↓hp_g_26_17, ↓hp_g_26_18, ↓hp_p_26_18, ↓hp_g_26_19, ↓hp_p_26_19, ↓hp_g_26_20, ↓hp_g_26_21, ↓hp_p_26_21, ↓hp_g_26_22, ↓hp_g_26_23, ↓hp_g_26_24, ↓hp_g_26_25, ↓hp_g_26_26, ↓hp_g_26_27, ↓hp_g_26_28, ↓hp_g_26_29, ↓hp_g_26_30, ↓hp_p_26_30, ↓hp_g_26_31, ↓hp_g_26_32, ↓hp_p_26_32, ↓hp_a_27, ↓hp_s_27, ↓hp_l_27, ↓hp_a_28, ↓hp_s_28, ↓hp_l_28, ↓hp_a_29, ↓hp_s_29, ↓hp_l_29, ↓hp_a_30, ↓hp_s_30, ↓hp_l_30, ↓hp_a_31, ↓hp_s_31, ↓hp_l_31, ↓hp_a_32, ↓hp_s_32, ↓hp_l_32, ↓hp_a_33, ↓hp_s_33, ↓hp_l_33, ↓hp_a_34, ↓hp_s_34, ↓hp_l_34, ↓hp_a_35, ↓hp_s_35, ↓hp_l_35, ↓hp_a_36, ↓hp_s_36, ↓hp_l_36, ↓hp_a_37, ↓hp_s_37, ↓hp_l_37, ↓hp_a_38, ↓hp_s_38, ↓hp_l_38, ↓hp_a_39, ↓hp_s_39, ↓hp_a_40, ↓hp_s_40, ↓hp_a_41, ↓hp_s_41, ↓hp_l_41, ↓hp_a_42, ↓hp_s_42, ↓hp_l_42, ↓hp_a_43, ↓hp_s_43, ↓hp_l_43, ↓hp_a_44, ↓hp_s_44, ↓hp_l_44, ↓hp_a_45, ↓hp_s_45, ↓hp_l_45, ↓hp_a_46, ↓hp_s_46, ↓hp_l_46, ↓hp_a_47, ↓hp_s_47, ↓hp_l_47, ↓hp_a_48, ↓hp_s_48, ↓hp_l_48, ↓hp_a_49, ↓hp_s_49, ↓hp_l_49, ↓hp_a_50, ↓hp_s_50, ↓hp_l_50, m0, m1, m2, m3, n0, n1, n2, n3, iO_wide, lO_sub, lO_mul, lO_neg, lO_add, kl_0, lc_lt, lc_le, lc_gt, lc_ge, lc_eq, y_lt, y_le, y_eq, eb_X12_areOne_7, eb_X12_areOne_11]
          · skip
            refine ⟨0, ⟨fun h => by omega, fun h => by have := h.2.2.2.1; omega⟩, Or.inl rfl, ?_⟩
            simp (disch := (first | assumption | (unfold i32; omega) | (unfold i64; omega) | omega)) only [↓reduceIte, ki_0, ki_1, ki_2, ki_3, ki_4, ki_5, ki_6, ki_7, ki_8, ki_9, ki_10, ki_11, ki_12, ki_13, ki_14, ki_15, ki_20, ki_21, ki_30, ki_31, ki_40, ki_41, ki_50, ki_51, ki_60, ki_63, ki_64, ki_65, ki_100, ki_158, ki_160, ki_200, ki_212, ki_1000, ki_2000, ki_2001, ki_5000, ki_10000, ki_10001, ki_100000, ki_200000, ki_1000000, ki_2000000, ki_3000000, iO_neg, iO_add, iO_sub, iO_mul, kn_4, kn_8, kn_10, kn_20, kn_24, kn_40, kn_41, kn_50, kn_60, kn_158, kn_160, kn_200, kn_212, kn_2001, tn_lt, fn_lt, tn_le, fn_le, tn_eq, fn_eq, x_lt, x_le, x_eq, x_ix, x_nat, t_lt, f_lt, t_le, f_le, t_eq, f_eq, eq_self, and_self, true_and, and_true, false_and, and_false, if_true, if_false, Int.toNat_natCast, bI_s, bL_s, bA_s, bA_n, bV_s, mq_s, mq_n, en_le, bl_0, bl_1, u_eq, u_ne, w_eq, w_ne, v_eq, v_ne, ↓hp_cc_26, ↓hp_g_26_0, ↓hp_p_26_0, ↓hp_g_26_1, ↓hp_p_26_1, ↓hp_g_26_2, ↓hp_p_26_2, ↓hp_g_26_3, ↓hp_g_26_4, ↓hp_g_26_5, ↓hp_g_26_6, ↓hp_g_26_7, ↓hp_g_26_8, ↓hp_g_26_9, ↓hp_g_26_10, ↓hp_g_26_11, ↓hp_g_26_12, ↓hp_g_26_13, ↓hp_g_26_14, ↓hp_g_26_15, ↓hp_p_26_15, ↓hp_g_26_16, ↓hp_g_26_17, ↓hp_g_26_18, ↓hp_p_26_18, ↓hp_g_26_19, ↓hp_p_26_19, ↓hp_g_26_20, ↓hp_g_26_21, ↓hp_p_26_21, ↓hp_g_26_22, ↓hp_g_26_23, ↓hp_g_26_24, ↓hp_g_26_25, ↓hp_g_26_26, ↓hp_g_26_27, ↓hp_g_26_28, ↓hp_g_26_29, ↓hp_g_26_30, ↓hp_p_26_30, ↓hp_g_26_31, ↓hp_g_26_32, ↓hp_p_26_32, ↓hp_a_27, ↓hp_s_27, ↓hp_l_27, ↓hp_a_28, ↓hp_s_28, ↓hp_l_28, ↓hp_a_29, ↓hp_s_29, ↓hp_l_29, ↓hp_a_30, ↓hp_s_30, ↓hp_l_30, ↓hp_a_31, ↓hp_s_31, ↓hp_l_31, ↓hp_a_32, ↓hp_s_32, ↓hp_l_32, ↓hp_a_33, ↓hp_s_33, ↓hp_l_33, ↓hp_a_34, ↓hp_s_34, ↓hp_l_34, ↓hp_a_35, ↓hp_s_35, ↓hp_l_35, ↓hp_a_36, ↓hp_s_36, ↓hp_l_36, ↓hp_a_37, ↓hp_s_37, ↓hp_l_37, ↓hp_a_38, ↓hp_s_38, ↓hp_l_38, ↓hp_a_39, ↓hp_s_39, ↓hp_a_40, ↓hp_s_40, ↓hp_a_41, ↓hp_s_41, ↓hp_l_41, ↓hp_a_42, ↓hp_s_42, ↓hp_l_42, ↓hp_a_43, ↓hp_s_43, ↓hp_l_43, ↓hp_a_44, ↓hp_s_44, ↓hp_l_44, ↓hp_a_45, ↓hp_s_45, ↓hp_l_45, ↓hp_a_46, ↓hp_s_46, ↓hp_l_46, ↓hp_a_47, ↓hp_s_47, ↓hp_l_47, ↓hp_a_48, ↓hp_s_48, ↓hp_l_48, ↓hp_a_49, ↓hp_s_49, ↓hp_l_49, ↓hp_a_50, ↓hp_s_50, ↓hp_l_50, m0, m1, m2, m3, n0, n1, n2, n3, iO_wide, lO_sub, lO_mul, lO_neg, lO_add, kl_0, lc_lt, lc_le, lc_gt, lc_ge, lc_eq, y_lt, y_le, y_eq, eb_X12_areOne_7, eb_X12_areOne_11]
        · skip
          rcases Int.lt_or_le 0 (b') with hB | hB
          · skip
            refine ⟨0, ⟨fun h => by omega, fun h => by have := h.2.2.2.1; omega⟩, Or.inl rfl, ?_⟩
            simp (disch := (first | assumption | (unfold i32; omega) | (unfold i64; omega) | omega)) only [↓reduceIte, ki_0, ki_1, ki_2, ki_3, ki_4, ki_5, ki_6, ki_7, ki_8, ki_9, ki_10, ki_11, ki_12, ki_13, ki_14, ki_15, ki_20, ki_21, ki_30, ki_31, ki_40, ki_41, ki_50, ki_51, ki_60, ki_63, ki_64, ki_65, ki_100, ki_158, ki_160, ki_200, ki_212, ki_1000, ki_2000, ki_2001, ki_5000, ki_10000, ki_10001, ki_100000, ki_200000, ki_1000000, ki_2000000, ki_3000000, iO_neg, iO_add, iO_sub, iO_mul, kn_4, kn_8, kn_10, kn_20, kn_24, kn_40, kn_41, kn_50, kn_60, kn_158, kn_160, kn_200, kn_212, kn_2001, tn_lt, fn_lt, tn_le, fn_le, tn_eq, fn_eq, x_lt, x_le, x_eq, x_ix, x_nat, t_lt, f_lt, t_le, f_le, t_eq, f_eq, eq_self, and_self, true_and, and_true, false_and, and_false, if_true, if_false, Int.toNat_natCast, bI_s, bL_s, bA_s, bA_n, bV_s, mq_s, mq_n, en_le, bl_0, bl_1, u_eq, u_ne, w_eq, w_ne, v_eq, v_ne, ↓hp_cc_26, ↓hp_g_26_0, ↓hp_p_26_0, ↓hp_g_26_1, ↓hp_p_26_1, ↓hp_g_26_2, ↓hp_p_26_2, ↓hp_g_26_3, ↓hp_g_26_4, ↓hp_g_26_5, ↓hp_g_26_6, ↓hp_g_26_7, ↓hp_g_26_8, ↓hp_g_26_9, ↓hp_g_26_10, ↓hp_g_26_11, ↓hp_g_26_12, ↓hp_g_26_13, ↓hp_g_26_14, ↓hp_g_26_15, ↓hp_p_26_15, ↓hp_g_26_16, ↓hp_g_26_17, ↓hp_g_26_18, ↓hp_p_26_18, ↓hp_g_26_19, ↓hp_p_26_19, ↓hp_g_26_20, ↓hp_g_26_21, ↓hp_p_26_21, ↓hp_g_26_22, ↓hp_g_26_23, ↓hp_g_26_24, ↓hp_g_26_25, ↓hp_g_26_26, ↓hp_g_26_27, ↓hp_g_26_28, ↓hp_g_26_29, ↓hp_g_26_30, ↓hp_p_26_30, ↓hp_g_26_31, ↓hp_g_26_32, ↓hp_p_26_32, ↓hp_a_27, ↓hp_s_27, ↓hp_l_27, ↓hp_a_28, ↓hp_s_28, ↓hp_l_28, ↓hp_a_29, ↓hp_s_29, ↓hp_l_29, ↓hp_a_30, ↓hp_s_30, ↓hp_l_30, ↓hp_a_31, ↓hp_s_31, ↓hp_l_31, ↓hp_a_32, ↓hp_s_32, ↓hp_l_32, ↓hp_a_33, ↓hp_s_33, ↓hp_l_33, ↓hp_a_34, ↓hp_s_34, ↓hp_l_34, ↓hp_a_35, ↓hp_s_35, ↓hp_l_35, ↓hp_a_36, ↓hp_s_36, ↓hp_l_36, ↓hp_a_37, ↓hp_s_37, ↓hp_l_37, ↓hp_a_38, ↓hp_s_38, ↓hp_l_38, ↓hp_a_39, ↓hp_s_39, ↓hp_a_40, ↓hp_s_40, ↓hp_a_41, ↓hp_s_41, ↓hp_l_41, ↓hp_a_42, ↓hp_s_42, ↓hp_l_42, ↓hp_a_43, ↓hp_s_43, ↓hp_l_43, ↓hp_a_44, ↓hp_s_44, ↓hp_l_44, ↓hp_a_45, ↓hp_s_45, ↓hp_l_45, ↓hp_a_46, ↓hp_s_46, ↓hp_l_46, ↓hp_a_47, ↓hp_s_47, ↓hp_l_47, ↓hp_a_48, ↓hp_s_48, ↓hp_l_48, ↓hp_a_49, ↓hp_s_49, ↓hp_l_49, ↓hp_a_50, ↓hp_s_50, ↓hp_l_50, m0, m1, m2, m3, n0, n1, n2, n3, iO_wide, lO_sub, lO_mul, lO_neg, lO_add, kl_0, lc_lt, lc_le, lc_gt, lc_ge, lc_eq, y_lt, y_le, y_eq, eb_X12_areOne_7, eb_X12_areOne_11]
          · skip
            refine ⟨1, ⟨fun _ => ⟨g1, g2, g3, by omega, g5⟩, fun _ => rfl⟩, Or.inr rfl, ?_⟩
            simp (disch := (first | assumption | (unfold i32; omega) | (unfold i64; omega) | omega)) only [↓reduceIte, ki_0, ki_1, ki_2, ki_3, ki_4, ki_5, ki_6, ki_7, ki_8, ki_9, ki_10, ki_11, ki_12, ki_13, ki_14, ki_15, ki_20, ki_21, ki_30, ki_31, ki_40, ki_41, ki_50, ki_51, ki_60, ki_63, ki_64, ki_65, ki_100, ki_158, ki_160, ki_200, ki_212, ki_1000, ki_2000, ki_2001, ki_5000, ki_10000, ki_10001, ki_100000, ki_200000, ki_1000000, ki_2000000, ki_3000000, iO_neg, iO_add, iO_sub, iO_mul, kn_4, kn_8, kn_10, kn_20, kn_24, kn_40, kn_41, kn_50, kn_60, kn_158, kn_160, kn_200, kn_212, kn_2001, tn_lt, fn_lt, tn_le, fn_le, tn_eq, fn_eq, x_lt, x_le, x_eq, x_ix, x_nat, t_lt, f_lt, t_le, f_le, t_eq, f_eq, eq_self, and_self, true_and, and_true, false_and, and_false, if_true, if_false, Int.toNat_natCast, bI_s, bL_s, bA_s, bA_n, bV_s, mq_s, mq_n, en_le, bl_0, bl_1, u_eq, u_ne, w_eq, w_ne, v_eq, v_ne, ↓hp_cc_26, ↓hp_g_26_0, ↓hp_p_26_0, ↓hp_g_26_1, ↓hp_p_26_1, ↓hp_g_26_2, ↓hp_p_26_2, ↓hp_g_26_3, ↓hp_g_26_4, ↓hp_g_26_5, ↓hp_g_26_6, ↓hp_g_26_7, ↓hp_g_26_8, ↓hp_g_26_9, ↓hp_g_26_10, ↓hp_g_26_11, ↓hp_g_26_12, ↓hp_g_26_13, ↓hp_g_26_14, ↓hp_g_26_15, ↓hp_p_26_15, ↓hp_g_26_16, ↓hp_g_26_17, ↓hp_g_26_18, ↓hp_p_26_18, ↓hp_g_26_19, ↓hp_p_26_19, ↓hp_g_26_20, ↓hp_g_26_21, ↓hp_p_26_21, ↓hp_g_26_22, ↓hp_g_26_23, ↓hp_g_26_24, ↓hp_g_26_25, ↓hp_g_26_26, ↓hp_g_26_27, ↓hp_g_26_28, ↓hp_g_26_29, ↓hp_g_26_30, ↓hp_p_26_30, ↓hp_g_26_31, ↓hp_g_26_32, ↓hp_p_26_32, ↓hp_a_27, ↓hp_s_27, ↓hp_l_27, ↓hp_a_28, ↓hp_s_28, ↓hp_l_28, ↓hp_a_29, ↓hp_s_29, ↓hp_l_29, ↓hp_a_30, ↓hp_s_30, ↓hp_l_30, ↓hp_a_31, ↓hp_s_31, ↓hp_l_31, ↓hp_a_32, ↓hp_s_32, ↓hp_l_32, ↓hp_a_33, ↓hp_s_33, ↓hp_l_33, ↓hp_a_34, ↓hp_s_34, ↓hp_l_34, ↓hp_a_35, ↓hp_s_35, ↓hp_l_35, ↓hp_a_36, ↓hp_s_36, ↓hp_l_36, ↓hp_a_37, ↓hp_s_37, ↓hp_l_37, ↓hp_a_38, ↓hp_s_38, ↓hp_l_38, ↓hp_a_39, ↓hp_s_39, ↓hp_a_40, ↓hp_s_40, ↓hp_a_41, ↓hp_s_41, ↓hp_l_41, ↓hp_a_42, ↓hp_s_42, ↓hp_l_42, ↓hp_a_43, ↓hp_s_43, ↓hp_l_43, ↓hp_a_44, ↓hp_s_44, ↓hp_l_44, ↓hp_a_45, ↓hp_s_45, ↓hp_l_45, ↓hp_a_46, ↓hp_s_46, ↓hp_l_46, ↓hp_a_47, ↓hp_s_47, ↓hp_l_47, ↓hp_a_48, ↓hp_s_48, ↓hp_l_48, ↓hp_a_49, ↓hp_s_49, ↓hp_l_49, ↓hp_a_50, ↓hp_s_50, ↓hp_l_50, m0, m1, m2, m3, n0, n1, n2, n3, iO_wide, lO_sub, lO_mul, lO_neg, lO_add, kl_0, lc_lt, lc_le, lc_gt, lc_ge, lc_eq, y_lt, y_le, y_eq, eb_X12_areOne_7, eb_X12_areOne_11]
      · skip
        rcases Int.lt_or_le 0 ((a - c) * (a - c) - b * b * d) with hN | hN
        · skip
          rcases Int.lt_or_le 0 (b') with hB | hB
          · skip
            refine ⟨0, ⟨fun h => by omega, fun h => by have := h.2.2.2.1; omega⟩, Or.inl rfl, ?_⟩
            simp (disch := (first | assumption | (unfold i32; omega) | (unfold i64; omega) | omega)) only [↓reduceIte, ki_0, ki_1, ki_2, ki_3, ki_4, ki_5, ki_6, ki_7, ki_8, ki_9, ki_10, ki_11, ki_12, ki_13, ki_14, ki_15, ki_20, ki_21, ki_30, ki_31, ki_40, ki_41, ki_50, ki_51, ki_60, ki_63, ki_64, ki_65, ki_100, ki_158, ki_160, ki_200, ki_212, ki_1000, ki_2000, ki_2001, ki_5000, ki_10000, ki_10001, ki_100000, ki_200000, ki_1000000, ki_2000000, ki_3000000, iO_neg, iO_add, iO_sub, iO_mul, kn_4, kn_8, kn_10, kn_20, kn_24, kn_40, kn_41, kn_50, kn_60, kn_158, kn_160, kn_200, kn_212, kn_2001, tn_lt, fn_lt, tn_le, fn_le, tn_eq, fn_eq, x_lt, x_le, x_eq, x_ix, x_nat, t_lt, f_lt, t_le, f_le, t_eq, f_eq, eq_self, and_self, true_and, and_true, false_and, and_false, if_true, if_false, Int.toNat_natCast, bI_s, bL_s, bA_s, bA_n, bV_s, mq_s, mq_n, en_le, bl_0, bl_1, u_eq, u_ne, w_eq, w_ne, v_eq, v_ne, ↓hp_cc_26, ↓hp_g_26_0, ↓hp_p_26_0, ↓hp_g_26_1, ↓hp_p_26_1, ↓hp_g_26_2, ↓hp_p_26_2, ↓hp_g_26_3, ↓hp_g_26_4, ↓hp_g_26_5, ↓hp_g_26_6, ↓hp_g_26_7, ↓hp_g_26_8, ↓hp_g_26_9, ↓hp_g_26_10, ↓hp_g_26_11, ↓hp_g_26_12, ↓hp_g_26_13, ↓hp_g_26_14, ↓hp_g_26_15, ↓hp_p_26_15, ↓hp_g_26_16, ↓hp_g_26_17, ↓hp_g_26_18, ↓hp_p_26_18, ↓hp_g_26_19, ↓hp_p_26_19, ↓hp_g_26_20, ↓hp_g_26_21, ↓hp_p_26_21, ↓hp_g_26_22, ↓hp_g_26_23, ↓hp_g_26_24, ↓hp_g_26_25, ↓hp_g_26_26, ↓hp_g_26_27, ↓hp_g_26_28, ↓hp_g_26_29, ↓hp_g_26_30, ↓hp_p_26_30, ↓hp_g_26_31, ↓hp_g_26_32, ↓hp_p_26_32, ↓hp_a_27, ↓hp_s_27, ↓hp_l_27, ↓hp_a_28, ↓hp_s_28, ↓hp_l_28, ↓hp_a_29, ↓hp_s_29, ↓hp_l_29, ↓hp_a_30, ↓hp_s_30, ↓hp_l_30, ↓hp_a_31, ↓hp_s_31, ↓hp_l_31, ↓hp_a_32, ↓hp_s_32, ↓hp_l_32, ↓hp_a_33, ↓hp_s_33, ↓hp_l_33, ↓hp_a_34, ↓hp_s_34, ↓hp_l_34, ↓hp_a_35, ↓hp_s_35, ↓hp_l_35, ↓hp_a_36, ↓hp_s_36, ↓hp_l_36, ↓hp_a_37, ↓hp_s_37, ↓hp_l_37, ↓hp_a_38, ↓hp_s_38, ↓hp_l_38, ↓hp_a_39, ↓hp_s_39, ↓hp_a_40, ↓hp_s_40, ↓hp_a_41, ↓hp_s_41, ↓hp_l_41, ↓hp_a_42, ↓hp_s_42, ↓hp_l_42, ↓hp_a_43, ↓hp_s_43, ↓hp_l_43, ↓hp_a_44, ↓hp_s_44, ↓hp_l_44, ↓hp_a_45, ↓hp_s_45, ↓hp_l_45, ↓hp_a_46, ↓hp_s_46, ↓hp_l_46, ↓hp_a_47, ↓hp_s_47, ↓hp_l_47, ↓hp_a_48, ↓hp_s_48, ↓hp_l_48, ↓hp_a_49, ↓hp_s_49, ↓hp_l_49, ↓hp_a_50, ↓hp_s_50, ↓hp_l_50, m0, m1, m2, m3, n0, n1, n2, n3, iO_wide, lO_sub, lO_mul, lO_neg, lO_add, kl_0, lc_lt, lc_le, lc_gt, lc_ge, lc_eq, y_lt, y_le, y_eq, eb_X12_areOne_7, eb_X12_areOne_11]
          · skip
            refine ⟨1, ⟨fun _ => ⟨g1, g2, g3, by omega, g5⟩, fun _ => rfl⟩, Or.inr rfl, ?_⟩
            simp (disch := (first | assumption | (unfold i32; omega) | (unfold i64; omega) | omega)) only [↓reduceIte, ki_0, ki_1, ki_2, ki_3, ki_4, ki_5, ki_6, ki_7, ki_8, ki_9, ki_10, ki_11, ki_12, ki_13, ki_14, ki_15, ki_20, ki_21, ki_30, ki_31, ki_40, ki_41, ki_50, ki_51, ki_60, ki_63, ki_64, ki_65, ki_100, ki_158, ki_160, ki_200, ki_212, ki_1000, ki_2000, ki_2001, ki_5000, ki_10000, ki_10001, ki_100000, ki_200000, ki_1000000, ki_2000000, ki_3000000, iO_neg, iO_add, iO_sub, iO_mul, kn_4, kn_8, kn_10, kn_20, kn_24, kn_40, kn_41, kn_50, kn_60, kn_158, kn_160, kn_200, kn_212, kn_2001, tn_lt, fn_lt, tn_le, fn_le, tn_eq, fn_eq, x_lt, x_le, x_eq, x_ix, x_nat, t_lt, f_lt, t_le, f_le, t_eq, f_eq, eq_self, and_self, true_and, and_true, false_and, and_false, if_true, if_false, Int.toNat_natCast, bI_s, bL_s, bA_s, bA_n, bV_s, mq_s, mq_n, en_le, bl_0, bl_1, u_eq, u_ne, w_eq, w_ne, v_eq, v_ne, ↓hp_cc_26, ↓hp_g_26_0, ↓hp_p_26_0, ↓hp_g_26_1, ↓hp_p_26_1, ↓hp_g_26_2, ↓hp_p_26_2, ↓hp_g_26_3, ↓hp_g_26_4, ↓hp_g_26_5, ↓hp_g_26_6, ↓hp_g_26_7, ↓hp_g_26_8, ↓hp_g_26_9, ↓hp_g_26_10, ↓hp_g_26_11, ↓hp_g_26_12, ↓hp_g_26_13, ↓hp_g_26_14, ↓hp_g_26_15, ↓hp_p_26_15, ↓hp_g_26_16, ↓hp_g_26_17, ↓hp_g_26_18, ↓hp_p_26_18, ↓hp_g_26_19, ↓hp_p_26_19, ↓hp_g_26_20, ↓hp_g_26_21, ↓hp_p_26_21, ↓hp_g_26_22, ↓hp_g_26_23, ↓hp_g_26_24, ↓hp_g_26_25, ↓hp_g_26_26, ↓hp_g_26_27, ↓hp_g_26_28, ↓hp_g_26_29, ↓hp_g_26_30, ↓hp_p_26_30, ↓hp_g_26_31, ↓hp_g_26_32, ↓hp_p_26_32, ↓hp_a_27, ↓hp_s_27, ↓hp_l_27, ↓hp_a_28, ↓hp_s_28, ↓hp_l_28, ↓hp_a_29, ↓hp_s_29, ↓hp_l_29, ↓hp_a_30, ↓hp_s_30, ↓hp_l_30, ↓hp_a_31, ↓hp_s_31, ↓hp_l_31, ↓hp_a_32, ↓hp_s_32, ↓hp_l_32, ↓hp_a_33, ↓hp_s_33, ↓hp_l_33, ↓hp_a_34, ↓hp_s_34, ↓hp_l_34, ↓hp_a_35, ↓hp_s_35, ↓hp_l_35, ↓hp_a_36, ↓hp_s_36, ↓hp_l_36, ↓hp_a_37, ↓hp_s_37, ↓hp_l_37, ↓hp_a_38, ↓hp_s_38, ↓hp_l_38, ↓hp_a_39, ↓hp_s_39, ↓hp_a_40, ↓hp_s_40, ↓hp_a_41, ↓hp_s_41, ↓hp_l_41, ↓hp_a_42, ↓hp_s_42, ↓hp_l_42, ↓hp_a_43, ↓hp_s_43, ↓hp_l_43, ↓hp_a_44, ↓hp_s_44, ↓hp_l_44, ↓hp_a_45, ↓hp_s_45, ↓hp_l_45, ↓hp_a_46, ↓hp_s_46, ↓hp_l_46, ↓hp_a_47, ↓hp_s_47, ↓hp_l_47, ↓hp_a_48, ↓hp_s_48, ↓hp_l_48, ↓hp_a_49, ↓hp_s_49, ↓hp_l_49, ↓hp_a_50, ↓hp_s_50, ↓hp_l_50, m0, m1, m2, m3, n0, n1, n2, n3, iO_wide, lO_sub, lO_mul, lO_neg, lO_add, kl_0, lc_lt, lc_le, lc_gt, lc_ge, lc_eq, y_lt, y_le, y_eq, eb_X12_areOne_7, eb_X12_areOne_11]
        · skip
          rcases Int.lt_or_le 0 (b') with hB | hB
          · skip
            refine ⟨1, ⟨fun _ => ⟨g1, g2, g3, by omega, g5⟩, fun _ => rfl⟩, Or.inr rfl, ?_⟩
            simp (disch := (first | assumption | (unfold i32; omega) | (unfold i64; omega) | omega)) only [↓reduceIte, ki_0, ki_1, ki_2, ki_3, ki_4, ki_5, ki_6, ki_7, ki_8, ki_9, ki_10, ki_11, ki_12, ki_13, ki_14, ki_15, ki_20, ki_21, ki_30, ki_31, ki_40, ki_41, ki_50, ki_51, ki_60, ki_63, ki_64, ki_65, ki_100, ki_158, ki_160, ki_200, ki_212, ki_1000, ki_2000, ki_2001, ki_5000, ki_10000, ki_10001, ki_100000, ki_200000, ki_1000000, ki_2000000, ki_3000000, iO_neg, iO_add, iO_sub, iO_mul, kn_4, kn_8, kn_10, kn_20, kn_24, kn_40, kn_41, kn_50, kn_60, kn_158, kn_160, kn_200, kn_212, kn_2001, tn_lt, fn_lt, tn_le, fn_le, tn_eq, fn_eq, x_lt, x_le, x_eq, x_ix, x_nat, t_lt, f_lt, t_le, f_le, t_eq, f_eq, eq_self, and_self, true_and, and_true, false_and, and_false, if_true, if_false, Int.toNat_natCast, bI_s, bL_s, bA_s, bA_n, bV_s, mq_s, mq_n, en_le, bl_0, bl_1, u_eq, u_ne, w_eq, w_ne, v_eq, v_ne, ↓hp_cc_26, ↓hp_g_26_0, ↓hp_p_26_0, ↓hp_g_26_1, ↓hp_p_26_1, ↓hp_g_26_2, ↓hp_p_26_2, ↓hp_g_26_3, ↓hp_g_26_4, ↓hp_g_26_5, ↓hp_g_26_6, ↓hp_g_26_7, ↓hp_g_26_8, ↓hp_g_26_9, ↓hp_g_26_10, ↓hp_g_26_11, ↓hp_g_26_12, ↓hp_g_26_13, ↓hp_g_26_14, ↓hp_g_26_15, ↓hp_p_26_15, ↓hp_g_26_16, ↓hp_g_26_17, ↓hp_g_26_18, ↓hp_p_26_18, ↓hp_g_26_19, ↓hp_p_26_19, ↓hp_g_26_20, ↓hp_g_26_21, ↓hp_p_26_21, ↓hp_g_26_22, ↓hp_g_26_23, ↓hp_g_26_24, ↓hp_g_26_25, ↓hp_g_26_26, ↓hp_g_26_27, ↓hp_g_26_28, ↓hp_g_26_29, ↓hp_g_26_30, ↓hp_p_26_30, ↓hp_g_26_31, ↓hp_g_26_32, ↓hp_p_26_32, ↓hp_a_27, ↓hp_s_27, ↓hp_l_27, ↓hp_a_28, ↓hp_s_28, ↓hp_l_28, ↓hp_a_29, ↓hp_s_29, ↓hp_l_29, ↓hp_a_30, ↓hp_s_30, ↓hp_l_30, ↓hp_a_31, ↓hp_s_31, ↓hp_l_31, ↓hp_a_32, ↓hp_s_32, ↓hp_l_32, ↓hp_a_33, ↓hp_s_33, ↓hp_l_33, ↓hp_a_34, ↓hp_s_34, ↓hp_l_34, ↓hp_a_35, ↓hp_s_35, ↓hp_l_35, ↓hp_a_36, ↓hp_s_36, ↓hp_l_36, ↓hp_a_37, ↓hp_s_37, ↓hp_l_37, ↓hp_a_38, ↓hp_s_38, ↓hp_l_38, ↓hp_a_39, ↓hp_s_39, ↓hp_a_40, ↓hp_s_40, ↓hp_a_41, ↓hp_s_41, ↓hp_l_41, ↓hp_a_42, ↓hp_s_42, ↓hp_l_42, ↓hp_a_43, ↓hp_s_43, ↓hp_l_43, ↓hp_a_44, ↓hp_s_44, ↓hp_l_44, ↓hp_a_45, ↓hp_s_45, ↓hp_l_45, ↓hp_a_46, ↓hp_s_46, ↓hp_l_46, ↓hp_a_47, ↓hp_s_47, ↓hp_l_47, ↓hp_a_48, ↓hp_s_48, ↓hp_l_48, ↓hp_a_49, ↓hp_s_49, ↓hp_l_49, ↓hp_a_50, ↓hp_s_50, ↓hp_l_50, m0, m1, m2, m3, n0, n1, n2, n3, iO_wide, lO_sub, lO_mul, lO_neg, lO_add, kl_0, lc_lt, lc_le, lc_gt, lc_ge, lc_eq, y_lt, y_le, y_eq, eb_X12_areOne_7, eb_X12_areOne_11]
          · skip
            refine ⟨0, ⟨fun h => by omega, fun h => by have := h.2.2.2.1; omega⟩, Or.inl rfl, ?_⟩
            simp (disch := (first | assumption | (unfold i32; omega) | (unfold i64; omega) | omega)) only [↓reduceIte, ki_0, ki_1, ki_2, ki_3, ki_4, ki_5, ki_6, ki_7, ki_8, ki_9, ki_10, ki_11, ki_12, ki_13, ki_14, ki_15, ki_20, ki_21, ki_30, ki_31, ki_40, ki_41, ki_50, ki_51, ki_60, ki_63, ki_64, ki_65, ki_100, ki_158, ki_160, ki_200, ki_212, ki_1000, ki_2000, ki_2001, ki_5000, ki_10000, ki_10001, ki_100000, ki_200000, ki_1000000, ki_2000000, ki_3000000, iO_neg, iO_add, iO_sub, iO_mul, kn_4, kn_8, kn_10, kn_20, kn_24, kn_40, kn_41, kn_50, kn_60, kn_158, kn_160, kn_200, kn_212, kn_2001, tn_lt, fn_lt, tn_le, fn_le, tn_eq, fn_eq, x_lt, x_le, x_eq, x_ix, x_nat, t_lt, f_lt, t_le, f_le, t_eq, f_eq, eq_self, and_self, true_and, and_true, false_and, and_false, if_true, if_false, Int.toNat_natCast, bI_s, bL_s, bA_s, bA_n, bV_s, mq_s, mq_n, en_le, bl_0, bl_1, u_eq, u_ne, w_eq, w_ne, v_eq, v_ne, ↓hp_cc_26, ↓hp_g_26_0, ↓hp_p_26_0, ↓hp_g_26_1, ↓hp_p_26_1, ↓hp_g_26_2, ↓hp_p_26_2, ↓hp_g_26_3, ↓hp_g_26_4, ↓hp_g_26_5, ↓hp_g_26_6, ↓hp_g_26_7, ↓hp_g_26_8, ↓hp_g_26_9, ↓hp_g_26_10, ↓hp_g_26_11, ↓hp_g_26_12, ↓hp_g_26_13, ↓hp_g_26_14, ↓hp_g_26_15, ↓hp_p_26_15, ↓hp_g_26_16, ↓hp_g_26_17, ↓hp_g_26_18, ↓hp_p_26_18, ↓hp_g_26_19, ↓hp_p_26_19, ↓hp_g_26_20, ↓hp_g_26_21, ↓hp_p_26_21, ↓hp_g_26_22, ↓hp_g_26_23, ↓hp_g_26_24, ↓hp_g_26_25, ↓hp_g_26_26, ↓hp_g_26_27, ↓hp_g_26_28, ↓hp_g_26_29, ↓hp_g_26_30, ↓hp_p_26_30, ↓hp_g_26_31, ↓hp_g_26_32, ↓hp_p_26_32, ↓hp_a_27, ↓hp_s_27, ↓hp_l_27, ↓hp_a_28, ↓hp_s_28, ↓hp_l_28, ↓hp_a_29, ↓hp_s_29, ↓hp_l_29, ↓hp_a_30, ↓hp_s_30, ↓hp_l_30, ↓hp_a_31, ↓hp_s_31, ↓hp_l_31, ↓hp_a_32, ↓hp_s_32, ↓hp_l_32, ↓hp_a_33, ↓hp_s_33, ↓hp_l_33, ↓hp_a_34, ↓hp_s_34, ↓hp_l_34, ↓hp_a_35, ↓hp_s_35, ↓hp_l_35, ↓hp_a_36, ↓hp_s_36, ↓hp_l_36, ↓hp_a_37, ↓hp_s_37, ↓hp_l_37, ↓hp_a_38, ↓hp_s_38, ↓hp_l_38, ↓hp_a_39, ↓hp_s_39, ↓hp_a_40, ↓hp_s_40, ↓hp_a_41, ↓hp_s_41, ↓hp_l_41, ↓hp_a_42, ↓hp_s_42, ↓hp_l_42, ↓hp_a_43, ↓hp_s_43, ↓hp_l_43, ↓hp_a_44, ↓hp_s_44, ↓hp_l_44, ↓hp_a_45, ↓hp_s_45, ↓hp_l_45, ↓hp_a_46, ↓hp_s_46, ↓hp_l_46, ↓hp_a_47, ↓hp_s_47, ↓hp_l_47, ↓hp_a_48, ↓hp_s_48, ↓hp_l_48, ↓hp_a_49, ↓hp_s_49, ↓hp_l_49, ↓hp_a_50, ↓hp_s_50, ↓hp_l_50, m0, m1, m2, m3, n0, n1, n2, n3, iO_wide, lO_sub, lO_mul, lO_neg, lO_add, kl_0, lc_lt, lc_le, lc_gt, lc_ge, lc_eq, y_lt, y_le, y_eq, eb_X12_areOne_7, eb_X12_areOne_11]
    · rcases Int.lt_or_le 0 (-b * c) with hM | hM
      · skip
        rcases Int.lt_or_le 0 ((a - c) * (a - c) - b * b * d) with hN | hN
        · skip
          rcases Int.lt_or_le 0 (b') with hB | hB
          · skip
            refine ⟨0, ⟨fun h => by omega, fun h => absurd h.2.2.2.2 g5⟩, Or.inl rfl, ?_⟩
            simp (disch := (first | assumption | (unfold i32; omega) | (unfold i64; omega) | omega)) only [↓reduceIte, ki_0, ki_1, ki_2, ki_3, ki_4, ki_5, ki_6, ki_7, ki_8, ki_9, ki_10, ki_11, ki_12, ki_13, ki_14, ki_15, ki_20, ki_21, ki_30, ki_31, ki_40, ki_41, ki_50, ki_51, ki_60, ki_63, ki_64, ki_65, ki_100, ki_158, ki_160, ki_200, ki_212, ki_1000, ki_2000, ki_2001, ki_5000, ki_10000, ki_10001, ki_100000, ki_200000, ki_1000000, ki_2000000, ki_3000000, iO_neg, iO_add, iO_sub, iO_mul, kn_4, kn_8, kn_10, kn_20, kn_24, kn_40, kn_41, kn_50, kn_60, kn_158, kn_160, kn_200, kn_212, kn_2001, tn_lt, fn_lt, tn_le, fn_le, tn_eq, fn_eq, x_lt, x_le, x_eq, x_ix, x_nat, t_lt, f_lt, t_le, f_le, t_eq, f_eq, eq_self, and_self, true_and, and_true, false_and, and_false, if_true, if_false, Int.toNat_natCast, bI_s, bL_s, bA_s, bA_n, bV_s, mq_s, mq_n, en_le, bl_0, bl_1, u_eq, u_ne, w_eq, w_ne, v_eq, v_ne, ↓hp_cc_26, ↓hp_g_26_0, ↓hp_p_26_0, ↓hp_g_26_1, ↓hp_p_26_1, ↓hp_g_26_2, ↓hp_p_26_2, ↓hp_g_26_3, ↓hp_g_26_4, ↓hp_g_26_5, ↓hp_g_26_6, ↓hp_g_26_7, ↓hp_g_26_8, ↓hp_g_26_9, ↓hp_g_26_10, ↓hp_g_26_11, ↓hp_g_26_12, ↓hp_g_26_13, ↓hp_g_26_14, ↓hp_g_26_15, ↓hp_p_26_15, ↓hp_g_26_16, ↓hp_g_26_17, ↓hp_g_26_18, ↓hp_p_26_18, ↓hp_g_26_19, ↓hp_p_26_19, ↓hp_g_26_20, ↓hp_g_26_21, ↓hp_p_26_21, ↓hp_g_26_22, ↓hp_g_26_23, ↓hp_g_26_24, ↓hp_g_26_25, ↓hp_g_26_26, ↓hp_g_26_27, ↓hp_g_26_28, ↓hp_g_26_29, ↓hp_g_26_30, ↓hp_p_26_30, ↓hp_g_26_31, ↓hp_g_26_32, ↓hp_p_26_32, ↓hp_a_27, ↓hp_s_27, ↓hp_l_27, ↓hp_a_28, ↓hp_s_28, ↓hp_l_28, ↓hp_a_29, ↓hp_s_29, ↓hp_l_29, ↓hp_a_30, ↓hp_s_30, ↓hp_l_30, ↓hp_a_31, ↓hp_s_31, ↓hp_l_31, ↓hp_a_32, ↓hp_s_32, ↓hp_l_32, ↓hp_a_33, ↓hp_s_33, ↓hp_l_33, ↓hp_a_34, ↓hp_s_34, ↓hp_l_34, ↓hp_a_35, ↓hp_s_35, ↓hp_l_35, ↓hp_a_36, ↓hp_s_36, ↓hp_l_36, ↓hp_a_37, ↓hp_s_37, ↓hp_l_37, ↓hp_a_38, ↓hp_s_38, ↓hp_l_38, ↓hp_a_39, ↓hp_s_39, ↓hp_a_40, ↓hp_s_40, ↓hp_a_41, ↓hp_s_41, ↓hp_l_41, ↓hp_a_42, ↓hp_s_42, ↓hp_l_42, ↓hp_a_43, ↓hp_s_43, ↓hp_l_43, ↓hp_a_44, ↓hp_s_44, ↓hp_l_44, ↓hp_a_45, ↓hp_s_45, ↓hp_l_45, ↓hp_a_46, ↓hp_s_46, ↓hp_l_46, ↓hp_a_47, ↓hp_s_47, ↓hp_l_47, ↓hp_a_48, ↓hp_s_48, ↓hp_l_48, ↓hp_a_49, ↓hp_s_49, ↓hp_l_49, ↓hp_a_50, ↓hp_s_50, ↓hp_l_50, m0, m1, m2, m3, n0, n1, n2, n3, iO_wide, lO_sub, lO_mul, lO_neg, lO_add, kl_0, lc_lt, lc_le, lc_gt, lc_ge, lc_eq, y_lt, y_le, y_eq, eb_X12_areOne_7, eb_X12_areOne_11]
          · skip
            refine ⟨0, ⟨fun h => by omega, fun h => absurd h.2.2.2.2 g5⟩, Or.inl rfl, ?_⟩
            simp (disch := (first | assumption | (unfold i32; omega) | (unfold i64; omega) | omega)) only [↓reduceIte, ki_0, ki_1, ki_2, ki_3, ki_4, ki_5, ki_6, ki_7, ki_8, ki_9, ki_10, ki_11, ki_12, ki_13, ki_14, ki_15, ki_20, ki_21, ki_30, ki_31, ki_40, ki_41, ki_50, ki_51, ki_60, ki_63, ki_64, ki_65, ki_100, ki_158, ki_160, ki_200, ki_212, ki_1000, ki_2000, ki_2001, ki_5000, ki_10000, ki_10001, ki_100000, ki_200000, ki_1000000, ki_2000000, ki_3000000, iO_neg, iO_add, iO_sub, iO_mul, kn_4, kn_8, kn_10, kn_20, kn_24, kn_40, kn_41, kn_50, kn_60, kn_158, kn_160, kn_200, kn_212, kn_2001, tn_lt, fn_lt, tn_le, fn_le, tn_eq, fn_eq, x_lt, x_le, x_eq, x_ix, x_nat, t_lt, f_lt, t_le, f_le, t_eq, f_eq, eq_self, and_self, true_and, and_true, false_and, and_false, if_true, if_false, Int.toNat_natCast, bI_s, bL_s, bA_s, bA_n, bV_s, mq_s, mq_n, en_le, bl_0, bl_1, u_eq, u_ne, w_eq, w_ne, v_eq, v_ne, ↓hp_cc_26, ↓hp_g_26_0, ↓hp_p_26_0, ↓hp_g_26_1, ↓hp_p_26_1, ↓hp_g_26_2, ↓hp_p_26_2, ↓hp_g_26_3, ↓hp_g_26_4, ↓hp_g_26_5, ↓hp_g_26_6, ↓hp_g_26_7, ↓hp_g_26_8, ↓hp_g_26_9, ↓hp_g_26_10, ↓hp_g_26_11, ↓hp_g_26_12, ↓hp_g_26_13, ↓hp_g_26_14, ↓hp_g_26_15, ↓hp_p_26_15, ↓hp_g_26_16, ↓hp_g_26_17, ↓hp_g_26_18, ↓hp_p_26_18, ↓hp_g_26_19, ↓hp_p_26_19, ↓hp_g_26_20, ↓hp_g_26_21, ↓hp_p_26_21, ↓hp_g_26_22, ↓hp_g_26_23, ↓hp_g_26_24, ↓hp_g_26_25, ↓hp_g_26_26, ↓hp_g_26_27, ↓hp_g_26_28, ↓hp_g_26_29, ↓hp_g_26_30, ↓hp_p_26_30, ↓hp_g_26_31, ↓hp_g_26_32, ↓hp_p_26_32, ↓hp_a_27, ↓hp_s_27, ↓hp_l_27, ↓hp_a_28, ↓hp_s_28, ↓hp_l_28, ↓hp_a_29, ↓hp_s_29, ↓hp_l_29, ↓hp_a_30, ↓hp_s_30, ↓hp_l_30, ↓hp_a_31, ↓hp_s_31, ↓hp_l_31, ↓hp_a_32, ↓hp_s_32, ↓hp_l_32, ↓hp_a_33, ↓hp_s_33, ↓hp_l_33, ↓hp_a_34, ↓hp_s_34, ↓hp_l_34, ↓hp_a_35, ↓hp_s_35, ↓hp_l_35, ↓hp_a_36, ↓hp_s_36, ↓hp_l_36, ↓hp_a_37, ↓hp_s_37, ↓hp_l_37, ↓hp_a_38, ↓hp_s_38, ↓hp_l_38, ↓hp_a_39, ↓hp_s_39, ↓hp_a_40, ↓hp_s_40, ↓hp_a_41, ↓hp_s_41, ↓hp_l_41, ↓hp_a_42, ↓hp_s_42, ↓hp_l_42, ↓hp_a_43, ↓hp_s_43, ↓hp_l_43, ↓hp_a_44, ↓hp_s_44, ↓hp_l_44, ↓hp_a_45, ↓hp_s_45, ↓hp_l_45, ↓hp_a_46, ↓hp_s_46, ↓hp_l_46, ↓hp_a_47, ↓hp_s_47, ↓hp_l_47, ↓hp_a_48, ↓hp_s_48, ↓hp_l_48, ↓hp_a_49, ↓hp_s_49, ↓hp_l_49, ↓hp_a_50, ↓hp_s_50, ↓hp_l_50, m0, m1, m2, m3, n0, n1, n2, n3, iO_wide, lO_sub, lO_mul, lO_neg, lO_add, kl_0, lc_lt, lc_le, lc_gt, lc_ge, lc_eq, y_lt, y_le, y_eq, eb_X12_areOne_7, eb_X12_areOne_11]
        · skip
          rcases Int.lt_or_le 0 (b') with hB | hB
          · skip
            refine ⟨0, ⟨fun h => by omega, fun h => absurd h.2.2.2.2 g5⟩, Or.inl rfl, ?_⟩
            simp (disch := (first | assumption | (unfold i32; omega) | (unfold i64; omega) | omega)) only [↓reduceIte, ki_0, ki_1, ki_2, ki_3, ki_4, ki_5, ki_6, ki_7, ki_8, ki_9, ki_10, ki_11, ki_12, ki_13, ki_14, ki_15, ki_20, ki_21, ki_30, ki_31, ki_40, ki_41, ki_50, ki_51, ki_60, ki_63, ki_64, ki_65, ki_100, ki_158, ki_160, ki_200, ki_212, ki_1000, ki_2000, ki_2001, ki_5000, ki_10000, ki_10001, ki_100000, ki_200000, ki_1000000, ki_2000000, ki_3000000, iO_neg, iO_add, iO_sub, iO_mul, kn_4, kn_8, kn_10, kn_20, kn_24, kn_40, kn_41, kn_50, kn_60, kn_158, kn_160, kn_200, kn_212, kn_2001, tn_lt, fn_lt, tn_le, fn_le, tn_eq, fn_eq, x_lt, x_le, x_eq, x_ix, x_nat, t_lt, f_lt, t_le, f_le, t_eq, f_eq, eq_self, and_self, true_and, and_true, false_and, and_false, if_true, if_false, Int.toNat_natCast, bI_s, bL_s, bA_s, bA_n, bV_s, mq_s, mq_n, en_le, bl_0, bl_1, u_eq, u_ne, w_eq, w_ne, v_eq, v_ne, ↓hp_cc_26, ↓hp_g_26_0, ↓hp_p_26_0, ↓hp_g_26_1, ↓hp_p_26_1, ↓hp_g_26_2, ↓hp_p_26_2, ↓hp_g_26_3, ↓hp_g_26_4, ↓hp_g_26_5, ↓hp_g_26_6, ↓hp_g_26_7, ↓hp_g_26_8, ↓hp_g_26_9, ↓hp_g_26_10, ↓hp_g_26_11, ↓hp_g_26_12, ↓hp_g_26_13, ↓hp_g_26_14, ↓hp_g_26_15, ↓hp_p_26_15, ↓hp_g_26_16, ↓hp_g_26_17, ↓hp_g_26_18, ↓hp_p_26_18, ↓hp_g_26_19, ↓hp_p_26_19, ↓hp_g_26_20, ↓hp_g_26_21, ↓hp_p_26_21, ↓hp_g_26_22, ↓hp_g_26_23, ↓hp_g_26_24, ↓hp_g_26_25, ↓hp_g_26_26, ↓hp_g_26_27, ↓hp_g_26_28, ↓hp_g_26_29, ↓hp_g_26_30, ↓hp_p_26_30, ↓hp_g_26_31, ↓hp_g_26_32, ↓hp_p_26_32, ↓hp_a_27, ↓hp_s_27, ↓hp_l_27, ↓hp_a_28, ↓hp_s_28, ↓hp_l_28, ↓hp_a_29, ↓hp_s_29, ↓hp_l_29, ↓hp_a_30, ↓hp_s_30, ↓hp_l_30, ↓hp_a_31, ↓hp_s_31, ↓hp_l_31, ↓hp_a_32, ↓hp_s_32, ↓hp_l_32, ↓hp_a_33, ↓hp_s_33, ↓hp_l_33, ↓hp_a_34, ↓hp_s_34, ↓hp_l_34, ↓hp_a_35, ↓hp_s_35, ↓hp_l_35, ↓hp_a_36, ↓hp_s_36, ↓hp_l_36, ↓hp_a_37, ↓hp_s_37, ↓hp_l_37, ↓hp_a_38, ↓hp_s_38, ↓hp_l_38, ↓hp_a_39, ↓hp_s_39, ↓hp_a_40, ↓hp_s_40, ↓hp_a_41, ↓hp_s_41, ↓hp_l_41, ↓hp_a_42, ↓hp_s_42, ↓hp_l_42, ↓hp_a_43, ↓hp_s_43, ↓hp_l_43, ↓hp_a_44, ↓hp_s_44, ↓hp_l_44, ↓hp_a_45, ↓hp_s_45, ↓hp_l_45, ↓hp_a_46, ↓hp_s_46, ↓hp_l_46, ↓hp_a_47, ↓hp_s_47, ↓hp_l_47, ↓hp_a_48, ↓hp_s_48, ↓hp_l_48, ↓hp_a_49, ↓hp_s_49, ↓hp_l_49, ↓hp_a_50, ↓hp_s_50, ↓hp_l_50, m0, m1, m2, m3, n0, n1, n2, n3, iO_wide, lO_sub, lO_mul, lO_neg, lO_add, kl_0, lc_lt, lc_le, lc_gt, lc_ge, lc_eq, y_lt, y_le, y_eq, eb_X12_areOne_7, eb_X12_areOne_11]
          · skip
            refine ⟨0, ⟨fun h => by omega, fun h => absurd h.2.2.2.2 g5⟩, Or.inl rfl, ?_⟩
            simp (disch := (first | assumption | (unfold i32; omega) | (unfold i64; omega) | omega)) only [↓reduceIte, ki_0, ki_1, ki_2, ki_3, ki_4, ki_5, ki_6, ki_7, ki_8, ki_9, ki_10, ki_11, ki_12, ki_13, ki_14, ki_15, ki_20, ki_21, ki_30, ki_31, ki_40, ki_41, ki_50, ki_51, ki_60, ki_63, ki_64, ki_65, ki_100, ki_158, ki_160, ki_200, ki_212, ki_1000, ki_2000, ki_2001, ki_5000, ki_10000, ki_10001, ki_100000, ki_200000, ki_1000000, ki_2000000, ki_3000000, iO_neg, iO_add, iO_sub, iO_mul, kn_4, kn_8, kn_10, kn_20, kn_24, kn_40, kn_41, kn_50, kn_60, kn_158, kn_160, kn_200, kn_212, kn_2001, tn_lt, fn_lt, tn_le, fn_le, tn_eq, fn_eq, x_lt, x_le, x_eq, x_ix, x_nat, t_lt, f_lt, t_le, f_le, t_eq, f_eq, eq_self, and_self, true_and, and_true, false_and, and_false, if_true, if_false, Int.toNat_natCast, bI_s, bL_s, bA_s, bA_n, bV_s, mq_s, mq_n, en_le, bl_0, bl_1, u_eq, u_ne, w_eq, w_ne, v_eq, v_ne, ↓hp_cc_26, ↓hp_g_26_0, ↓hp_p_26_0, ↓hp_g_26_1, ↓hp_p_26_1, ↓hp_g_26_2, ↓hp_p_26_2, ↓hp_g_26_3, ↓hp_g_26_4, ↓hp_g_26_5, ↓hp_g_26_6, ↓hp_g_26_7, ↓hp_g_26_8, ↓hp_g_26_9, ↓hp_g_26_10, ↓hp_g_26_11, ↓hp_g_26_12, ↓hp_g_26_13, ↓hp_g_26_14, ↓hp_g_26_15, ↓hp_p_26_15, ↓hp_g_26_16, ↓hp_g_26_17, ↓hp_g_26_18, ↓hp_p_26_18, ↓hp_g_26_19, ↓hp_p_26_19, ↓hp_g_26_20, ↓hp_g_26_21, ↓hp_p_26_21, ↓hp_g_26_22, ↓hp_g_26_23, ↓hp_g_26_24, ↓hp_g_26_25, ↓hp_g_26_26, ↓hp_g_26_27, ↓hp_g_26_28, ↓hp_g_26_29, ↓hp_g_26_30, ↓hp_p_26_30, ↓hp_g_26_31, ↓hp_g_26_32, ↓hp_p_26_32, ↓hp_a_27, ↓hp_s_27, ↓hp_l_27, ↓hp_a_28, ↓hp_s_28, ↓hp_l_28, ↓hp_a_29, ↓hp_s_29, ↓hp_l_29, ↓hp_a_30, ↓hp_s_30, ↓hp_l_30, ↓hp_a_31, ↓hp_s_31, ↓hp_l_31, ↓hp_a_32, ↓hp_s_32, ↓hp_l_32, ↓hp_a_33, ↓hp_s_33, ↓hp_l_33, ↓hp_a_34, ↓hp_s_34, ↓hp_l_34, ↓hp_a_35, ↓hp_s_35, ↓hp_l_35, ↓hp_a_36, ↓hp_s_36, ↓hp_l_36, ↓hp_a_37, ↓hp_s_37, ↓hp_l_37, ↓hp_a_38, ↓hp_s_38, ↓hp_l_38, ↓hp_a_39, ↓hp_s_39, ↓hp_a_40, ↓hp_s_40, ↓hp_a_41, ↓hp_s_41, ↓hp_l_41, ↓hp_a_42, ↓hp_s_42, ↓hp_l_42, ↓hp_a_43, ↓hp_s_43, ↓hp_l_43, ↓hp_a_44, ↓hp_s_44, ↓hp_l_44, ↓hp_a_45, ↓hp_s_45, ↓hp_l_45, ↓hp_a_46, ↓hp_s_46, ↓hp_l_46, ↓hp_a_47, ↓hp_s_47, ↓hp_l_47, ↓hp_a_48, ↓hp_s_48, ↓hp_l_48, ↓hp_a_49, ↓hp_s_49, ↓hp_l_49, ↓hp_a_50, ↓hp_s_50, ↓hp_l_50, m0, m1, m2, m3, n0, n1, n2, n3, iO_wide, lO_sub, lO_mul, lO_neg, lO_add, kl_0, lc_lt, lc_le, lc_gt, lc_ge, lc_eq, y_lt, y_le, y_eq, eb_X12_areOne_7, eb_X12_areOne_11]
      · skip
        rcases Int.lt_or_le 0 ((a - c) * (a - c) - b * b * d) with hN | hN
        · skip
          rcases Int.lt_or_le 0 (b') with hB | hB
          · skip
            refine ⟨0, ⟨fun h => by omega, fun h => absurd h.2.2.2.2 g5⟩, Or.inl rfl, ?_⟩
            simp (disch := (first | assumption | (unfold i32; omega) | (unfold i64; omega) | omega)) only [↓reduceIte, ki_0, ki_1, ki_2, ki_3, ki_4, ki_5, ki_6, ki_7, ki_8, ki_9, ki_10, ki_11, ki_12, ki_13, ki_14, ki_15, ki_20, ki_21, ki_30, ki_31, ki_40, ki_41, ki_50, ki_51, ki_60, ki_63, ki_64, ki_65, ki_100, ki_158, ki_160, ki_200, ki_212, ki_1000, ki_2000, ki_2001, ki_5000, ki_10000, ki_10001, ki_100000, ki_200000, ki_1000000, ki_2000000, ki_3000000, iO_neg, iO_add, iO_sub, iO_mul, kn_4, kn_8, kn_10, kn_20, kn_24, kn_40, kn_41, kn_50, kn_60, kn_158, kn_160, kn_200, kn_212, kn_2001, tn_lt, fn_lt, tn_le, fn_le, tn_eq, fn_eq, x_lt, x_le, x_eq, x_ix, x_nat, t_lt, f_lt, t_le, f_le, t_eq, f_eq, eq_self, and_self, true_and, and_true, false_and, and_false, if_true, if_false, Int.toNat_natCast, bI_s, bL_s, bA_s, bA_n, bV_s, mq_s, mq_n, en_le, bl_0, bl_1, u_eq, u_ne, w_eq, w_ne, v_eq, v_ne, ↓hp_cc_26, ↓hp_g_26_0, ↓hp_p_26_0, ↓hp_g_26_1, ↓hp_p_26_1, ↓hp_g_26_2, ↓hp_p_26_2, ↓hp_g_26_3, ↓hp_g_26_4, ↓hp_g_26_5, ↓hp_g_26_6, ↓hp_g_26_7, ↓hp_g_26_8, ↓hp_g_26_9, ↓hp_g_26_10, ↓hp_g_26_11, ↓hp_g_26_12, ↓hp_g_26_13, ↓hp_g_26_14, ↓hp_g_26_15, ↓hp_p_26_15, ↓hp_g_26_16, ↓hp_g_26_17, ↓hp_g_26_18, ↓hp_p_26_18, ↓hp_g_26_19, ↓hp_p_26_19, ↓hp_g_26_20, ↓hp_g_26_21, ↓hp_p_26_21, ↓hp_g_26_22, ↓hp_g_26_23, ↓hp_g_26_24, ↓hp_g_26_25, ↓hp_g_26_26, ↓hp_g_26_27, ↓hp_g_26_28, ↓hp_g_26_29, ↓hp_g_26_30, ↓hp_p_26_30, ↓hp_g_26_31, ↓hp_g_26_32, ↓hp_p_26_32, ↓hp_a_27, ↓hp_s_27, ↓hp_l_27, ↓hp_a_28, ↓hp_s_28, ↓hp_l_28, ↓hp_a_29, ↓hp_s_29, ↓hp_l_29, ↓hp_a_30, ↓hp_s_30, ↓hp_l_30, ↓hp_a_31, ↓hp_s_31, ↓hp_l_31, ↓hp_a_32, ↓hp_s_32, ↓hp_l_32, ↓hp_a_33, ↓hp_s_33, ↓hp_l_33, ↓hp_a_34, ↓hp_s_34, ↓hp_l_34, ↓hp_a_35, ↓hp_s_35, ↓hp_l_35, ↓hp_a_36, ↓hp_s_36, ↓hp_l_36, ↓hp_a_37, ↓hp_s_37, ↓hp_l_37, ↓hp_a_38, ↓hp_s_38, ↓hp_l_38, ↓hp_a_39, ↓hp_s_39, ↓hp_a_40, ↓hp_s_40, ↓hp_a_41, ↓hp_s_41, ↓hp_l_41, ↓hp_a_42, ↓hp_s_42, ↓hp_l_42, ↓hp_a_43, ↓hp_s_43, ↓hp_l_43, ↓hp_a_44, ↓hp_s_44, ↓hp_l_44, ↓hp_a_45, ↓hp_s_45, ↓hp_l_45, ↓hp_a_46, ↓hp_s_46, ↓hp_l_46, ↓hp_a_47, ↓hp_s_47, ↓hp_l_47, ↓hp_a_48, ↓hp_s_48, ↓hp_l_48, ↓hp_a_49, ↓hp_s_49, ↓hp_l_49, ↓hp_a_50, ↓hp_s_50, ↓hp_l_50, m0, m1, m2, m3, n0, n1, n2, n3, iO_wide, lO_sub, lO_mul, lO_neg, lO_add, kl_0, lc_lt, lc_le, lc_gt, lc_ge, lc_eq, y_lt, y_le, y_eq, eb_X12_areOne_7, eb_X12_areOne_11]
          · skip
            refine ⟨0, ⟨fun h => by omega, fun h => absurd h.2.2.2.2 g5⟩, Or.inl rfl, ?_⟩
            simp (disch := (first | assumption | (unfold i32; omega) | (unfold i64; omega) | omega)) only [↓reduceIte, ki_0, ki_1, ki_2, ki_3, ki_4, ki_5, ki_6, ki_7, ki_8, ki_9, ki_10, ki_11, ki_12, ki_13, ki_14, ki_15, ki_20, ki_21, ki_30, ki_31, ki_40, ki_41, ki_50, ki_51, ki_60, ki_63, ki_64, ki_65, ki_100, ki_158, ki_160, ki_200, ki_212, ki_1000, ki_2000, ki_2001, ki_5000, ki_10000, ki_10001, ki_100000, ki_200000, ki_1000000, ki_2000000, ki_3000000, iO_neg, iO_add, iO_sub, iO_mul, kn_4, kn_8, kn_10, kn_20, kn_24, kn_40, kn_41, kn_50, kn_60, kn_158, kn_160, kn_200, kn_212, kn_2001, tn_lt, fn_lt, tn_le, fn_le, tn_eq, fn_eq, x_lt, x_le, x_eq, x_ix, x_nat, t_lt, f_lt, t_le, f_le, t_eq, f_eq, eq_self, and_self, true_and, and_true, false_and, and_false, if_true, if_false, Int.toNat_natCast, bI_s, bL_s, bA_s, bA_n, bV_s, mq_s, mq_n, en_le, bl_0, bl_1, u_eq, u_ne, w_eq, w_ne, v_eq, v_ne, ↓hp_cc_26, ↓hp_g_26_0, ↓hp_p_26_0, ↓hp_g_26_1, ↓hp_p_26_1, ↓hp_g_26_2, ↓hp_p_26_2, ↓hp_g_26_3, ↓hp_g_26_4, ↓hp_g_26_5, ↓hp_g_26_6, ↓hp_g_26_7, ↓hp_g_26_8, ↓hp_g_26_9, ↓hp_g_26_10, ↓hp_g_26_11, ↓hp_g_26_12, ↓hp_g_26_13, ↓hp_g_26_14, ↓hp_g_26_15, ↓hp_p_26_15, ↓hp_g_26_16, ↓hp_g_26_17, ↓hp_g_26_18, ↓hp_p_26_18, ↓hp_g_26_19, ↓hp_p_26_19, ↓hp_g_26_20, ↓hp_g_26_21, ↓hp_p_26_21, ↓hp_g_26_22, ↓hp_g_26_23, ↓hp_g_26_24, ↓hp_g_26_25, ↓hp_g_26_26, ↓hp_g_26_27, ↓hp_g_26_28, ↓hp_g_26_29, ↓hp_g_26_30, ↓hp_p_26_30, ↓hp_g_26_31, ↓hp_g_26_32, ↓hp_p_26_32, ↓hp_a_27, ↓hp_s_27, ↓hp_l_27, ↓hp_a_28, ↓hp_s_28, ↓hp_l_28, ↓hp_a_29, ↓hp_s_29, ↓hp_l_29, ↓hp_a_30, ↓hp_s_30, ↓hp_l_30, ↓hp_a_31, ↓hp_s_31, ↓hp_l_31, ↓hp_a_32, ↓hp_s_32, ↓hp_l_32, ↓hp_a_33, ↓hp_s_33, ↓hp_l_33, ↓hp_a_34, ↓hp_s_34, ↓hp_l_34, ↓hp_a_35, ↓hp_s_35, ↓hp_l_35, ↓hp_a_36, ↓hp_s_36, ↓hp_l_36, ↓hp_a_37, ↓hp_s_37, ↓hp_l_37, ↓hp_a_38, ↓hp_s_38, ↓hp_l_38, ↓hp_a_39, ↓hp_s_39, ↓hp_a_40, ↓hp_s_40, ↓hp_a_41, ↓hp_s_41, ↓hp_l_41, ↓hp_a_42, ↓hp_s_42, ↓hp_l_42, ↓hp_a_43, ↓hp_s_43, ↓hp_l_43, ↓hp_a_44, ↓hp_s_44, ↓hp_l_44, ↓hp_a_45, ↓hp_s_45, ↓hp_l_45, ↓hp_a_46, ↓hp_s_46, ↓hp_l_46, ↓hp_a_47, ↓hp_s_47, ↓hp_l_47, ↓hp_a_48, ↓hp_s_48, ↓hp_l_48, ↓hp_a_49, ↓hp_s_49, ↓hp_l_49, ↓hp_a_50, ↓hp_s_50, ↓hp_l_50, m0, m1, m2, m3, n0, n1, n2, n3, iO_wide, lO_sub, lO_mul, lO_neg, lO_add, kl_0, lc_lt, lc_le, lc_gt, lc_ge, lc_eq, y_lt, y_le, y_eq, eb_X12_areOne_7, eb_X12_areOne_11]
        · skip
          rcases Int.lt_or_le 0 (b') with hB | hB
          · skip
            refine ⟨0, ⟨fun h => by omega, fun h => absurd h.2.2.2.2 g5⟩, Or.inl rfl, ?_⟩
            simp (disch := (first | assumption | (unfold i32; omega) | (unfold i64; omega) | omega)) only [↓reduceIte, ki_0, ki_1, ki_2, ki_3, ki_4, ki_5, ki_6, ki_7, ki_8, ki_9, ki_10, ki_11, ki_12, ki_13, ki_14, ki_15, ki_20, ki_21, ki_30, ki_31, ki_40, ki_41, ki_50, ki_51, ki_60, ki_63, ki_64, ki_65, ki_100, ki_158, ki_160, ki_200, ki_212, ki_1000, ki_2000, ki_2001, ki_5000, ki_10000, ki_10001, ki_100000, ki_200000, ki_1000000, ki_2000000, ki_3000000, iO_neg, iO_add, iO_sub, iO_mul, kn_4, kn_8, kn_10, kn_20, kn_24, kn_40, kn_41, kn_50, kn_60, kn_158, kn_160, kn_200, kn_212, kn_2001, tn_lt, fn_lt, tn_le, fn_le, tn_eq, fn_eq, x_lt, x_le, x_eq, x_ix, x_nat, t_lt, f_lt, t_le, f_le, t_eq, f_eq, eq_self, and_self, true_and, and_true, false_and, and_false, if_true, if_false, Int.toNat_natCast, bI_s, bL_s, bA_s, bA_n, bV_s, mq_s, mq_n, en_le, bl_0, bl_1, u_eq, u_ne, w_eq, w_ne, v_eq, v_ne, ↓hp_cc_26, ↓hp_g_26_0, ↓hp_p_26_0, ↓hp_g_26_1, ↓hp_p_26_1, ↓hp_g_26_2, ↓hp_p_26_2, ↓hp_g_26_3, ↓hp_g_26_4, ↓hp_g_26_5, ↓hp_g_26_6, ↓hp_g_26_7, ↓hp_g_26_8, ↓hp_g_26_9, ↓hp_g_26_10, ↓hp_g_26_11, ↓hp_g_26_12, ↓hp_g_26_13, ↓hp_g_26_14, ↓hp_g_26_15, ↓hp_p_26_15, ↓hp_g_26_16, ↓hp_g_26_17, ↓hp_g_26_18, ↓hp_p_26_18, ↓hp_g_26_19, ↓hp_p_26_19, ↓hp_g_26_20, ↓hp_g_26_21, ↓hp_p_26_21, ↓hp_g_26_22, ↓hp_g_26_23, ↓hp_g_26_24, ↓hp_g_26_25, ↓hp_g_26_26, ↓hp_g_26_27, ↓hp_g_26_28, ↓hp_g_26_29, ↓hp_g_26_30, ↓hp_p_26_30, ↓hp_g_26_31, ↓hp_g_26_32, ↓hp_p_26_32, ↓hp_a_27, ↓hp_s_27, ↓hp_l_27, ↓hp_a_28, ↓hp_s_28, ↓hp_l_28, ↓hp_a_29, ↓hp_s_29, ↓hp_l_29, ↓hp_a_30, ↓hp_s_30, ↓hp_l_30, ↓hp_a_31, ↓hp_s_31, ↓hp_l_31, ↓hp_a_32, ↓hp_s_32, ↓hp_l_32, ↓hp_a_33, ↓hp_s_33, ↓hp_l_33, ↓hp_a_34, ↓hp_s_34, ↓hp_l_34, ↓hp_a_35, ↓hp_s_35, ↓hp_l_35, ↓hp_a_36, ↓hp_s_36, ↓hp_l_36, ↓hp_a_37, ↓hp_s_37, ↓hp_l_37, ↓hp_a_38, ↓hp_s_38, ↓hp_l_38, ↓hp_a_39, ↓hp_s_39, ↓hp_a_40, ↓hp_s_40, ↓hp_a_41, ↓hp_s_41, ↓hp_l_41, ↓hp_a_42, ↓hp_s_42, ↓hp_l_42, ↓hp_a_43, ↓hp_s_43, ↓hp_l_43, ↓hp_a_44, ↓hp_s_44, ↓hp_l_44, ↓hp_a_45, ↓hp_s_45, ↓hp_l_45, ↓hp_a_46, ↓hp_s_46, ↓hp_l_46, ↓hp_a_47, ↓hp_s_47, ↓hp_l_47, ↓hp_a_48, ↓hp_s_48, ↓hp_l_48, ↓hp_a_49, ↓hp_s_49, ↓hp_l_49, ↓hp_a_50, ↓hp_s_50, ↓hp_l_50, m0, m1, m2, m3, n0, n1, n2, n3, iO_wide, lO_sub, lO_mul, lO_neg, lO_add, kl_0, lc_lt, lc_le, lc_gt, lc_ge, lc_eq, y_lt, y_le, y_eq, eb_X12_areOne_7, eb_X12_areOne_11]
          · skip
            refine ⟨0, ⟨fun h => by omega, fun h => absurd h.2.2.2.2 g5⟩, Or.inl rfl, ?_⟩
            simp (disch := (first | assumption | (unfold i32; omega) | (unfold i64; omega) | omega)) only [↓reduceIte, ki_0, ki_1, ki_2, ki_3, ki_4, ki_5, ki_6, ki_7, ki_8, ki_9, ki_10, ki_11, ki_12, ki_13, ki_14, ki_15, ki_20, ki_21, ki_30, ki_31, ki_40, ki_41, ki_50, ki_51, ki_60, ki_63, ki_64, ki_65, ki_100, ki_158, ki_160, ki_200, ki_212, ki_1000, ki_2000, ki_2001, ki_5000, ki_10000, ki_10001, ki_100000, ki_200000, ki_1000000, ki_2000000, ki_3000000, iO_neg, iO_add, iO_sub, iO_mul, kn_4, kn_8, kn_10, kn_20, kn_24, kn_40, kn_41, kn_50, kn_60, kn_158, kn_160, kn_200, kn_212, kn_2001, tn_lt, fn_lt, tn_le, fn_le, tn_eq, fn_eq, x_lt, x_le, x_eq, x_ix, x_nat, t_lt, f_lt, t_le, f_le, t_eq, f_eq, eq_self, and_self, true_and, and_true, false_and, and_false, if_true, if_false, Int.toNat_natCast, bI_s, bL_s, bA_s, bA_n, bV_s, mq_s, mq_n, en_le, bl_0, bl_1, u_eq, u_ne, w_eq, w_ne, v_eq, v_ne, ↓hp_cc_26, ↓hp_g_26_0, ↓hp_p_26_0, ↓hp_g_26_1, ↓hp_p_26_1, ↓hp_g_26_2, ↓hp_p_26_2, ↓hp_g_26_3, ↓hp_g_26_4, ↓hp_g_26_5, ↓hp_g_26_6, ↓hp_g_26_7, ↓hp_g_26_8, ↓hp_g_26_9, ↓hp_g_26_10, ↓hp_g_26_11, ↓hp_g_26_12, ↓hp_g_26_13, ↓hp_g_26_14, ↓hp_g_26_15, ↓hp_p_26_15, ↓hp_g_26_16, ↓hp_g_26_17, ↓hp_g_26_18, ↓hp_p_26_18, ↓hp_g_26_19, ↓hp_p_26_19, ↓hp_g_26_20, ↓hp_g_26_21, ↓hp_p_26_21, ↓hp_g_26_22, ↓hp_g_26_23, ↓hp_g_26_24, ↓hp_g_26_25, ↓hp_g_26_26, ↓hp_g_26_27, ↓hp_g_26_28, ↓hp_g_26_29, ↓hp_g_26_30, ↓hp_p_26_30, ↓hp_g_26_31, ↓hp_g_26_32, ↓hp_p_26_32, ↓hp_a_27, ↓hp_s_27, ↓hp_l_27, ↓hp_a_28, ↓hp_s_28, ↓hp_l_28, ↓hp_a_29, ↓hp_s_29, ↓hp_l_29, ↓hp_a_30, ↓hp_s_30, ↓hp_l_30, ↓hp_a_31, ↓hp_s_31, ↓hp_l_31, ↓hp_a_32, ↓hp_s_32, ↓hp_l_32, ↓hp_a_33, ↓hp_s_33, ↓hp_l_33, ↓hp_a_34, ↓hp_s_34, ↓hp_l_34, ↓hp_a_35, ↓hp_s_35, ↓hp_l_35, ↓hp_a_36, ↓hp_s_36, ↓hp_l_36, ↓hp_a_37, ↓hp_s_37, ↓hp_l_37, ↓hp_a_38, ↓hp_s_38, ↓hp_l_38, ↓hp_a_39, ↓hp_s_39, ↓hp_a_40, ↓hp_s_40, ↓hp_a_41, ↓hp_s_41, ↓hp_l_41, ↓hp_a_42, ↓hp_s_42, ↓hp_l_42, ↓hp_a_43, ↓hp_s_43, ↓hp_l_43, ↓hp_a_44, ↓hp_s_44, ↓hp_l_44, ↓hp_a_45, ↓hp_s_45, ↓hp_l_45, ↓hp_a_46, ↓hp_s_46, ↓hp_l_46, ↓hp_a_47, ↓hp_s_47, ↓hp_l_47, ↓hp_a_48, ↓hp_s_48, ↓hp_l_48, ↓hp_a_49, ↓hp_s_49, ↓hp_l_49, ↓hp_a_50, ↓hp_s_50, ↓hp_l_50, m0, m1, m2, m3, n0, n1, n2, n3, iO_wide, lO_sub, lO_mul, lO_neg, lO_add, kl_0, lc_lt, lc_le, lc_gt, lc_ge, lc_eq, y_lt, y_le, y_eq, eb_X12_areOne_7, eb_X12_areOne_11]
  · refine ⟨0, ⟨fun h => by omega, fun h => absurd h.2.2.1 g3⟩, Or.inl rfl, ?_⟩
    simp (disch := (first | assumption | (unfold i32; omega) | (unfold i64; omega) | omega)) only [↓reduceIte, ki_0, ki_1, ki_2, ki_3, ki_4, ki_5, ki_6, ki_7, ki_8, ki_9, ki_10, ki_11, ki_12, ki_13, ki_14, ki_15, ki_20, ki_21, ki_30, ki_31, ki_40, ki_41, ki_50, ki_51, ki_60, ki_63, ki_64, ki_65, ki_100, ki_158, ki_160, ki_200, ki_212, ki_1000, ki_2000, ki_2001, ki_5000, ki_10000, ki_10001, ki_100000, ki_200000, ki_1000000, ki_2000000, ki_3000000, iO_neg, iO_add, iO_sub, iO_mul, kn_4, kn_8, kn_10, kn_20, kn_24, kn_40, kn_41, kn_50, kn_60, kn_158, kn_160, kn_200, kn_212, kn_2001, tn_lt, fn_lt, tn_le, fn_le, tn_eq, fn_eq, x_lt, x_le, x_eq, x_ix, x_nat, t_lt, f_lt, t_le, f_le, t_eq, f_eq, eq_self, and_self, true_and, and_true, false_and, and_false, if_true, if_false, Int.toNat_natCast, bI_s, bL_s, bA_s, bA_n, bV_s, mq_s, mq_n, en_le, bl_0, bl_1, u_eq, u_ne, w_eq, w_ne, v_eq, v_ne, ↓hp_cc_26, ↓hp_g_26_0, ↓hp_p_26_0, ↓hp_g_26_1, ↓hp_p_26_1, ↓hp_g_26_2, ↓hp_p_26_2, ↓hp_g_26_3, ↓hp_g_26_4, ↓hp_g_26_5, ↓hp_g_26_6, ↓hp_g_26_7, ↓hp_g_26_8, ↓hp_g_26_9, ↓hp_g_26_10, ↓hp_g_26_11, ↓hp_g_26_12, ↓hp_g_26_13, ↓hp_g_26_14, ↓hp_g_26_15, ↓hp_p_26_15, ↓hp_g_26_16, ↓hp_g_26_17, ↓hp_g_26_18, ↓hp_p_26_18, ↓hp_g_26_19, ↓hp_p_26_19, ↓hp_g_26_20, ↓hp_g_26_21, ↓hp_p_26_21, ↓hp_g_26_22, ↓hp_g_26_23, ↓hp_g_26_24, ↓hp_g_26_25, ↓hp_g_26_26, ↓hp_g_26_27, ↓hp_g_26_28, ↓hp_g_26_29, ↓hp_g_26_30, ↓hp_p_26_30, ↓hp_g_26_31, ↓hp_g_26_32, ↓hp_p_26_32, ↓hp_a_27, ↓hp_s_27, ↓hp_l_27, ↓hp_a_28, ↓hp_s_28, ↓hp_l_28, ↓hp_a_29, ↓hp_s_29, ↓hp_l_29, ↓hp_a_30, ↓hp_s_30, ↓hp_l_30, ↓hp_a_31, ↓hp_s_31, ↓hp_l_31, ↓hp_a_32, ↓hp_s_32, ↓hp_l_32, ↓hp_a_33, ↓hp_s_33, ↓hp_l_33, ↓hp_a_34, ↓hp_s_34, ↓hp_l_34, ↓hp_a_35, ↓hp_s_35, ↓hp_l_35, ↓hp_a_36, ↓hp_s_36, ↓hp_l_36, ↓hp_a_37, ↓hp_s_37, ↓hp_l_37, ↓hp_a_38, ↓hp_s_38, ↓hp_l_38, ↓hp_a_39, ↓hp_s_39, ↓hp_a_40, ↓hp_s_40, ↓hp_a_41, ↓hp_s_41, ↓hp_l_41, ↓hp_a_42, ↓hp_s_42, ↓hp_l_42, ↓hp_a_43, ↓hp_s_43, ↓hp_l_43, ↓hp_a_44, ↓hp_s_44, ↓hp_l_44, ↓hp_a_45, ↓hp_s_45, ↓hp_l_45, ↓hp_a_46, ↓hp_s_46, ↓hp_l_46, ↓hp_a_47, ↓hp_s_47, ↓hp_l_47, ↓hp_a_48, ↓hp_s_48, ↓hp_l_48, ↓hp_a_49, ↓hp_s_49, ↓hp_l_49, ↓hp_a_50, ↓hp_s_50, ↓hp_l_50, m0, m1, m2, m3, n0, n1, n2, n3, iO_wide, lO_sub, lO_mul, lO_neg, lO_add, kl_0, lc_lt, lc_le, lc_gt, lc_ge, lc_eq, y_lt, y_le, y_eq, eb_X12_areOne_7, eb_X12_areOne_11]
theorem m_whn (hk : k < 8) (hM : MS MA k l.1 l.2.1 l.2.2.1 l.2.2.2) (hS : SL l.1 l.2.1 l.2.2.1 l.2.2.2) {N : Nat} (hN : N ≤ 100000) : f_X12_wholeOf sc (n + 3) 26 (iO (k : Int)) (iO (N : Int)) (hp XI XA XP XC MI MA ML D) = some (some (.int (iO (WNn l N))), hp XI XA XP XC MI MA ML D) := e_mwhole hk hM hS (by omega) (by omega)
/-- the first multiple that is 1 or more -/
theorem idx1 {W : Nat → Int} (h2 : 1 ≤ W 2) : idxw W 1 = if W 1 = 0 then 2 else 1 := by
  show 1 + cntw W 1 0 = _
  unfold cntw
  show 1 + (if W 1 = 0 then (if W 2 = 0 then 2 else 1) else 0) = _
  by_cases g : W 1 = 0
  · rw [if_pos g, if_pos g, if_neg (by omega)]
  · rw [if_neg g, if_neg g]
theorem m_share67 (hk : k < 8) (hk' : k' < 8) (hM : MS MA k l.1 l.2.1 l.2.2.1 l.2.2.2) (hM' : MS MA k' m.1 m.2.1 m.2.2.1 m.2.2.2) (hS : SL l.1 l.2.1 l.2.2.1 l.2.2.2) (hS' : SL m.1 m.2.1 m.2.2.1 m.2.2.2) (hs : 0 < sgn l (-1) 2) (hs' : 0 < sgn m (-1) 2) : b_X12_share_6 sc (n + 3) 26 (iO (k : Int)) (iO (k' : Int)) (iO 1) (iO 1) (hp XI XA XP XC MI MA ML D) = b_X12_share_9 sc (n + 3) 26 (iO (k : Int)) (iO (k' : Int)) (iO (idxw (WNn l) 1 : Int)) (iO (idxw (WNn m) 1 : Int)) (iO 1) (hp XI XA XP XC MI MA ML D) := by
  obtain ⟨o0, o1, o2, o3⟩ := WNn_ok hS hs
  obtain ⟨p0, p1, p2, p3⟩ := WNn_ok hS' hs'
  have a1 := o0 1
  have a2 := o3 1
  have a3 : 1 ≤ WNn l 2 := by have := o2 0; have := o0 0; omega
  have a4 := o3 2
  have c1 := p0 1
  have c2 := p3 1
  have c3 : 1 ≤ WNn m 2 := by have := p2 0; have := p0 0; omega
  have c4 := p3 2
  have e1 := m_whn (sc := sc) (n := n) (XI := XI) (XA := XA) (XP := XP) (XC := XC) (MI := MI) (ML := ML) (D := D) hk hM hS (N := 1) (by omega)
  have e2 := m_whn (sc := sc) (n := n) (XI := XI) (XA := XA) (XP := XP) (XC := XC) (MI := MI) (ML := ML) (D := D) hk hM hS (N := 2) (by omega)
  have f1 := m_whn (sc := sc) (n := n) (XI := XI) (XA := XA) (XP := XP) (XC := XC) (MI := MI) (ML := ML) (D := D) hk' hM' hS' (N := 1) (by omega)
  have f2 := m_whn (sc := sc) (n := n) (XI := XI) (XA := XA) (XP := XP) (XC := XC) (MI := MI) (ML := ML) (D := D) hk' hM' hS' (N := 2) (by omega)
  have e1 : f_X12_wholeOf sc (n + 3) 26 (iO (k : Int)) (iO 1) (hp XI XA XP XC MI MA ML D) = _ := e1
  have e2 : f_X12_wholeOf sc (n + 3) 26 (iO (k : Int)) (iO (1 + 1)) (hp XI XA XP XC MI MA ML D) = _ := e2
  have f1 : f_X12_wholeOf sc (n + 3) 26 (iO (k' : Int)) (iO 1) (hp XI XA XP XC MI MA ML D) = _ := f1
  have f2 : f_X12_wholeOf sc (n + 3) 26 (iO (k' : Int)) (iO (1 + 1)) (hp XI XA XP XC MI MA ML D) = _ := f2
  rw [idx1 a3, idx1 c3]
  clear o0 o1 o2 o3 p0 p1 p2 p3 hM hM' hs hs'
  generalize WNn l 1 = P1 at *
  generalize WNn l 2 = P2 at *
  generalize WNn m 1 = Q1 at *
  generalize WNn m 2 = Q2 at *
  have st : b_X12_share_6 sc (n + 3) 26 (iO (k : Int)) (iO (k' : Int)) (iO 1) (iO 1) (hp XI XA XP XC MI MA ML D) = b_X12_share_7 sc (n + 3) 26 (iO (k : Int)) (iO (k' : Int)) (iO ((if P1 = 0 then 2 else 1 : Nat) : Int)) (iO 1) (hp XI XA XP XC MI MA ML D) := by
    by_cases g : P1 = 0
    · rw [if_pos g, eb_X12_share_6, hp_cc_26, if_pos rfl, e1, bI_s, if_neg (show ¬ 1 ≤ iO P1 from nle (a := 1) (b := P1) (by unfold i32; omega) (by unfold i32; omega) (by omega)), en_le, ki_1, iO_add, eb_X12_share_6, hp_cc_26, if_pos rfl, e2, bI_s, if_pos (show 1 ≤ iO P2 from ple (a := 1) (b := P2) (by unfold i32; omega) (by unfold i32; omega) (by omega))]
      rfl
    · rw [if_neg g, eb_X12_share_6, hp_cc_26, if_pos rfl, e1, bI_s, if_pos (show 1 ≤ iO P1 from ple (a := 1) (b := P1) (by unfold i32; omega) (by unfold i32; omega) (by omega))]
      rfl
  rw [st]
  generalize iO ((if P1 = 0 then 2 else 1 : Nat) : Int) = I1
  by_cases g : Q1 = 0
  · rw [if_pos g, eb_X12_share_7, hp_cc_26, if_pos rfl, f1, bI_s, if_neg (show ¬ 1 ≤ iO Q1 from nle (a := 1) (b := Q1) (by unfold i32; omega) (by unfold i32; omega) (by omega)), en_le, ki_1, iO_add, eb_X12_share_7, hp_cc_26, if_pos rfl, f2, bI_s, if_pos (show 1 ≤ iO Q2 from ple (a := 1) (b := Q2) (by unfold i32; omega) (by unfold i32; omega) (by omega))]
    rfl
  · rw [if_neg g, eb_X12_share_7, hp_cc_26, if_pos rfl, f1, bI_s, if_pos (show 1 ≤ iO Q1 from ple (a := 1) (b := Q1) (by unfold i32; omega) (by unfold i32; omega) (by omega))]
    rfl
theorem m_share9 (hk : k < 8) (hk' : k' < 8) (hM : MS MA k l.1 l.2.1 l.2.2.1 l.2.2.2) (hM' : MS MA k' m.1 m.2.1 m.2.2.1 m.2.2.2) (hS : SL l.1 l.2.1 l.2.2.1 l.2.2.2) (hS' : SL m.1 m.2.1 m.2.2.1 m.2.2.2) (hs : 0 < sgn l (-1) 2) (hs' : 0 < sgn m (-1) 2) : ∀ (j v : Nat), v + j = 5001 → 1 ≤ v → b_X12_share_9 sc (n + 3) 26 (iO (k : Int)) (iO (k' : Int)) (iO (idxw (WNn l) v : Int)) (iO (idxw (WNn m) v : Int)) (iO (v : Int)) (hp XI XA XP XC MI MA ML D) = some (some (.int (iO (shrw (WNn l) (WNn m) j v))), hp XI XA XP XC MI MA ML D) := by
  obtain ⟨o0, o1, o2, o3⟩ := WNn_ok hS hs
  obtain ⟨p0, p1, p2, p3⟩ := WNn_ok hS' hs'
  intro j
  induction j with
  | zero =>
    intro v hv h1
    rw [eb_X12_share_9, shrw]
    clear o0 o1 o2 o3 p0 p1 p2 p3 hM hM'
    simp (disch := (first | assumption | (unfold i32; omega) | (unfold i64; omega) | omega)) only [↓reduceIte, ki_0, ki_1, ki_2, ki_3, ki_4, ki_5, ki_6, ki_7, ki_8, ki_9, ki_10, ki_11, ki_12, ki_13, ki_14, ki_15, ki_20, ki_21, ki_30, ki_31, ki_40, ki_41, ki_50, ki_51, ki_60, ki_63, ki_64, ki_65, ki_100, ki_158, ki_160, ki_200, ki_212, ki_1000, ki_2000, ki_2001, ki_5000, ki_10000, ki_10001, ki_100000, ki_200000, ki_1000000, ki_2000000, ki_3000000, iO_neg, iO_add, iO_sub, iO_mul, kn_4, kn_8, kn_10, kn_20, kn_24, kn_40, kn_41, kn_50, kn_60, kn_158, kn_160, kn_200, kn_212, kn_2001, tn_lt, fn_lt, tn_le, fn_le, tn_eq, fn_eq, x_lt, x_le, x_eq, x_ix, x_nat, t_lt, f_lt, t_le, f_le, t_eq, f_eq, eq_self, and_self, true_and, and_true, false_and, and_false, if_true, if_false, Int.toNat_natCast, bI_s, bL_s, bA_s, bA_n, bV_s, mq_s, mq_n, en_le, bl_0, bl_1, u_eq, u_ne, w_eq, w_ne, v_eq, v_ne]
  | succ j ih =>
    intro v hv h1
    have i1 := idxw_le (W := WNn l) v
    have i2 := idxw_le (W := WNn m) v
    have g1 := idxw_ge o0 o1 o2 v
    have g2 := idxw_ge p0 p1 p2 v
    have ih' := ih (v + 1) (by omega) (by omega)
    rw [idxw, idxw] at ih'
    -- the first slope
    have st1 : ∀ J : Int32, b_X12_share_10 sc (n + 3) 26 (iO (k : Int)) (iO (k' : Int)) (iO (idxw (WNn l) v : Int)) J (iO (v : Int)) (iO 0) (hp XI XA XP XC MI MA ML D) = b_X12_share_11 sc (n + 3) 26 (iO (k : Int)) (iO (k' : Int)) (iO ((idxw (WNn l) v + cntw (WNn l) (idxw (WNn l) v) v : Nat) : Int)) J (iO (v : Int)) (iO (cntw (WNn l) (idxw (WNn l) v) v : Int)) (hp XI XA XP XC MI MA ML D) := by
      intro J
      generalize hI : idxw (WNn l) v = I at *
      have e0 := m_whn (sc := sc) (n := n) (XI := XI) (XA := XA) (XP := XP) (XC := XC) (MI := MI) (ML := ML) (D := D) hk hM hS (N := I) (by omega)
      have e1 := m_whn (sc := sc) (n := n) (XI := XI) (XA := XA) (XP := XP) (XC := XC) (MI := MI) (ML := ML) (D := D) hk hM hS (N := I + 1) (by omega)
      have e2 := m_whn (sc := sc) (n := n) (XI := XI) (XA := XA) (XP := XP) (XC := XC) (MI := MI) (ML := ML) (D := D) hk hM hS (N := I + 2) (by omega)
      have b0 := o0 I
      have b1 := o1 I
      have b2 := o2 I
      have b3 := o3 I
      have b4 := o3 (I + 1)
      have b5 := o3 (I + 2)
      have b6 := o0 (I + 1)
      have b7 := o0 (I + 2)
      rw [show ((I + 1 : Nat) : Int) = (I : Int) + 1 by omega] at e1 b4
      rw [show ((I + 2 : Nat) : Int) = (I : Int) + 1 + 1 by omega] at e2 b5
      unfold cntw
      generalize WNn l I = P0 at *
      generalize WNn l (I + 1) = P1 at *
      generalize WNn l (I + 2) = P2 at *
      have ne : ∀ x : Int, 0 ≤ x → x ≤ 500000 → (iO x = iO (v : Int) ↔ x = (v : Int)) := fun x hx hx2 => iO_eq (by unfold i32; omega) (by unfold i32; omega)
      by_cases c0 : P0 = (v : Int)
      · rw [if_pos c0, eb_X12_share_10, hp_cc_26, if_pos rfl, e0, bI_s, if_pos ((ne P0 (by omega) (by omega)).mpr c0), en_le, en_le, ki_1, iO_add, iO_add, eb_X12_share_10, hp_cc_26, if_pos rfl, e1, bI_s]
        by_cases c1 : P1 = (v : Int)
        · rw [if_pos c1, if_pos ((ne P1 (by omega) (by omega)).mpr c1), en_le, en_le, ki_1, iO_add, iO_add, eb_X12_share_10, hp_cc_26, if_pos rfl, e2, bI_s, if_neg (fun h => by have := (ne P2 (by omega) (by omega)).mp h; omega)]
          rfl
        · rw [if_neg c1, if_neg (fun h => c1 ((ne P1 (by omega) (by omega)).mp h))]
          rfl
      · rw [if_neg c0, eb_X12_share_10, hp_cc_26, if_pos rfl, e0, bI_s, if_neg (fun h => c0 ((ne P0 (by omega) (by omega)).mp h))]
        rfl
    -- the second one
    have st2 : ∀ (I1 : Int32) (t : Nat), t ≤ 2 → b_X12_share_11 sc (n + 3) 26 (iO (k : Int)) (iO (k' : Int)) I1 (iO (idxw (WNn m) v : Int)) (iO (v : Int)) (iO (t : Int)) (hp XI XA XP XC MI MA ML D) = if t + cntw (WNn m) (idxw (WNn m) v) v = 1 then b_X12_share_9 sc (n + 3) 26 (iO (k : Int)) (iO (k' : Int)) I1 (iO ((idxw (WNn m) v + cntw (WNn m) (idxw (WNn m) v) v : Nat) : Int)) (iO ((v + 1 : Nat) : Int)) (hp XI XA XP XC MI MA ML D) else some (some (.int (iO (v : Int))), hp XI XA XP XC MI MA ML D) := by
      intro I1 t ht
      generalize hI : idxw (WNn m) v = I at *
      have e0 := m_whn (sc := sc) (n := n) (XI := XI) (XA := XA) (XP := XP) (XC := XC) (MI := MI) (ML := ML) (D := D) hk' hM' hS' (N := I) (by omega)
      have e1 := m_whn (sc := sc) (n := n) (XI := XI) (XA := XA) (XP := XP) (XC := XC) (MI := MI) (ML := ML) (D := D) hk' hM' hS' (N := I + 1) (by omega)
      have e2 := m_whn (sc := sc) (n := n) (XI := XI) (XA := XA) (XP := XP) (XC := XC) (MI := MI) (ML := ML) (D := D) hk' hM' hS' (N := I + 2) (by omega)
      have b0 := p0 I
      have b1 := p1 I
      have b2 := p2 I
      have b3 := p3 I
      have b4 := p3 (I + 1)
      have b5 := p3 (I + 2)
      have b6 := p0 (I + 1)
      have b7 := p0 (I + 2)
      rw [show ((I + 1 : Nat) : Int) = (I : Int) + 1 by omega] at e1 b4
      rw [show ((I + 2 : Nat) : Int) = (I : Int) + 1 + 1 by omega] at e2 b5
      unfold cntw
      generalize WNn m I = P0 at *
      generalize WNn m (I + 1) = P1 at *
      generalize WNn m (I + 2) = P2 at *
      have ne : ∀ x : Int, 0 ≤ x → x ≤ 500000 → (iO x = iO (v : Int) ↔ x = (v : Int)) := fun x hx hx2 => iO_eq (by unfold i32; omega) (by unfold i32; omega)
      have n1 : ∀ x : Int, 0 ≤ x → x ≤ 10 → (iO x = 1 ↔ x = 1) := fun x hx hx2 => iO_eq (a := x) (b := 1) (by unfold i32; omega) (by unfold i32; omega)
      have fin : ∀ (x : Nat) (J : Int32), x ≤ 10 → (if iO (x : Int) = 1 then en_le (iO (v : Int) + 1) (fun x6 => b_X12_share_9 sc (n + 3) 26 (iO (k : Int)) (iO (k' : Int)) I1 J x6 (hp XI XA XP XC MI MA ML D)) else some (some (.int (iO (v : Int))), hp XI XA XP XC MI MA ML D)) = if x = 1 then b_X12_share_9 sc (n + 3) 26 (iO (k : Int)) (iO (k' : Int)) I1 J (iO ((v + 1 : Nat) : Int)) (hp XI XA XP XC MI MA ML D) else some (some (.int (iO (v : Int))), hp XI XA XP XC MI MA ML D) := by
        intro x J hx
        by_cases c : x = 1
        · rw [if_pos c, if_pos ((n1 (x : Int) (by omega) (by omega)).mpr (by omega)), en_le, ki_1, iO_add]
          rfl
        · rw [if_neg c, if_neg (fun h => c (by have := (n1 (x : Int) (by omega) (by omega)).mp h; omega))]
      by_cases c0 : P0 = (v : Int)
      · rw [if_pos c0, eb_X12_share_11, hp_cc_26, if_pos rfl, e0, bI_s, if_pos ((ne P0 (by omega) (by omega)).mpr c0), en_le, en_le, ki_1, iO_add, iO_add, eb_X12_share_11, hp_cc_26, if_pos rfl, e1, bI_s]
        by_cases c1 : P1 = (v : Int)
        · rw [if_pos c1, if_pos ((ne P1 (by omega) (by omega)).mpr c1), en_le, en_le, ki_1, iO_add, iO_add, eb_X12_share_11, hp_cc_26, if_pos rfl, e2, bI_s, if_neg (fun h => by have := (ne P2 (by omega) (by omega)).mp h; omega)]
          exact fin (t + 2) _ (by omega)
        · rw [if_neg c1, if_neg (fun h => c1 ((ne P1 (by omega) (by omega)).mp h))]
          exact fin (t + 1) _ (by omega)
      · rw [if_neg c0, eb_X12_share_11, hp_cc_26, if_pos rfl, e0, bI_s, if_neg (fun h => c0 ((ne P0 (by omega) (by omega)).mp h))]
        exact fin t _ (by omega)
    have c1 : cntw (WNn l) (idxw (WNn l) v) v ≤ 2 := by unfold cntw; split <;> (try split) <;> omega
    rw [eb_X12_share_9, if_neg (show ¬ 5000 < iO (v : Int) from nlt (a := 5000) (b := (v : Int)) (by unfold i32; omega) (by unfold i32; omega) (by omega))]
    refine Eq.trans (st1 _) ?_
    rw [st2 _ _ c1, shrw]
    by_cases c : cntw (WNn l) (idxw (WNn l) v) v + cntw (WNn m) (idxw (WNn m) v) v = 1
    · rw [if_pos c, if_pos c]
      exact ih'
    · rw [if_neg c, if_neg c]
end SHM
section SHN
variable {sc : en_S} {n : Nat} {S : ST5}
theorem mc_share (hS : OK5 S) {r s : Int} (hr : i32 r) (hs : i32 s) : MC S S (p_share S r s) (fun z => f_X12_share sc (n + 40) 26 (iO r) (iO s) z) := by
  apply mc_ask
  intro XI XA XP XC MI MA ML D hV
  have h8 := hS.1
  show f_X12_share sc (n + 40) 26 (iO r) (iO s) _ = _
  rw [e_X12_share]
  unfold p_share
  cases hq : slq S r with
  | none =>
    have := slq_none hq
    rw [hp_cc_26, if_pos rfl, e_misSlope hV hS hr, if_neg (by omega)]
    rfl
  | some l =>
    obtain ⟨k, rfl, hk, hq1'⟩ := slq_some hq
    have hM := hV.2.2.2.2.1 k l hq1'
    have hSl := hS.2.2.1 l (List.mem_of_getElem? hq1')
    rw [hp_cc_26, if_pos rfl, e_misSlope hV hS hr, if_pos (by omega), bI_s, if_neg (show ¬ iO 1 = 0 by decide), hp_cc_26, if_pos rfl, e_misSlope hV hS hs]
    cases hq2 : slq S s with
    | none =>
      have := slq_none hq2
      rw [if_neg (by omega)]
      rfl
    | some m =>
      obtain ⟨k', rfl, hk', hq2'⟩ := slq_some hq2
      have hM' := hV.2.2.2.2.1 k' m hq2'
      have hSm := hS.2.2.1 m (List.mem_of_getElem? hq2')
      obtain ⟨w, w1, w2, w3⟩ := m_areOne (sc := sc) (n := n + 38) (XI := XI) (XA := XA) (XP := XP) (XC := XC) (MI := MI) (ML := ML) (D := D) (k := k) (k' := k') (by omega) (by omega) hM hM' hSl hSm
      have sd : ∀ (q : Nat) (u : SL4), q < 8 → MS MA q u.1 u.2.1 u.2.2.1 u.2.2.2 → SL u.1 u.2.1 u.2.2.1 u.2.2.2 → f_X12_side sc (n + 39) 26 (iO (q : Int)) 1 1 2 (hp XI XA XP XC MI MA ML D) = some (some (.int (iO (sgn u (-1) 2))), hp XI XA XP XC MI MA ML D) := by
        intro q u hq8 hMu hSu
        obtain ⟨a1, a2, b1, b2, c1, c2, d1, d2, -⟩ := id hSu
        have s1 := sq_bd (x := 2 * u.1 * 1 - 1 * u.2.2.1) (K := 3000) (by omega) (by omega)
        have s2 := sq_bd (x := 2 * u.2.1 * 1) (K := 40) (by omega) (by omega)
        have s3 := mul_bd (x := 2 * u.2.1 * 1 * (2 * u.2.1 * 1)) (y := u.2.2.2) (a := 1600) (b := 50) (by omega) (by omega) (by omega) d2
        have h := e_side (sc := sc) (n := n + 37) (XI := XI) (XA := XA) (XP := XP) (XC := XC) (MI := MI) (ML := ML) (D0 := D) hq8 hMu hSu (N := 1) (m := 1) (q := 2) (by unfold i64; omega) (by unfold i64; omega) (by unfold i64; omega) (by unfold i64; omega)
        have e : sg (2 * u.1 * 1 - 1 * u.2.2.1) (2 * u.2.1 * 1) u.2.2.2 = sgn u (-1) 2 := by
          unfold sgn
          congr 1 <;> omega
        rw [e] at h
        exact h
      have s1 := sd k l (by omega) hM hSl
      have s2 := sd k' m (by omega) hM' hSm
      have r1 : sgn l (-1) 2 = -1 ∨ sgn l (-1) 2 = 0 ∨ sgn l (-1) 2 = 1 := sg_range _ _ _
      have r2 : sgn m (-1) 2 = -1 ∨ sgn m (-1) 2 = 0 ∨ sgn m (-1) 2 = 1 := sg_range _ _ _
      rw [if_pos (by omega), bI_s, if_neg (show ¬ iO 1 = 0 by decide), hp_cc_26, if_pos rfl, w3, bI_s]
      dsimp only
      rcases w2 with e | e
      · rw [if_neg (show ¬ oneP l m from fun h => by have := w1.mpr h; omega), e, if_pos (show iO 0 = 0 from rfl), hp_cc_26, if_pos rfl, s1, bI_s]
        by_cases g1 : sgn l (-1) 2 ≤ 0
        · rw [if_pos (show iO (sgn l (-1) 2) ≤ 0 from ple (a := sgn l (-1) 2) (b := 0) (by unfold i32; omega) (by unfold i32; omega) g1), if_pos (Or.inl g1)]
          rfl
        · rw [if_neg (show ¬ iO (sgn l (-1) 2) ≤ 0 from nle (a := sgn l (-1) 2) (b := 0) (by unfold i32; omega) (by unfold i32; omega) (by omega)), hp_cc_26, if_pos rfl, s2, bI_s]
          by_cases g2 : sgn m (-1) 2 ≤ 0
          · rw [if_neg (show ¬ 0 < iO (sgn m (-1) 2) from nlt (a := 0) (b := sgn m (-1) 2) (by unfold i32; omega) (by unfold i32; omega) (by omega)), if_pos (Or.inr g2)]
            rfl
          · rw [if_pos (show 0 < iO (sgn m (-1) 2) from plt (a := 0) (b := sgn m (-1) 2) (by unfold i32; omega) (by unfold i32; omega) (by omega)), if_neg (by omega)]
            have t1 := m_share67 (sc := sc) (n := n + 36) (XI := XI) (XA := XA) (XP := XP) (XC := XC) (MI := MI) (ML := ML) (D := D) (k := k) (k' := k') (by omega) (by omega) hM hM' hSl hSm (by omega) (by omega)
            have t2 := m_share9 (sc := sc) (n := n + 36) (XI := XI) (XA := XA) (XP := XP) (XC := XC) (MI := MI) (ML := ML) (D := D) (k := k) (k' := k') (by omega) (by omega) hM hM' hSl hSm (by omega) (by omega) 5000 1 (by omega) (by omega)
            exact t1.trans t2
      · rw [if_pos (w1.mp e), e, if_neg (show ¬ iO 1 = 0 by decide)]
        rfl
end SHN
-- FILE 93
/-! row: the class -/
section CRW
variable {sc : en_S} {n : Nat} {S : ST5}
theorem x_tells {XI : Nat → Int32} {XA : Nat → Nat → Int32} {XP : Nat → Nat → Option Nat} {XC : Value} {MI : Nat → Int32} {MA : Nat → Nat → Int32} {ML : Nat → Nat → Int64} {D : en_H} {k N : Nat} (hk : k < 4) (hN : N ≤ 40) {f : Nat → Int} (hf : ∀ t, t < 40 → -100 ≤ f t ∧ f t ≤ 100) (hc : ∀ t, t < 40 → XA (10 + k) t = iO (f t)) : ∀ (j i : Nat), i + j = N → b_X6_tellsSteps_1 sc n (18 + 2 * k) (iO (N : Nat)) (iO (i : Nat)) (hp XI XA XP XC MI MA ML D) = some (some (.int (iO (if chk f j i = true then 1 else 0))), hp XI XA XP XC MI MA ML D) := by
  intro j
  induction j with
  | zero =>
    intro i hi
    rw [eb_X6_tellsSteps_1, chk, if_pos rfl]
    simp (disch := (first | assumption | (unfold i32; omega) | (unfold i64; omega) | omega)) only [↓reduceIte, ki_0, ki_1, ki_2, ki_3, ki_4, ki_5, ki_6, ki_7, ki_8, ki_9, ki_10, ki_11, ki_12, ki_13, ki_14, ki_15, ki_20, ki_21, ki_30, ki_31, ki_40, ki_41, ki_50, ki_51, ki_60, ki_63, ki_64, ki_65, ki_100, ki_158, ki_160, ki_200, ki_212, ki_1000, ki_2000, ki_2001, ki_5000, ki_10000, ki_10001, ki_100000, ki_200000, ki_1000000, ki_2000000, ki_3000000, iO_neg, iO_add, iO_sub, iO_mul, kn_4, kn_8, kn_10, kn_20, kn_24, kn_40, kn_41, kn_50, kn_60, kn_158, kn_160, kn_200, kn_212, kn_2001, tn_lt, fn_lt, tn_le, fn_le, tn_eq, fn_eq, x_lt, x_le, x_eq, x_ix, x_nat, t_lt, f_lt, t_le, f_le, t_eq, f_eq, eq_self, and_self, true_and, and_true, false_and, and_false, if_true, if_false, Int.toNat_natCast, bI_s, bL_s, bA_s, bA_n, bV_s, mq_s, mq_n, en_le, bl_0, bl_1, u_eq, u_ne, w_eq, w_ne, v_eq, v_ne]
  | succ j ih =>
    intro i hi
    have hci := hc i (by omega)
    obtain ⟨b1, b2⟩ := hf i (by omega)
    rw [eb_X6_tellsSteps_1, chk]
    by_cases g : 0 ≤ f i ∧ f i ≤ 100
    · rw [if_pos g, ← ih (i + 1) (by omega)]
      obtain ⟨g1, g2⟩ := g
      simp (disch := (first | assumption | (unfold i32; omega) | (unfold i64; omega) | omega)) only [↓reduceIte, ki_0, ki_1, ki_2, ki_3, ki_4, ki_5, ki_6, ki_7, ki_8, ki_9, ki_10, ki_11, ki_12, ki_13, ki_14, ki_15, ki_20, ki_21, ki_30, ki_31, ki_40, ki_41, ki_50, ki_51, ki_60, ki_63, ki_64, ki_65, ki_100, ki_158, ki_160, ki_200, ki_212, ki_1000, ki_2000, ki_2001, ki_5000, ki_10000, ki_10001, ki_100000, ki_200000, ki_1000000, ki_2000000, ki_3000000, iO_neg, iO_add, iO_sub, iO_mul, kn_4, kn_8, kn_10, kn_20, kn_24, kn_40, kn_41, kn_50, kn_60, kn_158, kn_160, kn_200, kn_212, kn_2001, tn_lt, fn_lt, tn_le, fn_le, tn_eq, fn_eq, x_lt, x_le, x_eq, x_ix, x_nat, t_lt, f_lt, t_le, f_le, t_eq, f_eq, eq_self, and_self, true_and, and_true, false_and, and_false, if_true, if_false, Int.toNat_natCast, bI_s, bL_s, bA_s, bA_n, bV_s, mq_s, mq_n, en_le, bl_0, bl_1, u_eq, u_ne, w_eq, w_ne, v_eq, v_ne, sh_0 hk, sh_l hk, sh_a hk, hci]
      try rfl
    · rw [if_neg g, if_neg (show ¬ (false = true) from Bool.false_ne_true)]
      have g1 : f i < 0 := by omega
      simp (disch := (first | assumption | (unfold i32; omega) | (unfold i64; omega) | omega)) only [↓reduceIte, ki_0, ki_1, ki_2, ki_3, ki_4, ki_5, ki_6, ki_7, ki_8, ki_9, ki_10, ki_11, ki_12, ki_13, ki_14, ki_15, ki_20, ki_21, ki_30, ki_31, ki_40, ki_41, ki_50, ki_51, ki_60, ki_63, ki_64, ki_65, ki_100, ki_158, ki_160, ki_200, ki_212, ki_1000, ki_2000, ki_2001, ki_5000, ki_10000, ki_10001, ki_100000, ki_200000, ki_1000000, ki_2000000, ki_3000000, iO_neg, iO_add, iO_sub, iO_mul, kn_4, kn_8, kn_10, kn_20, kn_24, kn_40, kn_41, kn_50, kn_60, kn_158, kn_160, kn_200, kn_212, kn_2001, tn_lt, fn_lt, tn_le, fn_le, tn_eq, fn_eq, x_lt, x_le, x_eq, x_ix, x_nat, t_lt, f_lt, t_le, f_le, t_eq, f_eq, eq_self, and_self, true_and, and_true, false_and, and_false, if_true, if_false, Int.toNat_natCast, bI_s, bL_s, bA_s, bA_n, bV_s, mq_s, mq_n, en_le, bl_0, bl_1, u_eq, u_ne, w_eq, w_ne, v_eq, v_ne, sh_0 hk, sh_l hk, sh_a hk, hci]
theorem x_copy_loop {XI : Nat → Int32} {XA : Nat → Nat → Int32} {XP : Nat → Nat → Option Nat} {XC : Value} {MI : Nat → Int32} {MA : Nat → Nat → Int32} {ML : Nat → Nat → Int64} {D : en_H} {k N q : Nat} {e : va_E} (he : en_nt D q = some e) (hk : k < 4) (hN : N ≤ 40) : ∀ (j i : Nat) (g : Nat → Int32), i + j = N → ∃ g', b_X6_copyOf_1 sc n (18 + 2 * k) (iO (N : Nat)) (q + 51) (iO (i : Nat)) (hp XI XA XP XC MI MA ML (D.set q (.inl (0, N, .inl g)))) = some (some (.ref (q + 51)), hp XI XA XP XC MI MA ML (D.set q (.inl (0, N, .inl g')))) ∧ (∀ t, t < i → g' t = g t) ∧ (∀ t, i ≤ t → t < N → g' t = XA (10 + k) t) := by
  intro j
  induction j with
  | zero =>
    intro i g hi
    obtain rfl : i = N := by omega
    refine ⟨g, ?_, fun _ _ => rfl, fun t h1 h2 => by omega⟩
    rw [eb_X6_copyOf_1]
    simp (disch := (first | assumption | (unfold i32; omega) | (unfold i64; omega) | omega)) only [↓reduceIte, ki_0, ki_1, ki_2, ki_3, ki_4, ki_5, ki_6, ki_7, ki_8, ki_9, ki_10, ki_11, ki_12, ki_13, ki_14, ki_15, ki_20, ki_21, ki_30, ki_31, ki_40, ki_41, ki_50, ki_51, ki_60, ki_63, ki_64, ki_65, ki_100, ki_158, ki_160, ki_200, ki_212, ki_1000, ki_2000, ki_2001, ki_5000, ki_10000, ki_10001, ki_100000, ki_200000, ki_1000000, ki_2000000, ki_3000000, iO_neg, iO_add, iO_sub, iO_mul, kn_4, kn_8, kn_10, kn_20, kn_24, kn_40, kn_41, kn_50, kn_60, kn_158, kn_160, kn_200, kn_212, kn_2001, tn_lt, fn_lt, tn_le, fn_le, tn_eq, fn_eq, x_lt, x_le, x_eq, x_ix, x_nat, t_lt, f_lt, t_le, f_le, t_eq, f_eq, eq_self, and_self, true_and, and_true, false_and, and_false, if_true, if_false, Int.toNat_natCast, bI_s, bL_s, bA_s, bA_n, bV_s, mq_s, mq_n, en_le, bl_0, bl_1, u_eq, u_ne, w_eq, w_ne, v_eq, v_ne]
  | succ j ih =>
    intro i g hi
    obtain ⟨g', f1, f2, f3⟩ := ih (i + 1) (upd g i (XA (10 + k) i)) (by omega)
    refine ⟨g', ?_, fun t ht => by rw [f2 t (by omega), u_ne (by omega)], fun t h1 h2 => ?_⟩
    · have hs : ∀ (i v : Int32) (f : en_H → Option en_R), en_sI (hp XI XA XP XC MI MA ML (D.set q (.inl (0, N, .inl g)))) (q + 51) i v f = if en_ix i N then f (hp XI XA XP XC MI MA ML (D.set q (.inl (0, N, .inl (upd g i.toNatClampNeg v))))) else none := by
        intro i v f
        rw [d_sI (nt_set_eq he), List.set_set]
      rw [eb_X6_copyOf_1]
      simp (disch := (first | assumption | (unfold i32; omega) | (unfold i64; omega) | omega)) only [↓reduceIte, ki_0, ki_1, ki_2, ki_3, ki_4, ki_5, ki_6, ki_7, ki_8, ki_9, ki_10, ki_11, ki_12, ki_13, ki_14, ki_15, ki_20, ki_21, ki_30, ki_31, ki_40, ki_41, ki_50, ki_51, ki_60, ki_63, ki_64, ki_65, ki_100, ki_158, ki_160, ki_200, ki_212, ki_1000, ki_2000, ki_2001, ki_5000, ki_10000, ki_10001, ki_100000, ki_200000, ki_1000000, ki_2000000, ki_3000000, iO_neg, iO_add, iO_sub, iO_mul, kn_4, kn_8, kn_10, kn_20, kn_24, kn_40, kn_41, kn_50, kn_60, kn_158, kn_160, kn_200, kn_212, kn_2001, tn_lt, fn_lt, tn_le, fn_le, tn_eq, fn_eq, x_lt, x_le, x_eq, x_ix, x_nat, t_lt, f_lt, t_le, f_le, t_eq, f_eq, eq_self, and_self, true_and, and_true, false_and, and_false, if_true, if_false, Int.toNat_natCast, bI_s, bL_s, bA_s, bA_n, bV_s, mq_s, mq_n, en_le, bl_0, bl_1, u_eq, u_ne, w_eq, w_ne, v_eq, v_ne, sh_0 hk, sh_l hk, sh_a hk, hs]
      exact f1
    · by_cases e : t = i
      · subst e; rw [f2 t (by omega), u_eq rfl]
      · exact f3 t (by omega) h2
set_option maxHeartbeats 3000000 in
theorem cs_row (hS : OK5 S) {sh so N : Int} (h1 : i32 sh) (h2 : i32 so) (h3 : i32 N) : CS S (p_row S sh so N).2 (p_row S sh so N).1 (fun z => f_X11_row sc (n + 40) 1 (iO sh) (iO so) (iO N) z) := by
  obtain ⟨a1, a2⟩ := id h1
  obtain ⟨b1, b2⟩ := id h2
  obtain ⟨c1, c2⟩ := id h3
  have h10 := hS.2.1
  unfold p_row
  by_cases g : 0 ≤ sh ∧ sh ≤ 3 ∧ 0 ≤ so ∧ so ≤ 2 ∧ 1 ≤ N ∧ N ≤ 40
  · rw [if_pos g]
    obtain ⟨g1, g2, g3, g4, g5, g6⟩ := g
    obtain ⟨x, rfl⟩ : ∃ x : Nat, sh = x := ⟨sh.toNat, by omega⟩
    obtain ⟨y, rfl⟩ : ∃ y : Nat, N = y := ⟨N.toNat, by omega⟩
    have hx : x < 4 := by omega
    rw [Int.toNat_natCast, Int.toNat_natCast]
    obtain ⟨s1, s2, s3, s4, -, s6⟩ := hS.2.2.2.2.1 x (by omega)
    by_cases gl : 10 ≤ S.2.1.length
    · rw [if_pos gl]
      apply cs_ref
      intro XI XA XP XC MI MA ML D Γ hV
      have w2 := hV.2.1
      show f_X11_row sc (n + 40) 1 (iO (x : Int)) (iO so) (iO (y : Int)) _ = _
      rw [e_X11_row, if_neg (show ¬ (iO (x : Int) < 0) from nlt (a := (x : Int)) (b := 0) (by unfold i32; omega) (by unfold i32; omega) (by omega)), if_neg (show ¬ (4 ≤ iO (x : Int)) from nle (a := 4) (b := (x : Int)) (by unfold i32; omega) (by unfold i32; omega) (by omega)), if_neg (show ¬ (iO so < 0) from nlt (a := so) (b := 0) (by unfold i32; omega) (by unfold i32; omega) (by omega)), if_neg (show ¬ (2 < iO so) from nlt (a := 2) (b := so) (by unfold i32; omega) (by unfold i32; omega) (by omega)), if_neg (show ¬ (iO (y : Int) < 1) from nlt (a := (y : Int)) (b := 1) (by unfold i32; omega) (by unfold i32; omega) (by omega)), if_pos (show iO (y : Int) ≤ 40 from ple (a := (y : Int)) (b := 40) (by unfold i32; omega) (by unfold i32; omega) (by omega))]
      simp (disch := (first | assumption | (unfold i32; omega) | (unfold i64; omega) | omega)) only [↓reduceIte, ki_0, ki_1, ki_2, ki_3, ki_4, ki_5, ki_6, ki_7, ki_8, ki_9, ki_10, ki_11, ki_12, ki_13, ki_14, ki_15, ki_20, ki_21, ki_30, ki_31, ki_40, ki_41, ki_50, ki_51, ki_60, ki_63, ki_64, ki_65, ki_100, ki_158, ki_160, ki_200, ki_212, ki_1000, ki_2000, ki_2001, ki_5000, ki_10000, ki_10001, ki_100000, ki_200000, ki_1000000, ki_2000000, ki_3000000, iO_neg, iO_add, iO_sub, iO_mul, kn_4, kn_8, kn_10, kn_20, kn_24, kn_40, kn_41, kn_50, kn_60, kn_158, kn_160, kn_200, kn_212, kn_2001, tn_lt, fn_lt, tn_le, fn_le, tn_eq, fn_eq, x_lt, x_le, x_eq, x_ix, x_nat, t_lt, f_lt, t_le, f_le, t_eq, f_eq, eq_self, and_self, true_and, and_true, false_and, and_false, if_true, if_false, Int.toNat_natCast, bI_s, bL_s, bA_s, bA_n, bV_s, mq_s, mq_n, en_le, bl_0, bl_1, u_eq, u_ne, w_eq, w_ne, v_eq, v_ne, ↓hp_cc_1, ↓hp_g_1_0, ↓hp_g_1_1, ↓hp_g_1_2, ↓hp_g_1_3, ↓hp_g_1_4, ↓hp_g_1_5, ↓hp_g_1_6, ↓hp_g_1_7, ↓hp_g_1_8, ↓hp_p_1_8, ↓hp_g_1_9, ↓hp_p_1_9, ↓hp_g_1_10, ↓hp_p_1_10, ↓hp_a_2, ↓hp_n_2, ↓hp_a_3, ↓hp_n_3, ↓hp_a_4, w2, x_refuse]
    rw [if_neg gl]
    by_cases g7 : (S.2.2.1 x).1 = -1
    · rw [if_pos g7]
      apply cs_ref
      intro XI XA XP XC MI MA ML D Γ hV
      have w2 := hV.2.1
      obtain ⟨t1, t2, t3⟩ := hV.2.2.2.2.2.2.1 x (by omega)
      show f_X11_row sc (n + 40) 1 (iO (x : Int)) (iO so) (iO (y : Int)) _ = _
      rw [e_X11_row, if_neg (show ¬ (iO (x : Int) < 0) from nlt (a := (x : Int)) (b := 0) (by unfold i32; omega) (by unfold i32; omega) (by omega)), if_neg (show ¬ (4 ≤ iO (x : Int)) from nle (a := 4) (b := (x : Int)) (by unfold i32; omega) (by unfold i32; omega) (by omega)), if_neg (show ¬ (iO so < 0) from nlt (a := so) (b := 0) (by unfold i32; omega) (by unfold i32; omega) (by omega)), if_neg (show ¬ (2 < iO so) from nlt (a := 2) (b := so) (by unfold i32; omega) (by unfold i32; omega) (by omega)), if_neg (show ¬ (iO (y : Int) < 1) from nlt (a := (y : Int)) (b := 1) (by unfold i32; omega) (by unfold i32; omega) (by omega)), if_pos (show iO (y : Int) ≤ 40 from ple (a := (y : Int)) (b := 40) (by unfold i32; omega) (by unfold i32; omega) (by omega))]
      simp (disch := (first | assumption | (unfold i32; omega) | (unfold i64; omega) | omega)) only [↓reduceIte, ki_0, ki_1, ki_2, ki_3, ki_4, ki_5, ki_6, ki_7, ki_8, ki_9, ki_10, ki_11, ki_12, ki_13, ki_14, ki_15, ki_20, ki_21, ki_30, ki_31, ki_40, ki_41, ki_50, ki_51, ki_60, ki_63, ki_64, ki_65, ki_100, ki_158, ki_160, ki_200, ki_212, ki_1000, ki_2000, ki_2001, ki_5000, ki_10000, ki_10001, ki_100000, ki_200000, ki_1000000, ki_2000000, ki_3000000, iO_neg, iO_add, iO_sub, iO_mul, kn_4, kn_8, kn_10, kn_20, kn_24, kn_40, kn_41, kn_50, kn_60, kn_158, kn_160, kn_200, kn_212, kn_2001, tn_lt, fn_lt, tn_le, fn_le, tn_eq, fn_eq, x_lt, x_le, x_eq, x_ix, x_nat, t_lt, f_lt, t_le, f_le, t_eq, f_eq, eq_self, and_self, true_and, and_true, false_and, and_false, if_true, if_false, Int.toNat_natCast, bI_s, bL_s, bA_s, bA_n, bV_s, mq_s, mq_n, en_le, bl_0, bl_1, u_eq, u_ne, w_eq, w_ne, v_eq, v_ne, ↓hp_cc_1, ↓hp_g_1_0, ↓hp_g_1_1, ↓hp_g_1_2, ↓hp_g_1_3, ↓hp_g_1_4, ↓hp_g_1_5, ↓hp_g_1_6, ↓hp_g_1_7, ↓hp_g_1_8, ↓hp_p_1_8, ↓hp_g_1_9, ↓hp_p_1_9, ↓hp_g_1_10, ↓hp_p_1_10, ↓hp_a_2, ↓hp_n_2, ↓hp_a_3, ↓hp_n_3, ↓hp_a_4, w2, sh_q hx, sh_cc hx, sh_1 hx, e_X6_isMissing, t1, x_refuse]
    rw [if_neg g7]
    by_cases g8 : (S.2.2.1 x).1 ≠ so
    · rw [if_pos g8]
      apply cs_ref
      intro XI XA XP XC MI MA ML D Γ hV
      have w2 := hV.2.1
      obtain ⟨t1, t2, t3⟩ := hV.2.2.2.2.2.2.1 x (by omega)
      show f_X11_row sc (n + 40) 1 (iO (x : Int)) (iO so) (iO (y : Int)) _ = _
      rw [e_X11_row, if_neg (show ¬ (iO (x : Int) < 0) from nlt (a := (x : Int)) (b := 0) (by unfold i32; omega) (by unfold i32; omega) (by omega)), if_neg (show ¬ (4 ≤ iO (x : Int)) from nle (a := 4) (b := (x : Int)) (by unfold i32; omega) (by unfold i32; omega) (by omega)), if_neg (show ¬ (iO so < 0) from nlt (a := so) (b := 0) (by unfold i32; omega) (by unfold i32; omega) (by omega)), if_neg (show ¬ (2 < iO so) from nlt (a := 2) (b := so) (by unfold i32; omega) (by unfold i32; omega) (by omega)), if_neg (show ¬ (iO (y : Int) < 1) from nlt (a := (y : Int)) (b := 1) (by unfold i32; omega) (by unfold i32; omega) (by omega)), if_pos (show iO (y : Int) ≤ 40 from ple (a := (y : Int)) (b := 40) (by unfold i32; omega) (by unfold i32; omega) (by omega))]
      simp (disch := (first | assumption | (unfold i32; omega) | (unfold i64; omega) | omega)) only [↓reduceIte, ki_0, ki_1, ki_2, ki_3, ki_4, ki_5, ki_6, ki_7, ki_8, ki_9, ki_10, ki_11, ki_12, ki_13, ki_14, ki_15, ki_20, ki_21, ki_30, ki_31, ki_40, ki_41, ki_50, ki_51, ki_60, ki_63, ki_64, ki_65, ki_100, ki_158, ki_160, ki_200, ki_212, ki_1000, ki_2000, ki_2001, ki_5000, ki_10000, ki_10001, ki_100000, ki_200000, ki_1000000, ki_2000000, ki_3000000, iO_neg, iO_add, iO_sub, iO_mul, kn_4, kn_8, kn_10, kn_20, kn_24, kn_40, kn_41, kn_50, kn_60, kn_158, kn_160, kn_200, kn_212, kn_2001, tn_lt, fn_lt, tn_le, fn_le, tn_eq, fn_eq, x_lt, x_le, x_eq, x_ix, x_nat, t_lt, f_lt, t_le, f_le, t_eq, f_eq, eq_self, and_self, true_and, and_true, false_and, and_false, if_true, if_false, Int.toNat_natCast, bI_s, bL_s, bA_s, bA_n, bV_s, mq_s, mq_n, en_le, bl_0, bl_1, u_eq, u_ne, w_eq, w_ne, v_eq, v_ne, ↓hp_cc_1, ↓hp_g_1_0, ↓hp_g_1_1, ↓hp_g_1_2, ↓hp_g_1_3, ↓hp_g_1_4, ↓hp_g_1_5, ↓hp_g_1_6, ↓hp_g_1_7, ↓hp_g_1_8, ↓hp_p_1_8, ↓hp_g_1_9, ↓hp_p_1_9, ↓hp_g_1_10, ↓hp_p_1_10, ↓hp_a_2, ↓hp_n_2, ↓hp_a_3, ↓hp_n_3, ↓hp_a_4, w2, sh_q hx, sh_cc hx, sh_1 hx, e_X6_isMissing, t1, x_refuse]
    rw [if_neg g8]
    have g8 : (S.2.2.1 x).1 = so := by omega
    by_cases g9 : (S.2.2.1 x).2.1 < (y : Int)
    · rw [if_pos g9]
      apply cs_ref
      intro XI XA XP XC MI MA ML D Γ hV
      have w2 := hV.2.1
      obtain ⟨t1, t2, t3⟩ := hV.2.2.2.2.2.2.1 x (by omega)
      show f_X11_row sc (n + 40) 1 (iO (x : Int)) (iO so) (iO (y : Int)) _ = _
      rw [e_X11_row, if_neg (show ¬ (iO (x : Int) < 0) from nlt (a := (x : Int)) (b := 0) (by unfold i32; omega) (by unfold i32; omega) (by omega)), if_neg (show ¬ (4 ≤ iO (x : Int)) from nle (a := 4) (b := (x : Int)) (by unfold i32; omega) (by unfold i32; omega) (by omega)), if_neg (show ¬ (iO so < 0) from nlt (a := so) (b := 0) (by unfold i32; omega) (by unfold i32; omega) (by omega)), if_neg (show ¬ (2 < iO so) from nlt (a := 2) (b := so) (by unfold i32; omega) (by unfold i32; omega) (by omega)), if_neg (show ¬ (iO (y : Int) < 1) from nlt (a := (y : Int)) (b := 1) (by unfold i32; omega) (by unfold i32; omega) (by omega)), if_pos (show iO (y : Int) ≤ 40 from ple (a := (y : Int)) (b := 40) (by unfold i32; omega) (by unfold i32; omega) (by omega))]
      simp (disch := (first | assumption | (unfold i32; omega) | (unfold i64; omega) | omega)) only [↓reduceIte, ki_0, ki_1, ki_2, ki_3, ki_4, ki_5, ki_6, ki_7, ki_8, ki_9, ki_10, ki_11, ki_12, ki_13, ki_14, ki_15, ki_20, ki_21, ki_30, ki_31, ki_40, ki_41, ki_50, ki_51, ki_60, ki_63, ki_64, ki_65, ki_100, ki_158, ki_160, ki_200, ki_212, ki_1000, ki_2000, ki_2001, ki_5000, ki_10000, ki_10001, ki_100000, ki_200000, ki_1000000, ki_2000000, ki_3000000, iO_neg, iO_add, iO_sub, iO_mul, kn_4, kn_8, kn_10, kn_20, kn_24, kn_40, kn_41, kn_50, kn_60, kn_158, kn_160, kn_200, kn_212, kn_2001, tn_lt, fn_lt, tn_le, fn_le, tn_eq, fn_eq, x_lt, x_le, x_eq, x_ix, x_nat, t_lt, f_lt, t_le, f_le, t_eq, f_eq, eq_self, and_self, true_and, and_true, false_and, and_false, if_true, if_false, Int.toNat_natCast, bI_s, bL_s, bA_s, bA_n, bV_s, mq_s, mq_n, en_le, bl_0, bl_1, u_eq, u_ne, w_eq, w_ne, v_eq, v_ne, ↓hp_cc_1, ↓hp_g_1_0, ↓hp_g_1_1, ↓hp_g_1_2, ↓hp_g_1_3, ↓hp_g_1_4, ↓hp_g_1_5, ↓hp_g_1_6, ↓hp_g_1_7, ↓hp_g_1_8, ↓hp_p_1_8, ↓hp_g_1_9, ↓hp_p_1_9, ↓hp_g_1_10, ↓hp_p_1_10, ↓hp_a_2, ↓hp_n_2, ↓hp_a_3, ↓hp_n_3, ↓hp_a_4, w2, sh_q hx, sh_cc hx, sh_1 hx, sh_2 hx, e_X6_isMissing, t1, t2, x_refuse]
    rw [if_neg g9]
    have tell : ∀ (XI : Nat → Int32) (XA : Nat → Nat → Int32) (XP : Nat → Nat → Option Nat) (XC : Value) (MI : Nat → Int32) (MA : Nat → Nat → Int32) (ML : Nat → Nat → Int64) (D : en_H) (Γ : Nat → Option GD), CV S Γ XI XA XP D → f_X6_tellsSteps sc (n + 39) (18 + 2 * x) (iO (y : Int)) (hp XI XA XP XC MI MA ML D) = some (some (.int (iO (if chk (S.2.2.1 x).2.2 y 0 = true then 1 else 0))), hp XI XA XP XC MI MA ML D) := by
      intro XI XA XP XC MI MA ML D Γ hV
      obtain ⟨t1, t2, t3⟩ := hV.2.2.2.2.2.2.1 x (by omega)
      rw [e_X6_tellsSteps]
      exact x_tells hx (by omega) s6 t3 y 0 (by omega)
    by_cases g11 : chk (S.2.2.1 x).2.2 y 0 = true
    · rw [if_pos g11]
      intro XI XA XP XC MI MA ML D Γ hV
      obtain ⟨t1, t2, t3⟩ := hV.2.2.2.2.2.2.1 x (by omega)
      have w2 := hV.2.1
      have hH := hV.2.2.2.2.2.2.2.2
      have ht := tell XI XA XP XC MI MA ML D Γ hV
      rw [if_pos g11] at ht
      have hΓ : Γ D.length = none := by
        cases hc : Γ D.length with
        | none => rfl
        | some y =>
          obtain ⟨-, fs, y2⟩ := rc_cls (hH D.length y hc).2.2.2
          have := nt_lt y2
          omega
      -- the copy
      obtain ⟨g', f1, f2, f3⟩ := x_copy_loop (sc := sc) (n := n + 38) (XI := XI) (XA := XA) (XP := XP) (XC := XC) (MI := MI) (MA := MA) (ML := ML) (k := x) (N := y) (a2n1 D (.inr (8, en_df 8)) (.inl (0, y, .inl (fun _ => 0)))) hx (by omega) y 0 (fun _ => 0) (by omega)
      rw [a2s1, a2s1] at f1
      have hfa : FA D (D ++ [.inr (8, [.int (iO (S.2.1.length : Nat)), .int (iO 0), .ref (D.length + 52)]), .inl (0, y, .inl g')]) := FA.app D _
      have hnew : HV (va_up Γ D.length (some (0, S.2.1.length, 0, -1, y, (S.2.2.1 x).2.2, (0, 0, 0, 0)))) (D ++ [.inr (8, [.int (iO (S.2.1.length : Nat)), .int (iO 0), .ref (D.length + 52)]), .inl (0, y, .inl g')]) := by
        refine HV_new hH hfa hΓ (by show S.2.1.length ≤ 9; omega) (by show y ≤ 10001; omega) (fun i hi => chk_ok g11 i (by omega) (by have : i < y := hi; omega)) ?_
        refine Or.inl ⟨rfl, g', a2n0 D _ _, a2n1 D _ _, fun i hi => ?_, by show y ≤ 40; omega⟩
        have hi : i < y := hi
        rw [f3 i (by omega) hi]
        exact t3 i (by omega)
      obtain ⟨XI', XP', D', Γ', k1, k2, k3, k4⟩ := x_keep (sc := sc) (n := n + 1) (XC := XC) (MI := MI) (MA := MA) (ML := ML) hV hS (by omega) hfa hnew (fun x y h => by rw [w_ne (fun e => by rw [e, hΓ] at h; cases h)]; exact h) hΓ (w_eq rfl) rfl (fun h => by rcases h with h | h <;> exact absurd (show (0 : Int) = _ from h) (by decide))
      refine ⟨XI', XA, XP', XC, D', Γ', ?_, k2, gr_app k3 k4 (by simp) ?_⟩
      · show f_X11_row sc (n + 40) 1 (iO (x : Int)) (iO so) (iO (y : Int)) _ = _
        have hcopy : f_X6_copyOf sc (n + 39) (18 + 2 * x) (iO (y : Int)) (hp XI XA XP XC MI MA ML (D ++ [.inr (8, en_df 8)])) = some (some (.ref (D.length + 52)), hp XI XA XP XC MI MA ML (D ++ [.inr (8, en_df 8), .inl (0, y, .inl g')])) := by
          have hmx := e_maxI (sc := sc) (n := n + 37) (a := 0) (b := (y : Int)) (z := hp XI XA XP XC MI MA ML (D ++ [.inr (8, en_df 8)])) (by unfold i32; omega) (by unfold i32; omega)
          rw [show max (0 : Int) (y : Int) = (y : Int) by omega] at hmx
          have hmx : f_J9_max_7cf53 sc (n + 38) 0 (iO (y : Int)) (hp XI XA XP XC MI MA ML (D ++ [.inr (8, en_df 8)])) = _ := hmx
          rw [e_X6_copyOf, hmx, bI_s, if_pos ((iO_ix (by unfold i32; omega)).mpr (by omega)), hp_nw, iO_nat (by omega) (by unfold i32; omega), Int.toNat_natCast, show (D ++ [.inr (8, en_df 8)]) ++ [.inl (0, y, .inl (fun _ => 0))] = (D ++ [.inr (8, en_df 8), .inl (0, y, .inl (fun _ => 0))] : en_H) by simp, show (D ++ [(.inr (8, en_df 8) : va_E)]).length + 51 = D.length + 52 by simp]
          exact f1
        have hinit : f_X9_init sc (n + 39) (D.length + 51) (iO (S.2.1.length : Nat)) (D.length + 52) (hp XI XA XP XC MI MA ML (D ++ [.inr (8, en_df 8), .inl (0, y, .inl g')])) = some (none, hp XI XA XP XC MI MA ML (D ++ [.inr (8, [.int (iO (S.2.1.length : Nat)), .int (iO 0), .ref (D.length + 52)]), .inl (0, y, .inl g')])) := by
          rw [e_X9_init, d_vt (a2n0 D _ _)]
          show en_bV (f_X5_init sc (n + 38) (D.length + 51) (iO (S.2.1.length : Nat)) (hp XI XA XP XC MI MA ML (D ++ [.inr (8, en_df 8), .inl (0, y, .inl g')]))) _ = _
          rw [e_X5_init, d_pf (a2n0 D _ _) (x := 0) rfl rfl, a2s0, bV_s, d_pf (a2n0 D _ _) (x := 0) rfl rfl, a2s0]
          rfl
        have hcc : ∀ (D1 : en_H) (fs : List Value), en_nt D1 D.length = some (.inr (8, fs)) → ∀ (g : Nat → Option en_R), en_cc (hp XI XA XP XC MI MA ML D1) (D.length + 51) g = g 8 := fun D1 fs h g => d_cc h g
        have hcc2 := hcc _ _ (a2n0 D (.inr (8, en_df 8)) (.inl (0, y, .inl g')))
        rw [e_X11_row, if_neg (show ¬ (iO (x : Int) < 0) from nlt (a := (x : Int)) (b := 0) (by unfold i32; omega) (by unfold i32; omega) (by omega)), if_neg (show ¬ (4 ≤ iO (x : Int)) from nle (a := 4) (b := (x : Int)) (by unfold i32; omega) (by unfold i32; omega) (by omega)), if_neg (show ¬ (iO so < 0) from nlt (a := so) (b := 0) (by unfold i32; omega) (by unfold i32; omega) (by omega)), if_neg (show ¬ (2 < iO so) from nlt (a := 2) (b := so) (by unfold i32; omega) (by unfold i32; omega) (by omega)), if_neg (show ¬ (iO (y : Int) < 1) from nlt (a := (y : Int)) (b := 1) (by unfold i32; omega) (by unfold i32; omega) (by omega)), if_pos (show iO (y : Int) ≤ 40 from ple (a := (y : Int)) (b := 40) (by unfold i32; omega) (by unfold i32; omega) (by omega))]
        clear k2 k3 k4 hnew hfa hΓ hV hH f1 f2 f3 t3 s6 tell hcc g11
        simp (disch := (first | assumption | (unfold i32; omega) | (unfold i64; omega) | omega)) only [↓reduceIte, ki_0, ki_1, ki_2, ki_3, ki_4, ki_5, ki_6, ki_7, ki_8, ki_9, ki_10, ki_11, ki_12, ki_13, ki_14, ki_15, ki_20, ki_21, ki_30, ki_31, ki_40, ki_41, ki_50, ki_51, ki_60, ki_63, ki_64, ki_65, ki_100, ki_158, ki_160, ki_200, ki_212, ki_1000, ki_2000, ki_2001, ki_5000, ki_10000, ki_10001, ki_100000, ki_200000, ki_1000000, ki_2000000, ki_3000000, iO_neg, iO_add, iO_sub, iO_mul, kn_4, kn_8, kn_10, kn_20, kn_24, kn_40, kn_41, kn_50, kn_60, kn_158, kn_160, kn_200, kn_212, kn_2001, tn_lt, fn_lt, tn_le, fn_le, tn_eq, fn_eq, x_lt, x_le, x_eq, x_ix, x_nat, t_lt, f_lt, t_le, f_le, t_eq, f_eq, eq_self, and_self, true_and, and_true, false_and, and_false, if_true, if_false, Int.toNat_natCast, bI_s, bL_s, bA_s, bA_n, bV_s, mq_s, mq_n, en_le, bl_0, bl_1, u_eq, u_ne, w_eq, w_ne, v_eq, v_ne, ↓hp_cc_1, ↓hp_g_1_0, ↓hp_g_1_1, ↓hp_g_1_2, ↓hp_g_1_3, ↓hp_g_1_4, ↓hp_g_1_5, ↓hp_g_1_6, ↓hp_g_1_7, ↓hp_g_1_8, ↓hp_p_1_8, ↓hp_g_1_9, ↓hp_p_1_9, ↓hp_g_1_10, ↓hp_p_1_10, ↓hp_a_2, ↓hp_n_2, ↓hp_a_3, ↓hp_n_3, ↓hp_a_4, w2, sh_q hx, sh_cc hx, sh_1 hx, sh_2 hx, e_X6_isMissing, t1, t2, ht, hp_nw, hcopy, hcc2, hinit, k1]
      · have : en_sz [.inr (8, [.int (iO (S.2.1.length : Nat)), .int (iO 0), .ref (D.length + 52)]), .inl (0, y, .inl g')] = 3 + y := by simp [en_sz, en_s0]
        rw [this]; omega
    · rw [if_neg g11]
      apply cs_ref
      intro XI XA XP XC MI MA ML D Γ hV
      have w2 := hV.2.1
      obtain ⟨t1, t2, t3⟩ := hV.2.2.2.2.2.2.1 x (by omega)
      have ht := tell XI XA XP XC MI MA ML D Γ hV
      rw [if_neg g11] at ht
      show f_X11_row sc (n + 40) 1 (iO (x : Int)) (iO so) (iO (y : Int)) _ = _
      rw [e_X11_row, if_neg (show ¬ (iO (x : Int) < 0) from nlt (a := (x : Int)) (b := 0) (by unfold i32; omega) (by unfold i32; omega) (by omega)), if_neg (show ¬ (4 ≤ iO (x : Int)) from nle (a := 4) (b := (x : Int)) (by unfold i32; omega) (by unfold i32; omega) (by omega)), if_neg (show ¬ (iO so < 0) from nlt (a := so) (b := 0) (by unfold i32; omega) (by unfold i32; omega) (by omega)), if_neg (show ¬ (2 < iO so) from nlt (a := 2) (b := so) (by unfold i32; omega) (by unfold i32; omega) (by omega)), if_neg (show ¬ (iO (y : Int) < 1) from nlt (a := (y : Int)) (b := 1) (by unfold i32; omega) (by unfold i32; omega) (by omega)), if_pos (show iO (y : Int) ≤ 40 from ple (a := (y : Int)) (b := 40) (by unfold i32; omega) (by unfold i32; omega) (by omega))]
      clear tell s6 t3
      simp (disch := (first | assumption | (unfold i32; omega) | (unfold i64; omega) | omega)) only [↓reduceIte, ki_0, ki_1, ki_2, ki_3, ki_4, ki_5, ki_6, ki_7, ki_8, ki_9, ki_10, ki_11, ki_12, ki_13, ki_14, ki_15, ki_20, ki_21, ki_30, ki_31, ki_40, ki_41, ki_50, ki_51, ki_60, ki_63, ki_64, ki_65, ki_100, ki_158, ki_160, ki_200, ki_212, ki_1000, ki_2000, ki_2001, ki_5000, ki_10000, ki_10001, ki_100000, ki_200000, ki_1000000, ki_2000000, ki_3000000, iO_neg, iO_add, iO_sub, iO_mul, kn_4, kn_8, kn_10, kn_20, kn_24, kn_40, kn_41, kn_50, kn_60, kn_158, kn_160, kn_200, kn_212, kn_2001, tn_lt, fn_lt, tn_le, fn_le, tn_eq, fn_eq, x_lt, x_le, x_eq, x_ix, x_nat, t_lt, f_lt, t_le, f_le, t_eq, f_eq, eq_self, and_self, true_and, and_true, false_and, and_false, if_true, if_false, Int.toNat_natCast, bI_s, bL_s, bA_s, bA_n, bV_s, mq_s, mq_n, en_le, bl_0, bl_1, u_eq, u_ne, w_eq, w_ne, v_eq, v_ne, ↓hp_cc_1, ↓hp_g_1_0, ↓hp_g_1_1, ↓hp_g_1_2, ↓hp_g_1_3, ↓hp_g_1_4, ↓hp_g_1_5, ↓hp_g_1_6, ↓hp_g_1_7, ↓hp_g_1_8, ↓hp_p_1_8, ↓hp_g_1_9, ↓hp_p_1_9, ↓hp_g_1_10, ↓hp_p_1_10, ↓hp_a_2, ↓hp_n_2, ↓hp_a_3, ↓hp_n_3, ↓hp_a_4, w2, sh_q hx, sh_cc hx, sh_1 hx, sh_2 hx, e_X6_isMissing, t1, t2, ht, x_refuse]
  · rw [if_neg g]
    apply cs_ref
    intro XI XA XP XC MI MA ML D Γ hV
    show f_X11_row sc (n + 40) 1 (iO sh) (iO so) (iO N) _ = _
    rw [e_X11_row]
    by_cases t1 : sh < 0
    · clear g; rw [if_pos (show iO sh < 0 from plt (a := sh) (b := 0) (by unfold i32; omega) (by unfold i32; omega) (by omega)), hp_cc_1, if_pos rfl, x_refuse]; rfl
    rw [if_neg (show ¬ (iO sh < 0) from nlt (a := sh) (b := 0) (by unfold i32; omega) (by unfold i32; omega) (by omega))]
    by_cases t2 : 3 < sh
    · clear g; rw [if_pos (show 4 ≤ iO sh from ple (a := 4) (b := sh) (by unfold i32; omega) (by unfold i32; omega) (by omega)), hp_cc_1, if_pos rfl, x_refuse]; rfl
    rw [if_neg (show ¬ (4 ≤ iO sh) from nle (a := 4) (b := sh) (by unfold i32; omega) (by unfold i32; omega) (by omega))]
    by_cases t3 : so < 0
    · clear g; rw [if_pos (show iO so < 0 from plt (a := so) (b := 0) (by unfold i32; omega) (by unfold i32; omega) (by omega)), hp_cc_1, if_pos rfl, x_refuse]; rfl
    rw [if_neg (show ¬ (iO so < 0) from nlt (a := so) (b := 0) (by unfold i32; omega) (by unfold i32; omega) (by omega))]
    by_cases t4 : 2 < so
    · clear g; rw [if_pos (show 2 < iO so from plt (a := 2) (b := so) (by unfold i32; omega) (by unfold i32; omega) (by omega)), hp_cc_1, if_pos rfl, x_refuse]; rfl
    rw [if_neg (show ¬ (2 < iO so) from nlt (a := 2) (b := so) (by unfold i32; omega) (by unfold i32; omega) (by omega))]
    by_cases t5 : N < 1
    · clear g; rw [if_pos (show iO N < 1 from plt (a := N) (b := 1) (by unfold i32; omega) (by unfold i32; omega) (by omega)), hp_cc_1, if_pos rfl, x_refuse]; rfl
    rw [if_neg (show ¬ (iO N < 1) from nlt (a := N) (b := 1) (by unfold i32; omega) (by unfold i32; omega) (by omega))]
    have t6 : 40 < N := by omega
    clear g
    rw [if_neg (show ¬ (iO N ≤ 40) from nle (a := N) (b := 40) (by unfold i32; omega) (by unfold i32; omega) (by omega)), hp_cc_1, if_pos rfl, x_refuse]; rfl
end CRW
