/-! gaps, gap, follows: both sides -/
noncomputable def ptq (S : ST5) (r n : Int) : Option SL4 := match rowq S r with
  | none => none
  | some q => if q.1 = 4 ∧ 1 ≤ n ∧ n ≤ 60 then (match S.1[q.2.1.toNat]? with
    | none => none
    | some l => if l.2.1 ≠ 0 ∨ n ≤ l.2.2.1 / (Int.gcd l.1 l.2.2.1 : Nat) then some l else none) else none
noncomputable def p_gaps (S : ST5) (r n : Int) : Int := match ptq S r n with
  | none => -1
  | some l => ((gsts l n.toNat).1 : Int)
noncomputable def p_gap (S : ST5) (r n i w : Int) : Int := match ptq S r n with
  | none => -1000000
  | some l => if 0 ≤ w ∧ w ≤ 2 ∧ 0 ≤ i ∧ i < ((gsts l n.toNat).1 : Int) then (if w = 0 then (gsts l n.toNat).2.1 i.toNat else if w = 1 then (gsts l n.toNat).2.2.1 i.toNat else (gsts l n.toNat).2.2.2 i.toNat) else -1000000
noncomputable def p_follows (S : ST5) (r n i : Int) : Int := match ptq S r n with
  | none => -1
  | some l => if 0 ≤ i ∧ i < n then (nxt (ords l n.toNat) n.toNat i.toNat : Int) else -1
theorem ptq_some {S : ST5} {r n : Int} {l : SL4} (h : ptq S r n = some l) : ∃ q, rowq S r = some q ∧ q.1 = 4 ∧ 1 ≤ n ∧ n ≤ 60 ∧ S.1[q.2.1.toNat]? = some l ∧ (l.2.1 ≠ 0 ∨ n ≤ l.2.2.1 / (Int.gcd l.1 l.2.2.1 : Nat)) := by
  unfold ptq at h
  cases hq : rowq S r with
  | none => rw [hq] at h; cases h
  | some q =>
    rw [hq] at h
    dsimp only at h
    split at h
    · rename_i g
      cases hl : S.1[q.2.1.toNat]? with
      | none => rw [hl] at h; cases h
      | some l' =>
        rw [hl] at h
        dsimp only at h
        split at h
        · rename_i g2
          cases h
          exact ⟨q, rfl, g.1, g.2.1, g.2.2, hl, g2⟩
        · cases h
    · cases h
section PTS
variable {sc : en_S} {n : Nat} {S : ST5}
theorem m_arePoints {XI : Nat → Int32} {XA : Nat → Nat → Int32} {XP : Nat → Nat → Option Nat} {XC : Value} {MI : Nat → Int32} {MA : Nat → Nat → Int32} {ML : Nat → Nat → Int64} {D : en_H} (hV : MV S MI MA) (hS : OK5 S) {r m : Int} (hr : i32 r) (hm : i32 m) : f_X12_arePoints sc (n + 4) 26 (iO r) (iO m) (hp XI XA XP XC MI MA ML D) = some (some (.int (iO (if (ptq S r m).isSome = true then 1 else 0))), hp XI XA XP XC MI MA ML D) := by
  obtain ⟨m1, m2⟩ := id hm
  have h10 := hS.2.1
  have h8 := hS.1
  cases hq : rowq S r with
  | none =>
    have := rowq_none hq
    have hpt : ptq S r m = none := by unfold ptq; rw [hq]
    rw [hpt, Option.isSome_none, if_neg Bool.false_ne_true, e_X12_arePoints, hp_cc_26, if_pos rfl, e_misRow (n := n + 1) hV hS hr, if_neg (by omega)]
    rfl
  | some q =>
    obtain ⟨k, rfl, hk, hq2⟩ := rowq_some hq
    obtain ⟨c1, c2, c3, c4⟩ := hV.2.2.2.2.2.1 k q hq2
    have hR := hS.2.2.2.1 q (List.mem_of_getElem? hq2)
    have hrow := e_misRow (sc := sc) (n := n + 1) (XI := XI) (XA := XA) (XP := XP) (XC := XC) (ML := ML) (D0 := D) hV hS hr
    rw [if_pos (by omega)] at hrow
    have hq0 := hR.1
    have hq4 := hR.2.1
    by_cases g1 : q.1 = 4
    · have hs0 : 0 ≤ q.2.1 := (hR.2.2.2.2.2.2.1 g1).2
      have hs1 : q.2.1 < S.1.length := hR.2.2.2.1
      by_cases g2 : 1 ≤ m ∧ m ≤ 60
      · obtain ⟨l, hl⟩ : ∃ l, S.1[q.2.1.toNat]? = some l := ⟨_, List.getElem?_eq_getElem (by omega)⟩
        have hpt : ptq S (k : Int) m = if l.2.1 ≠ 0 ∨ m ≤ l.2.2.1 / (Int.gcd l.1 l.2.2.1 : Nat) then some l else none := by
          unfold ptq
          rw [hq]
          dsimp only
          rw [if_pos (show q.1 = 4 ∧ 1 ≤ m ∧ m ≤ 60 from ⟨g1, g2.1, g2.2⟩), hl]
        obtain ⟨m0, mb, mc, md⟩ := hV.2.2.2.2.1 _ l hl
        have hSL := hS.2.2.1 l (List.mem_of_getElem? hl)
        obtain ⟨a1, a2, b1, b2, e1, e2, d1, d2, -⟩ := id hSL
        obtain ⟨s, hs⟩ : ∃ s : Nat, q.2.1 = s := ⟨q.2.1.toNat, by omega⟩
        have hss : q.2.1.toNat = s := by omega
        rw [hs] at c3 hs1 hs0
        rw [hss] at m0 mb mc md
        obtain ⟨g3, g4⟩ := g2
        have hcm := m_common (sc := sc) (n := n + 2) (a := l.1) (b := l.2.2.1) (z := hp XI XA XP XC MI MA ML D) (by omega) (by omega) (by omega) (by omega)
        have hg0 : 0 < Int.gcd l.1 l.2.2.1 := Int.gcd_pos_of_ne_zero_right _ (by omega)
        have hg1 : Int.gcd l.1 l.2.2.1 ≤ l.2.2.1.natAbs := Nat.gcd_le_right _ (by omega)
        have hdv := lO_dvd (u := l.2.2.1) (g := Int.gcd l.1 l.2.2.1) (by omega) (by omega) hg0 (by omega) (Int.gcd_dvd_right _ _)
        have hrg := ed_rng (a := l.2.2.1) (b := ((Int.gcd l.1 l.2.2.1 : Nat) : Int)) (k := 100) (by omega) (by omega) (by omega) (by omega)
        generalize Int.gcd l.1 l.2.2.1 = G at *
        generalize l.2.2.1 / ((G : Nat) : Int) = V at *
        by_cases g5 : l.2.1 = 0
        · by_cases g6 : m ≤ V
          · rw [if_pos (Or.inr g6)] at hpt
            rw [hpt, Option.isSome_some, if_pos rfl, e_X12_arePoints]
            clear hV c4 hR hpt
            simp (disch := (first | assumption | (unfold i32; omega) | (unfold i64; omega) | omega)) only [↓reduceIte, ki_0, ki_1, ki_2, ki_3, ki_4, ki_5, ki_6, ki_7, ki_8, ki_9, ki_10, ki_11, ki_12, ki_13, ki_14, ki_15, ki_20, ki_21, ki_30, ki_31, ki_40, ki_41, ki_50, ki_51, ki_60, ki_63, ki_64, ki_65, ki_100, ki_158, ki_160, ki_200, ki_212, ki_1000, ki_2000, ki_2001, ki_5000, ki_10000, ki_10001, ki_100000, ki_200000, ki_1000000, ki_2000000, ki_3000000, iO_neg, iO_add, iO_sub, iO_mul, kn_4, kn_8, kn_10, kn_20, kn_24, kn_40, kn_41, kn_50, kn_60, kn_158, kn_160, kn_200, kn_212, kn_2001, tn_lt, fn_lt, tn_le, fn_le, tn_eq, fn_eq, x_lt, x_le, x_eq, x_ix, x_nat, t_lt, f_lt, t_le, f_le, t_eq, f_eq, eq_self, and_self, true_and, and_true, false_and, and_false, if_true, if_false, Int.toNat_natCast, bI_s, bL_s, bA_s, bA_n, bV_s, mq_s, mq_n, en_le, bl_0, bl_1, u_eq, u_ne, w_eq, w_ne, v_eq, v_ne, ↓hp_cc_26, ↓hp_g_26_0, ↓hp_p_26_0, ↓hp_g_26_1, ↓hp_p_26_1, ↓hp_g_26_2, ↓hp_p_26_2, ↓hp_g_26_3, ↓hp_g_26_4, ↓hp_g_26_5, ↓hp_g_26_6, ↓hp_g_26_7, ↓hp_g_26_8, ↓hp_g_26_9, ↓hp_g_26_10, ↓hp_g_26_11, ↓hp_g_26_12, ↓hp_g_26_13, ↓hp_g_26_14, ↓hp_g_26_15, ↓hp_p_26_15, ↓hp_g_26_16, ↓hp_g_26_17, ↓hp_g_26_18, ↓hp_p_26_18, ↓hp_g_26_19, ↓hp_p_26_19, ↓hp_g_26_20, ↓hp_g_26_21, ↓hp_p_26_21, ↓hp_g_26_22, ↓hp_g_26_23, ↓hp_g_26_24, ↓hp_g_26_25, ↓hp_g_26_26, ↓hp_g_26_27, ↓hp_g_26_28, ↓hp_g_26_29, ↓hp_g_26_30, ↓hp_p_26_30, ↓hp_g_26_31, ↓hp_g_26_32, ↓hp_p_26_32, ↓hp_a_27, ↓hp_s_27, ↓hp_l_27, ↓hp_a_28, ↓hp_s_28, ↓hp_l_28, ↓hp_a_29, ↓hp_s_29, ↓hp_l_29, ↓hp_a_30, ↓hp_s_30, ↓hp_l_30, ↓hp_a_31, ↓hp_s_31, ↓hp_l_31, ↓hp_a_32, ↓hp_s_32, ↓hp_l_32, ↓hp_a_33, ↓hp_s_33, ↓hp_l_33, ↓hp_a_34, ↓hp_s_34, ↓hp_l_34, ↓hp_a_35, ↓hp_s_35, ↓hp_l_35, ↓hp_a_36, ↓hp_s_36, ↓hp_l_36, ↓hp_a_37, ↓hp_s_37, ↓hp_l_37, ↓hp_a_38, ↓hp_s_38, ↓hp_l_38, ↓hp_a_39, ↓hp_s_39, ↓hp_a_40, ↓hp_s_40, ↓hp_a_41, ↓hp_s_41, ↓hp_l_41, ↓hp_a_42, ↓hp_s_42, ↓hp_l_42, ↓hp_a_43, ↓hp_s_43, ↓hp_l_43, ↓hp_a_44, ↓hp_s_44, ↓hp_l_44, ↓hp_a_45, ↓hp_s_45, ↓hp_l_45, ↓hp_a_46, ↓hp_s_46, ↓hp_l_46, ↓hp_a_47, ↓hp_s_47, ↓hp_l_47, ↓hp_a_48, ↓hp_s_48, ↓hp_l_48, ↓hp_a_49, ↓hp_s_49, ↓hp_l_49, ↓hp_a_50, ↓hp_s_50, ↓hp_l_50, hrow, e_X12_in, c1, c3, m0, mb, mc, iO_wide, hcm, kl_0, lc_lt, lc_le, lc_gt, lc_ge, lc_eq, y_lt, y_le, y_eq, hdv]
          · rw [if_neg (by omega)] at hpt
            rw [hpt, Option.isSome_none, if_neg Bool.false_ne_true, e_X12_arePoints]
            clear hV c4 hR hpt
            simp (disch := (first | assumption | (unfold i32; omega) | (unfold i64; omega) | omega)) only [↓reduceIte, ki_0, ki_1, ki_2, ki_3, ki_4, ki_5, ki_6, ki_7, ki_8, ki_9, ki_10, ki_11, ki_12, ki_13, ki_14, ki_15, ki_20, ki_21, ki_30, ki_31, ki_40, ki_41, ki_50, ki_51, ki_60, ki_63, ki_64, ki_65, ki_100, ki_158, ki_160, ki_200, ki_212, ki_1000, ki_2000, ki_2001, ki_5000, ki_10000, ki_10001, ki_100000, ki_200000, ki_1000000, ki_2000000, ki_3000000, iO_neg, iO_add, iO_sub, iO_mul, kn_4, kn_8, kn_10, kn_20, kn_24, kn_40, kn_41, kn_50, kn_60, kn_158, kn_160, kn_200, kn_212, kn_2001, tn_lt, fn_lt, tn_le, fn_le, tn_eq, fn_eq, x_lt, x_le, x_eq, x_ix, x_nat, t_lt, f_lt, t_le, f_le, t_eq, f_eq, eq_self, and_self, true_and, and_true, false_and, and_false, if_true, if_false, Int.toNat_natCast, bI_s, bL_s, bA_s, bA_n, bV_s, mq_s, mq_n, en_le, bl_0, bl_1, u_eq, u_ne, w_eq, w_ne, v_eq, v_ne, ↓hp_cc_26, ↓hp_g_26_0, ↓hp_p_26_0, ↓hp_g_26_1, ↓hp_p_26_1, ↓hp_g_26_2, ↓hp_p_26_2, ↓hp_g_26_3, ↓hp_g_26_4, ↓hp_g_26_5, ↓hp_g_26_6, ↓hp_g_26_7, ↓hp_g_26_8, ↓hp_g_26_9, ↓hp_g_26_10, ↓hp_g_26_11, ↓hp_g_26_12, ↓hp_g_26_13, ↓hp_g_26_14, ↓hp_g_26_15, ↓hp_p_26_15, ↓hp_g_26_16, ↓hp_g_26_17, ↓hp_g_26_18, ↓hp_p_26_18, ↓hp_g_26_19, ↓hp_p_26_19, ↓hp_g_26_20, ↓hp_g_26_21, ↓hp_p_26_21, ↓hp_g_26_22, ↓hp_g_26_23, ↓hp_g_26_24, ↓hp_g_26_25, ↓hp_g_26_26, ↓hp_g_26_27, ↓hp_g_26_28, ↓hp_g_26_29, ↓hp_g_26_30, ↓hp_p_26_30, ↓hp_g_26_31, ↓hp_g_26_32, ↓hp_p_26_32, ↓hp_a_27, ↓hp_s_27, ↓hp_l_27, ↓hp_a_28, ↓hp_s_28, ↓hp_l_28, ↓hp_a_29, ↓hp_s_29, ↓hp_l_29, ↓hp_a_30, ↓hp_s_30, ↓hp_l_30, ↓hp_a_31, ↓hp_s_31, ↓hp_l_31, ↓hp_a_32, ↓hp_s_32, ↓hp_l_32, ↓hp_a_33, ↓hp_s_33, ↓hp_l_33, ↓hp_a_34, ↓hp_s_34, ↓hp_l_34, ↓hp_a_35, ↓hp_s_35, ↓hp_l_35, ↓hp_a_36, ↓hp_s_36, ↓hp_l_36, ↓hp_a_37, ↓hp_s_37, ↓hp_l_37, ↓hp_a_38, ↓hp_s_38, ↓hp_l_38, ↓hp_a_39, ↓hp_s_39, ↓hp_a_40, ↓hp_s_40, ↓hp_a_41, ↓hp_s_41, ↓hp_l_41, ↓hp_a_42, ↓hp_s_42, ↓hp_l_42, ↓hp_a_43, ↓hp_s_43, ↓hp_l_43, ↓hp_a_44, ↓hp_s_44, ↓hp_l_44, ↓hp_a_45, ↓hp_s_45, ↓hp_l_45, ↓hp_a_46, ↓hp_s_46, ↓hp_l_46, ↓hp_a_47, ↓hp_s_47, ↓hp_l_47, ↓hp_a_48, ↓hp_s_48, ↓hp_l_48, ↓hp_a_49, ↓hp_s_49, ↓hp_l_49, ↓hp_a_50, ↓hp_s_50, ↓hp_l_50, hrow, e_X12_in, c1, c3, m0, mb, mc, iO_wide, hcm, kl_0, lc_lt, lc_le, lc_gt, lc_ge, lc_eq, y_lt, y_le, y_eq, hdv]
        · rw [if_pos (Or.inl g5)] at hpt
          rw [hpt, Option.isSome_some, if_pos rfl, e_X12_arePoints]
          clear hV c4 hR hpt
          simp (disch := (first | assumption | (unfold i32; omega) | (unfold i64; omega) | omega)) only [↓reduceIte, ki_0, ki_1, ki_2, ki_3, ki_4, ki_5, ki_6, ki_7, ki_8, ki_9, ki_10, ki_11, ki_12, ki_13, ki_14, ki_15, ki_20, ki_21, ki_30, ki_31, ki_40, ki_41, ki_50, ki_51, ki_60, ki_63, ki_64, ki_65, ki_100, ki_158, ki_160, ki_200, ki_212, ki_1000, ki_2000, ki_2001, ki_5000, ki_10000, ki_10001, ki_100000, ki_200000, ki_1000000, ki_2000000, ki_3000000, iO_neg, iO_add, iO_sub, iO_mul, kn_4, kn_8, kn_10, kn_20, kn_24, kn_40, kn_41, kn_50, kn_60, kn_158, kn_160, kn_200, kn_212, kn_2001, tn_lt, fn_lt, tn_le, fn_le, tn_eq, fn_eq, x_lt, x_le, x_eq, x_ix, x_nat, t_lt, f_lt, t_le, f_le, t_eq, f_eq, eq_self, and_self, true_and, and_true, false_and, and_false, if_true, if_false, Int.toNat_natCast, bI_s, bL_s, bA_s, bA_n, bV_s, mq_s, mq_n, en_le, bl_0, bl_1, u_eq, u_ne, w_eq, w_ne, v_eq, v_ne, ↓hp_cc_26, ↓hp_g_26_0, ↓hp_p_26_0, ↓hp_g_26_1, ↓hp_p_26_1, ↓hp_g_26_2, ↓hp_p_26_2, ↓hp_g_26_3, ↓hp_g_26_4, ↓hp_g_26_5, ↓hp_g_26_6, ↓hp_g_26_7, ↓hp_g_26_8, ↓hp_g_26_9, ↓hp_g_26_10, ↓hp_g_26_11, ↓hp_g_26_12, ↓hp_g_26_13, ↓hp_g_26_14, ↓hp_g_26_15, ↓hp_p_26_15, ↓hp_g_26_16, ↓hp_g_26_17, ↓hp_g_26_18, ↓hp_p_26_18, ↓hp_g_26_19, ↓hp_p_26_19, ↓hp_g_26_20, ↓hp_g_26_21, ↓hp_p_26_21, ↓hp_g_26_22, ↓hp_g_26_23, ↓hp_g_26_24, ↓hp_g_26_25, ↓hp_g_26_26, ↓hp_g_26_27, ↓hp_g_26_28, ↓hp_g_26_29, ↓hp_g_26_30, ↓hp_p_26_30, ↓hp_g_26_31, ↓hp_g_26_32, ↓hp_p_26_32, ↓hp_a_27, ↓hp_s_27, ↓hp_l_27, ↓hp_a_28, ↓hp_s_28, ↓hp_l_28, ↓hp_a_29, ↓hp_s_29, ↓hp_l_29, ↓hp_a_30, ↓hp_s_30, ↓hp_l_30, ↓hp_a_31, ↓hp_s_31, ↓hp_l_31, ↓hp_a_32, ↓hp_s_32, ↓hp_l_32, ↓hp_a_33, ↓hp_s_33, ↓hp_l_33, ↓hp_a_34, ↓hp_s_34, ↓hp_l_34, ↓hp_a_35, ↓hp_s_35, ↓hp_l_35, ↓hp_a_36, ↓hp_s_36, ↓hp_l_36, ↓hp_a_37, ↓hp_s_37, ↓hp_l_37, ↓hp_a_38, ↓hp_s_38, ↓hp_l_38, ↓hp_a_39, ↓hp_s_39, ↓hp_a_40, ↓hp_s_40, ↓hp_a_41, ↓hp_s_41, ↓hp_l_41, ↓hp_a_42, ↓hp_s_42, ↓hp_l_42, ↓hp_a_43, ↓hp_s_43, ↓hp_l_43, ↓hp_a_44, ↓hp_s_44, ↓hp_l_44, ↓hp_a_45, ↓hp_s_45, ↓hp_l_45, ↓hp_a_46, ↓hp_s_46, ↓hp_l_46, ↓hp_a_47, ↓hp_s_47, ↓hp_l_47, ↓hp_a_48, ↓hp_s_48, ↓hp_l_48, ↓hp_a_49, ↓hp_s_49, ↓hp_l_49, ↓hp_a_50, ↓hp_s_50, ↓hp_l_50, hrow, e_X12_in, c1, c3, mb]
      · have hpt : ptq S (k : Int) m = none := by
          unfold ptq
          rw [hq]
          dsimp only
          rw [if_neg (show ¬ (q.1 = 4 ∧ 1 ≤ m ∧ m ≤ 60) from fun h => g2 h.2)]
        rw [hpt, Option.isSome_none, if_neg Bool.false_ne_true, e_X12_arePoints]
        clear hV c4 hR hpt
        by_cases t1 : m < 1
        · clear g2; simp (disch := (first | assumption | (unfold i32; omega) | (unfold i64; omega) | omega)) only [↓reduceIte, ki_0, ki_1, ki_2, ki_3, ki_4, ki_5, ki_6, ki_7, ki_8, ki_9, ki_10, ki_11, ki_12, ki_13, ki_14, ki_15, ki_20, ki_21, ki_30, ki_31, ki_40, ki_41, ki_50, ki_51, ki_60, ki_63, ki_64, ki_65, ki_100, ki_158, ki_160, ki_200, ki_212, ki_1000, ki_2000, ki_2001, ki_5000, ki_10000, ki_10001, ki_100000, ki_200000, ki_1000000, ki_2000000, ki_3000000, iO_neg, iO_add, iO_sub, iO_mul, kn_4, kn_8, kn_10, kn_20, kn_24, kn_40, kn_41, kn_50, kn_60, kn_158, kn_160, kn_200, kn_212, kn_2001, tn_lt, fn_lt, tn_le, fn_le, tn_eq, fn_eq, x_lt, x_le, x_eq, x_ix, x_nat, t_lt, f_lt, t_le, f_le, t_eq, f_eq, eq_self, and_self, true_and, and_true, false_and, and_false, if_true, if_false, Int.toNat_natCast, bI_s, bL_s, bA_s, bA_n, bV_s, mq_s, mq_n, en_le, bl_0, bl_1, u_eq, u_ne, w_eq, w_ne, v_eq, v_ne, ↓hp_cc_26, ↓hp_g_26_0, ↓hp_p_26_0, ↓hp_g_26_1, ↓hp_p_26_1, ↓hp_g_26_2, ↓hp_p_26_2, ↓hp_g_26_3, ↓hp_g_26_4, ↓hp_g_26_5, ↓hp_g_26_6, ↓hp_g_26_7, ↓hp_g_26_8, ↓hp_g_26_9, ↓hp_g_26_10, ↓hp_g_26_11, ↓hp_g_26_12, ↓hp_g_26_13, ↓hp_g_26_14, ↓hp_g_26_15, ↓hp_p_26_15, ↓hp_g_26_16, ↓hp_g_26_17, ↓hp_g_26_18, ↓hp_p_26_18, ↓hp_g_26_19, ↓hp_p_26_19, ↓hp_g_26_20, ↓hp_g_26_21, ↓hp_p_26_21, ↓hp_g_26_22, ↓hp_g_26_23, ↓hp_g_26_24, ↓hp_g_26_25, ↓hp_g_26_26, ↓hp_g_26_27, ↓hp_g_26_28, ↓hp_g_26_29, ↓hp_g_26_30, ↓hp_p_26_30, ↓hp_g_26_31, ↓hp_g_26_32, ↓hp_p_26_32, ↓hp_a_27, ↓hp_s_27, ↓hp_l_27, ↓hp_a_28, ↓hp_s_28, ↓hp_l_28, ↓hp_a_29, ↓hp_s_29, ↓hp_l_29, ↓hp_a_30, ↓hp_s_30, ↓hp_l_30, ↓hp_a_31, ↓hp_s_31, ↓hp_l_31, ↓hp_a_32, ↓hp_s_32, ↓hp_l_32, ↓hp_a_33, ↓hp_s_33, ↓hp_l_33, ↓hp_a_34, ↓hp_s_34, ↓hp_l_34, ↓hp_a_35, ↓hp_s_35, ↓hp_l_35, ↓hp_a_36, ↓hp_s_36, ↓hp_l_36, ↓hp_a_37, ↓hp_s_37, ↓hp_l_37, ↓hp_a_38, ↓hp_s_38, ↓hp_l_38, ↓hp_a_39, ↓hp_s_39, ↓hp_a_40, ↓hp_s_40, ↓hp_a_41, ↓hp_s_41, ↓hp_l_41, ↓hp_a_42, ↓hp_s_42, ↓hp_l_42, ↓hp_a_43, ↓hp_s_43, ↓hp_l_43, ↓hp_a_44, ↓hp_s_44, ↓hp_l_44, ↓hp_a_45, ↓hp_s_45, ↓hp_l_45, ↓hp_a_46, ↓hp_s_46, ↓hp_l_46, ↓hp_a_47, ↓hp_s_47, ↓hp_l_47, ↓hp_a_48, ↓hp_s_48, ↓hp_l_48, ↓hp_a_49, ↓hp_s_49, ↓hp_l_49, ↓hp_a_50, ↓hp_s_50, ↓hp_l_50, hrow, e_X12_in, c1]
        · have t2 : 60 < m := by omega
          clear g2; simp (disch := (first | assumption | (unfold i32; omega) | (unfold i64; omega) | omega)) only [↓reduceIte, ki_0, ki_1, ki_2, ki_3, ki_4, ki_5, ki_6, ki_7, ki_8, ki_9, ki_10, ki_11, ki_12, ki_13, ki_14, ki_15, ki_20, ki_21, ki_30, ki_31, ki_40, ki_41, ki_50, ki_51, ki_60, ki_63, ki_64, ki_65, ki_100, ki_158, ki_160, ki_200, ki_212, ki_1000, ki_2000, ki_2001, ki_5000, ki_10000, ki_10001, ki_100000, ki_200000, ki_1000000, ki_2000000, ki_3000000, iO_neg, iO_add, iO_sub, iO_mul, kn_4, kn_8, kn_10, kn_20, kn_24, kn_40, kn_41, kn_50, kn_60, kn_158, kn_160, kn_200, kn_212, kn_2001, tn_lt, fn_lt, tn_le, fn_le, tn_eq, fn_eq, x_lt, x_le, x_eq, x_ix, x_nat, t_lt, f_lt, t_le, f_le, t_eq, f_eq, eq_self, and_self, true_and, and_true, false_and, and_false, if_true, if_false, Int.toNat_natCast, bI_s, bL_s, bA_s, bA_n, bV_s, mq_s, mq_n, en_le, bl_0, bl_1, u_eq, u_ne, w_eq, w_ne, v_eq, v_ne, ↓hp_cc_26, ↓hp_g_26_0, ↓hp_p_26_0, ↓hp_g_26_1, ↓hp_p_26_1, ↓hp_g_26_2, ↓hp_p_26_2, ↓hp_g_26_3, ↓hp_g_26_4, ↓hp_g_26_5, ↓hp_g_26_6, ↓hp_g_26_7, ↓hp_g_26_8, ↓hp_g_26_9, ↓hp_g_26_10, ↓hp_g_26_11, ↓hp_g_26_12, ↓hp_g_26_13, ↓hp_g_26_14, ↓hp_g_26_15, ↓hp_p_26_15, ↓hp_g_26_16, ↓hp_g_26_17, ↓hp_g_26_18, ↓hp_p_26_18, ↓hp_g_26_19, ↓hp_p_26_19, ↓hp_g_26_20, ↓hp_g_26_21, ↓hp_p_26_21, ↓hp_g_26_22, ↓hp_g_26_23, ↓hp_g_26_24, ↓hp_g_26_25, ↓hp_g_26_26, ↓hp_g_26_27, ↓hp_g_26_28, ↓hp_g_26_29, ↓hp_g_26_30, ↓hp_p_26_30, ↓hp_g_26_31, ↓hp_g_26_32, ↓hp_p_26_32, ↓hp_a_27, ↓hp_s_27, ↓hp_l_27, ↓hp_a_28, ↓hp_s_28, ↓hp_l_28, ↓hp_a_29, ↓hp_s_29, ↓hp_l_29, ↓hp_a_30, ↓hp_s_30, ↓hp_l_30, ↓hp_a_31, ↓hp_s_31, ↓hp_l_31, ↓hp_a_32, ↓hp_s_32, ↓hp_l_32, ↓hp_a_33, ↓hp_s_33, ↓hp_l_33, ↓hp_a_34, ↓hp_s_34, ↓hp_l_34, ↓hp_a_35, ↓hp_s_35, ↓hp_l_35, ↓hp_a_36, ↓hp_s_36, ↓hp_l_36, ↓hp_a_37, ↓hp_s_37, ↓hp_l_37, ↓hp_a_38, ↓hp_s_38, ↓hp_l_38, ↓hp_a_39, ↓hp_s_39, ↓hp_a_40, ↓hp_s_40, ↓hp_a_41, ↓hp_s_41, ↓hp_l_41, ↓hp_a_42, ↓hp_s_42, ↓hp_l_42, ↓hp_a_43, ↓hp_s_43, ↓hp_l_43, ↓hp_a_44, ↓hp_s_44, ↓hp_l_44, ↓hp_a_45, ↓hp_s_45, ↓hp_l_45, ↓hp_a_46, ↓hp_s_46, ↓hp_l_46, ↓hp_a_47, ↓hp_s_47, ↓hp_l_47, ↓hp_a_48, ↓hp_s_48, ↓hp_l_48, ↓hp_a_49, ↓hp_s_49, ↓hp_l_49, ↓hp_a_50, ↓hp_s_50, ↓hp_l_50, hrow, e_X12_in, c1]
    · have hpt : ptq S (k : Int) m = none := by
        unfold ptq
        rw [hq]
        dsimp only
        rw [if_neg (show ¬ (q.1 = 4 ∧ 1 ≤ m ∧ m ≤ 60) from fun h => g1 h.1)]
      rw [hpt, Option.isSome_none, if_neg Bool.false_ne_true, e_X12_arePoints]
      clear hV c4 hR hpt
      simp (disch := (first | assumption | (unfold i32; omega) | (unfold i64; omega) | omega)) only [↓reduceIte, ki_0, ki_1, ki_2, ki_3, ki_4, ki_5, ki_6, ki_7, ki_8, ki_9, ki_10, ki_11, ki_12, ki_13, ki_14, ki_15, ki_20, ki_21, ki_30, ki_31, ki_40, ki_41, ki_50, ki_51, ki_60, ki_63, ki_64, ki_65, ki_100, ki_158, ki_160, ki_200, ki_212, ki_1000, ki_2000, ki_2001, ki_5000, ki_10000, ki_10001, ki_100000, ki_200000, ki_1000000, ki_2000000, ki_3000000, iO_neg, iO_add, iO_sub, iO_mul, kn_4, kn_8, kn_10, kn_20, kn_24, kn_40, kn_41, kn_50, kn_60, kn_158, kn_160, kn_200, kn_212, kn_2001, tn_lt, fn_lt, tn_le, fn_le, tn_eq, fn_eq, x_lt, x_le, x_eq, x_ix, x_nat, t_lt, f_lt, t_le, f_le, t_eq, f_eq, eq_self, and_self, true_and, and_true, false_and, and_false, if_true, if_false, Int.toNat_natCast, bI_s, bL_s, bA_s, bA_n, bV_s, mq_s, mq_n, en_le, bl_0, bl_1, u_eq, u_ne, w_eq, w_ne, v_eq, v_ne, ↓hp_cc_26, ↓hp_g_26_0, ↓hp_p_26_0, ↓hp_g_26_1, ↓hp_p_26_1, ↓hp_g_26_2, ↓hp_p_26_2, ↓hp_g_26_3, ↓hp_g_26_4, ↓hp_g_26_5, ↓hp_g_26_6, ↓hp_g_26_7, ↓hp_g_26_8, ↓hp_g_26_9, ↓hp_g_26_10, ↓hp_g_26_11, ↓hp_g_26_12, ↓hp_g_26_13, ↓hp_g_26_14, ↓hp_g_26_15, ↓hp_p_26_15, ↓hp_g_26_16, ↓hp_g_26_17, ↓hp_g_26_18, ↓hp_p_26_18, ↓hp_g_26_19, ↓hp_p_26_19, ↓hp_g_26_20, ↓hp_g_26_21, ↓hp_p_26_21, ↓hp_g_26_22, ↓hp_g_26_23, ↓hp_g_26_24, ↓hp_g_26_25, ↓hp_g_26_26, ↓hp_g_26_27, ↓hp_g_26_28, ↓hp_g_26_29, ↓hp_g_26_30, ↓hp_p_26_30, ↓hp_g_26_31, ↓hp_g_26_32, ↓hp_p_26_32, ↓hp_a_27, ↓hp_s_27, ↓hp_l_27, ↓hp_a_28, ↓hp_s_28, ↓hp_l_28, ↓hp_a_29, ↓hp_s_29, ↓hp_l_29, ↓hp_a_30, ↓hp_s_30, ↓hp_l_30, ↓hp_a_31, ↓hp_s_31, ↓hp_l_31, ↓hp_a_32, ↓hp_s_32, ↓hp_l_32, ↓hp_a_33, ↓hp_s_33, ↓hp_l_33, ↓hp_a_34, ↓hp_s_34, ↓hp_l_34, ↓hp_a_35, ↓hp_s_35, ↓hp_l_35, ↓hp_a_36, ↓hp_s_36, ↓hp_l_36, ↓hp_a_37, ↓hp_s_37, ↓hp_l_37, ↓hp_a_38, ↓hp_s_38, ↓hp_l_38, ↓hp_a_39, ↓hp_s_39, ↓hp_a_40, ↓hp_s_40, ↓hp_a_41, ↓hp_s_41, ↓hp_l_41, ↓hp_a_42, ↓hp_s_42, ↓hp_l_42, ↓hp_a_43, ↓hp_s_43, ↓hp_l_43, ↓hp_a_44, ↓hp_s_44, ↓hp_l_44, ↓hp_a_45, ↓hp_s_45, ↓hp_l_45, ↓hp_a_46, ↓hp_s_46, ↓hp_l_46, ↓hp_a_47, ↓hp_s_47, ↓hp_l_47, ↓hp_a_48, ↓hp_s_48, ↓hp_l_48, ↓hp_a_49, ↓hp_s_49, ↓hp_l_49, ↓hp_a_50, ↓hp_s_50, ↓hp_l_50, hrow, c1]
theorem mc_gaps (hS : OK5 S) {r m : Int} (hr : i32 r) (hm : i32 m) : MC S S (p_gaps S r m) (fun z => f_X12_gaps sc (n + 40) 26 (iO r) (iO m) z) := by
  intro XI XA XP XC MI MA ML D hV hP
  have hap := m_arePoints (sc := sc) (n := n + 35) (XI := XI) (XA := XA) (XP := XP) (XC := XC) (ML := ML) (D := D) hV hS hr hm
  have h8 := hS.1
  have h10 := hS.2.1
  unfold p_gaps
  cases hq : ptq S r m with
  | none =>
    rw [hq, Option.isSome_none, if_neg Bool.false_ne_true] at hap
    refine ⟨MI, MA, ML, ?_, hV, hP⟩
    show f_X12_gaps sc (n + 40) 26 (iO r) (iO m) _ = _
    rw [e_X12_gaps]
    clear hV
    simp (disch := (first | assumption | (unfold i32; omega) | (unfold i64; omega) | omega)) only [↓reduceIte, ki_0, ki_1, ki_2, ki_3, ki_4, ki_5, ki_6, ki_7, ki_8, ki_9, ki_10, ki_11, ki_12, ki_13, ki_14, ki_15, ki_20, ki_21, ki_30, ki_31, ki_40, ki_41, ki_50, ki_51, ki_60, ki_63, ki_64, ki_65, ki_100, ki_158, ki_160, ki_200, ki_212, ki_1000, ki_2000, ki_2001, ki_5000, ki_10000, ki_10001, ki_100000, ki_200000, ki_1000000, ki_2000000, ki_3000000, iO_neg, iO_add, iO_sub, iO_mul, kn_4, kn_8, kn_10, kn_20, kn_24, kn_40, kn_41, kn_50, kn_60, kn_158, kn_160, kn_200, kn_212, kn_2001, tn_lt, fn_lt, tn_le, fn_le, tn_eq, fn_eq, x_lt, x_le, x_eq, x_ix, x_nat, t_lt, f_lt, t_le, f_le, t_eq, f_eq, eq_self, and_self, true_and, and_true, false_and, and_false, if_true, if_false, Int.toNat_natCast, bI_s, bL_s, bA_s, bA_n, bV_s, mq_s, mq_n, en_le, bl_0, bl_1, u_eq, u_ne, w_eq, w_ne, v_eq, v_ne, ↓hp_cc_26, ↓hp_g_26_0, ↓hp_p_26_0, ↓hp_g_26_1, ↓hp_p_26_1, ↓hp_g_26_2, ↓hp_p_26_2, ↓hp_g_26_3, ↓hp_g_26_4, ↓hp_g_26_5, ↓hp_g_26_6, ↓hp_g_26_7, ↓hp_g_26_8, ↓hp_g_26_9, ↓hp_g_26_10, ↓hp_g_26_11, ↓hp_g_26_12, ↓hp_g_26_13, ↓hp_g_26_14, ↓hp_g_26_15, ↓hp_p_26_15, ↓hp_g_26_16, ↓hp_g_26_17, ↓hp_g_26_18, ↓hp_p_26_18, ↓hp_g_26_19, ↓hp_p_26_19, ↓hp_g_26_20, ↓hp_g_26_21, ↓hp_p_26_21, ↓hp_g_26_22, ↓hp_g_26_23, ↓hp_g_26_24, ↓hp_g_26_25, ↓hp_g_26_26, ↓hp_g_26_27, ↓hp_g_26_28, ↓hp_g_26_29, ↓hp_g_26_30, ↓hp_p_26_30, ↓hp_g_26_31, ↓hp_g_26_32, ↓hp_p_26_32, ↓hp_a_27, ↓hp_s_27, ↓hp_l_27, ↓hp_a_28, ↓hp_s_28, ↓hp_l_28, ↓hp_a_29, ↓hp_s_29, ↓hp_l_29, ↓hp_a_30, ↓hp_s_30, ↓hp_l_30, ↓hp_a_31, ↓hp_s_31, ↓hp_l_31, ↓hp_a_32, ↓hp_s_32, ↓hp_l_32, ↓hp_a_33, ↓hp_s_33, ↓hp_l_33, ↓hp_a_34, ↓hp_s_34, ↓hp_l_34, ↓hp_a_35, ↓hp_s_35, ↓hp_l_35, ↓hp_a_36, ↓hp_s_36, ↓hp_l_36, ↓hp_a_37, ↓hp_s_37, ↓hp_l_37, ↓hp_a_38, ↓hp_s_38, ↓hp_l_38, ↓hp_a_39, ↓hp_s_39, ↓hp_a_40, ↓hp_s_40, ↓hp_a_41, ↓hp_s_41, ↓hp_l_41, ↓hp_a_42, ↓hp_s_42, ↓hp_l_42, ↓hp_a_43, ↓hp_s_43, ↓hp_l_43, ↓hp_a_44, ↓hp_s_44, ↓hp_l_44, ↓hp_a_45, ↓hp_s_45, ↓hp_l_45, ↓hp_a_46, ↓hp_s_46, ↓hp_l_46, ↓hp_a_47, ↓hp_s_47, ↓hp_l_47, ↓hp_a_48, ↓hp_s_48, ↓hp_l_48, ↓hp_a_49, ↓hp_s_49, ↓hp_l_49, ↓hp_a_50, ↓hp_s_50, ↓hp_l_50, hap]
  | some l =>
    rw [hq, Option.isSome_some, if_pos rfl] at hap
    obtain ⟨q, q1, q2, q3, q4, q5, q6⟩ := ptq_some hq
    obtain ⟨k, rfl, hk, hq2⟩ := rowq_some q1
    obtain ⟨c1, c2, c3, c4⟩ := hV.2.2.2.2.2.1 k q hq2
    have hR := hS.2.2.2.1 q (List.mem_of_getElem? hq2)
    have hs0 : 0 ≤ q.2.1 := (hR.2.2.2.2.2.2.1 q2).2
    have hs1 : q.2.1 < S.1.length := hR.2.2.2.1
    obtain ⟨s, hs⟩ : ∃ s : Nat, q.2.1 = s := ⟨q.2.1.toNat, by omega⟩
    have hss : q.2.1.toNat = s := by omega
    rw [hs] at c3
    rw [hss] at q5
    obtain ⟨y, rfl⟩ : ∃ y : Nat, m = y := ⟨m.toNat, by omega⟩
    dsimp only
    rw [Int.toNat_natCast]
    obtain ⟨MI', MA', f1, f2, f3, f4⟩ := m_gapsOf (sc := sc) (d := n + 33) (XI := XI) (XA := XA) (XP := XP) (XC := XC) (ML := ML) (D := D) (r := k) (n := y) (by omega) c3 (by omega) (hV.2.2.2.2.1 s l q5) (hS.2.2.1 l (List.mem_of_getElem? q5)) (by omega)
    refine ⟨MI', MA', ML, ?_, hV.scr (fun i hi => f3 i (by omega)) (fun i hi => f4 i (by omega)), pv_of hP (f3 8 (by decide)) (f4 21 (by omega))⟩
    show f_X12_gaps sc (n + 40) 26 (iO (k : Int)) (iO (y : Int)) _ = _
    obtain ⟨g1, g2⟩ := f2
    rw [e_X12_gaps]
    clear hV c4 f3 f4 g2 hR
    simp (disch := (first | assumption | (unfold i32; omega) | (unfold i64; omega) | omega)) only [↓reduceIte, ki_0, ki_1, ki_2, ki_3, ki_4, ki_5, ki_6, ki_7, ki_8, ki_9, ki_10, ki_11, ki_12, ki_13, ki_14, ki_15, ki_20, ki_21, ki_30, ki_31, ki_40, ki_41, ki_50, ki_51, ki_60, ki_63, ki_64, ki_65, ki_100, ki_158, ki_160, ki_200, ki_212, ki_1000, ki_2000, ki_2001, ki_5000, ki_10000, ki_10001, ki_100000, ki_200000, ki_1000000, ki_2000000, ki_3000000, iO_neg, iO_add, iO_sub, iO_mul, kn_4, kn_8, kn_10, kn_20, kn_24, kn_40, kn_41, kn_50, kn_60, kn_158, kn_160, kn_200, kn_212, kn_2001, tn_lt, fn_lt, tn_le, fn_le, tn_eq, fn_eq, x_lt, x_le, x_eq, x_ix, x_nat, t_lt, f_lt, t_le, f_le, t_eq, f_eq, eq_self, and_self, true_and, and_true, false_and, and_false, if_true, if_false, Int.toNat_natCast, bI_s, bL_s, bA_s, bA_n, bV_s, mq_s, mq_n, en_le, bl_0, bl_1, u_eq, u_ne, w_eq, w_ne, v_eq, v_ne, ↓hp_cc_26, ↓hp_g_26_0, ↓hp_p_26_0, ↓hp_g_26_1, ↓hp_p_26_1, ↓hp_g_26_2, ↓hp_p_26_2, ↓hp_g_26_3, ↓hp_g_26_4, ↓hp_g_26_5, ↓hp_g_26_6, ↓hp_g_26_7, ↓hp_g_26_8, ↓hp_g_26_9, ↓hp_g_26_10, ↓hp_g_26_11, ↓hp_g_26_12, ↓hp_g_26_13, ↓hp_g_26_14, ↓hp_g_26_15, ↓hp_p_26_15, ↓hp_g_26_16, ↓hp_g_26_17, ↓hp_g_26_18, ↓hp_p_26_18, ↓hp_g_26_19, ↓hp_p_26_19, ↓hp_g_26_20, ↓hp_g_26_21, ↓hp_p_26_21, ↓hp_g_26_22, ↓hp_g_26_23, ↓hp_g_26_24, ↓hp_g_26_25, ↓hp_g_26_26, ↓hp_g_26_27, ↓hp_g_26_28, ↓hp_g_26_29, ↓hp_g_26_30, ↓hp_p_26_30, ↓hp_g_26_31, ↓hp_g_26_32, ↓hp_p_26_32, ↓hp_a_27, ↓hp_s_27, ↓hp_l_27, ↓hp_a_28, ↓hp_s_28, ↓hp_l_28, ↓hp_a_29, ↓hp_s_29, ↓hp_l_29, ↓hp_a_30, ↓hp_s_30, ↓hp_l_30, ↓hp_a_31, ↓hp_s_31, ↓hp_l_31, ↓hp_a_32, ↓hp_s_32, ↓hp_l_32, ↓hp_a_33, ↓hp_s_33, ↓hp_l_33, ↓hp_a_34, ↓hp_s_34, ↓hp_l_34, ↓hp_a_35, ↓hp_s_35, ↓hp_l_35, ↓hp_a_36, ↓hp_s_36, ↓hp_l_36, ↓hp_a_37, ↓hp_s_37, ↓hp_l_37, ↓hp_a_38, ↓hp_s_38, ↓hp_l_38, ↓hp_a_39, ↓hp_s_39, ↓hp_a_40, ↓hp_s_40, ↓hp_a_41, ↓hp_s_41, ↓hp_l_41, ↓hp_a_42, ↓hp_s_42, ↓hp_l_42, ↓hp_a_43, ↓hp_s_43, ↓hp_l_43, ↓hp_a_44, ↓hp_s_44, ↓hp_l_44, ↓hp_a_45, ↓hp_s_45, ↓hp_l_45, ↓hp_a_46, ↓hp_s_46, ↓hp_l_46, ↓hp_a_47, ↓hp_s_47, ↓hp_l_47, ↓hp_a_48, ↓hp_s_48, ↓hp_l_48, ↓hp_a_49, ↓hp_s_49, ↓hp_l_49, ↓hp_a_50, ↓hp_s_50, ↓hp_l_50, hap, f1, g1]
theorem mc_gap (hS : OK5 S) {r m i w : Int} (hr : i32 r) (hm : i32 m) (hi : i32 i) (hw : i32 w) : MC S S (p_gap S r m i w) (fun z => f_X12_gap sc (n + 40) 26 (iO r) (iO m) (iO i) (iO w) z) := by
  intro XI XA XP XC MI MA ML D hV hP
  have hap := m_arePoints (sc := sc) (n := n + 35) (XI := XI) (XA := XA) (XP := XP) (XC := XC) (ML := ML) (D := D) hV hS hr hm
  have h8 := hS.1
  have h10 := hS.2.1
  obtain ⟨i1, i2⟩ := id hi
  obtain ⟨w1, w2⟩ := id hw
  unfold p_gap
  cases hq : ptq S r m with
  | none =>
    rw [hq, Option.isSome_none, if_neg Bool.false_ne_true] at hap
    refine ⟨MI, MA, ML, ?_, hV, hP⟩
    show f_X12_gap sc (n + 40) 26 (iO r) (iO m) (iO i) (iO w) _ = _
    rw [e_X12_gap]
    clear hV
    simp (disch := (first | assumption | (unfold i32; omega) | (unfold i64; omega) | omega)) only [↓reduceIte, ki_0, ki_1, ki_2, ki_3, ki_4, ki_5, ki_6, ki_7, ki_8, ki_9, ki_10, ki_11, ki_12, ki_13, ki_14, ki_15, ki_20, ki_21, ki_30, ki_31, ki_40, ki_41, ki_50, ki_51, ki_60, ki_63, ki_64, ki_65, ki_100, ki_158, ki_160, ki_200, ki_212, ki_1000, ki_2000, ki_2001, ki_5000, ki_10000, ki_10001, ki_100000, ki_200000, ki_1000000, ki_2000000, ki_3000000, iO_neg, iO_add, iO_sub, iO_mul, kn_4, kn_8, kn_10, kn_20, kn_24, kn_40, kn_41, kn_50, kn_60, kn_158, kn_160, kn_200, kn_212, kn_2001, tn_lt, fn_lt, tn_le, fn_le, tn_eq, fn_eq, x_lt, x_le, x_eq, x_ix, x_nat, t_lt, f_lt, t_le, f_le, t_eq, f_eq, eq_self, and_self, true_and, and_true, false_and, and_false, if_true, if_false, Int.toNat_natCast, bI_s, bL_s, bA_s, bA_n, bV_s, mq_s, mq_n, en_le, bl_0, bl_1, u_eq, u_ne, w_eq, w_ne, v_eq, v_ne, ↓hp_cc_26, ↓hp_g_26_0, ↓hp_p_26_0, ↓hp_g_26_1, ↓hp_p_26_1, ↓hp_g_26_2, ↓hp_p_26_2, ↓hp_g_26_3, ↓hp_g_26_4, ↓hp_g_26_5, ↓hp_g_26_6, ↓hp_g_26_7, ↓hp_g_26_8, ↓hp_g_26_9, ↓hp_g_26_10, ↓hp_g_26_11, ↓hp_g_26_12, ↓hp_g_26_13, ↓hp_g_26_14, ↓hp_g_26_15, ↓hp_p_26_15, ↓hp_g_26_16, ↓hp_g_26_17, ↓hp_g_26_18, ↓hp_p_26_18, ↓hp_g_26_19, ↓hp_p_26_19, ↓hp_g_26_20, ↓hp_g_26_21, ↓hp_p_26_21, ↓hp_g_26_22, ↓hp_g_26_23, ↓hp_g_26_24, ↓hp_g_26_25, ↓hp_g_26_26, ↓hp_g_26_27, ↓hp_g_26_28, ↓hp_g_26_29, ↓hp_g_26_30, ↓hp_p_26_30, ↓hp_g_26_31, ↓hp_g_26_32, ↓hp_p_26_32, ↓hp_a_27, ↓hp_s_27, ↓hp_l_27, ↓hp_a_28, ↓hp_s_28, ↓hp_l_28, ↓hp_a_29, ↓hp_s_29, ↓hp_l_29, ↓hp_a_30, ↓hp_s_30, ↓hp_l_30, ↓hp_a_31, ↓hp_s_31, ↓hp_l_31, ↓hp_a_32, ↓hp_s_32, ↓hp_l_32, ↓hp_a_33, ↓hp_s_33, ↓hp_l_33, ↓hp_a_34, ↓hp_s_34, ↓hp_l_34, ↓hp_a_35, ↓hp_s_35, ↓hp_l_35, ↓hp_a_36, ↓hp_s_36, ↓hp_l_36, ↓hp_a_37, ↓hp_s_37, ↓hp_l_37, ↓hp_a_38, ↓hp_s_38, ↓hp_l_38, ↓hp_a_39, ↓hp_s_39, ↓hp_a_40, ↓hp_s_40, ↓hp_a_41, ↓hp_s_41, ↓hp_l_41, ↓hp_a_42, ↓hp_s_42, ↓hp_l_42, ↓hp_a_43, ↓hp_s_43, ↓hp_l_43, ↓hp_a_44, ↓hp_s_44, ↓hp_l_44, ↓hp_a_45, ↓hp_s_45, ↓hp_l_45, ↓hp_a_46, ↓hp_s_46, ↓hp_l_46, ↓hp_a_47, ↓hp_s_47, ↓hp_l_47, ↓hp_a_48, ↓hp_s_48, ↓hp_l_48, ↓hp_a_49, ↓hp_s_49, ↓hp_l_49, ↓hp_a_50, ↓hp_s_50, ↓hp_l_50, hap]
  | some l =>
    rw [hq, Option.isSome_some, if_pos rfl] at hap
    obtain ⟨q, q1, q2, q3, q4, q5, q6⟩ := ptq_some hq
    obtain ⟨k, rfl, hk, hq2⟩ := rowq_some q1
    obtain ⟨c1, c2, c3, c4⟩ := hV.2.2.2.2.2.1 k q hq2
    have hR := hS.2.2.2.1 q (List.mem_of_getElem? hq2)
    have hs0 : 0 ≤ q.2.1 := (hR.2.2.2.2.2.2.1 q2).2
    have hs1 : q.2.1 < S.1.length := hR.2.2.2.1
    obtain ⟨s, hs⟩ : ∃ s : Nat, q.2.1 = s := ⟨q.2.1.toNat, by omega⟩
    have hss : q.2.1.toNat = s := by omega
    rw [hs] at c3
    rw [hss] at q5
    obtain ⟨y, rfl⟩ : ∃ y : Nat, m = y := ⟨m.toNat, by omega⟩
    dsimp only
    rw [Int.toNat_natCast]
    have hSL := hS.2.2.1 l (List.mem_of_getElem? q5)
    by_cases gw : 0 ≤ w ∧ w ≤ 2
    · obtain ⟨MI', MA', f1, f2, f3, f4⟩ := m_gapsOf (sc := sc) (d := n + 33) (XI := XI) (XA := XA) (XP := XP) (XC := XC) (ML := ML) (D := D) (r := k) (n := y) (by omega) c3 (by omega) (hV.2.2.2.2.1 s l q5) hSL (by omega)
      refine ⟨MI', MA', ML, ?_, hV.scr (fun i hi => f3 i (by omega)) (fun i hi => f4 i (by omega)), pv_of hP (f3 8 (by decide)) (f4 21 (by omega))⟩
      show f_X12_gap sc (n + 40) 26 (iO (k : Int)) (iO (y : Int)) (iO i) (iO w) _ = _
      obtain ⟨g1, g2⟩ := f2
      have hB := gst_bd (l := l) (gx := gxf l y) (gy := gyf l y) (n := y) (fun i hi => by obtain ⟨q1, q2, q3, q4, -⟩ := gf_bd hSL (by omega) hi; exact ⟨q1, q2, q3, q4⟩) y (Nat.le_refl _)
      have hB : GB (gsts l y) y := hB
      have hk60 : (gsts l y).1 ≤ 60 := by have := hB.1; omega
      generalize gsts l y = st at *
      obtain ⟨gw1, gw2⟩ := gw
      rw [e_X12_gap]
      by_cases gi : 0 ≤ i ∧ i < (st.1 : Int)
      · rw [if_pos ⟨gw1, gw2, gi.1, gi.2⟩]
        obtain ⟨gi1, gi2⟩ := gi
        obtain ⟨v, rfl⟩ : ∃ v : Nat, i = v := ⟨i.toNat, by omega⟩
        rw [Int.toNat_natCast]
        obtain ⟨t1, t2, t3⟩ := g2 v (by omega)
        clear hV c4 f3 f4 g2 hR hB
        rcases (show w = 0 ∨ w = 1 ∨ w = 2 by omega) with rfl | rfl | rfl
        · simp (disch := (first | assumption | (unfold i32; omega) | (unfold i64; omega) | omega)) only [↓reduceIte, ki_0, ki_1, ki_2, ki_3, ki_4, ki_5, ki_6, ki_7, ki_8, ki_9, ki_10, ki_11, ki_12, ki_13, ki_14, ki_15, ki_20, ki_21, ki_30, ki_31, ki_40, ki_41, ki_50, ki_51, ki_60, ki_63, ki_64, ki_65, ki_100, ki_158, ki_160, ki_200, ki_212, ki_1000, ki_2000, ki_2001, ki_5000, ki_10000, ki_10001, ki_100000, ki_200000, ki_1000000, ki_2000000, ki_3000000, iO_neg, iO_add, iO_sub, iO_mul, kn_4, kn_8, kn_10, kn_20, kn_24, kn_40, kn_41, kn_50, kn_60, kn_158, kn_160, kn_200, kn_212, kn_2001, tn_lt, fn_lt, tn_le, fn_le, tn_eq, fn_eq, x_lt, x_le, x_eq, x_ix, x_nat, t_lt, f_lt, t_le, f_le, t_eq, f_eq, eq_self, and_self, true_and, and_true, false_and, and_false, if_true, if_false, Int.toNat_natCast, bI_s, bL_s, bA_s, bA_n, bV_s, mq_s, mq_n, en_le, bl_0, bl_1, u_eq, u_ne, w_eq, w_ne, v_eq, v_ne, ↓hp_cc_26, ↓hp_g_26_0, ↓hp_p_26_0, ↓hp_g_26_1, ↓hp_p_26_1, ↓hp_g_26_2, ↓hp_p_26_2, ↓hp_g_26_3, ↓hp_g_26_4, ↓hp_g_26_5, ↓hp_g_26_6, ↓hp_g_26_7, ↓hp_g_26_8, ↓hp_g_26_9, ↓hp_g_26_10, ↓hp_g_26_11, ↓hp_g_26_12, ↓hp_g_26_13, ↓hp_g_26_14, ↓hp_g_26_15, ↓hp_p_26_15, ↓hp_g_26_16, ↓hp_g_26_17, ↓hp_g_26_18, ↓hp_p_26_18, ↓hp_g_26_19, ↓hp_p_26_19, ↓hp_g_26_20, ↓hp_g_26_21, ↓hp_p_26_21, ↓hp_g_26_22, ↓hp_g_26_23, ↓hp_g_26_24, ↓hp_g_26_25, ↓hp_g_26_26, ↓hp_g_26_27, ↓hp_g_26_28, ↓hp_g_26_29, ↓hp_g_26_30, ↓hp_p_26_30, ↓hp_g_26_31, ↓hp_g_26_32, ↓hp_p_26_32, ↓hp_a_27, ↓hp_s_27, ↓hp_l_27, ↓hp_a_28, ↓hp_s_28, ↓hp_l_28, ↓hp_a_29, ↓hp_s_29, ↓hp_l_29, ↓hp_a_30, ↓hp_s_30, ↓hp_l_30, ↓hp_a_31, ↓hp_s_31, ↓hp_l_31, ↓hp_a_32, ↓hp_s_32, ↓hp_l_32, ↓hp_a_33, ↓hp_s_33, ↓hp_l_33, ↓hp_a_34, ↓hp_s_34, ↓hp_l_34, ↓hp_a_35, ↓hp_s_35, ↓hp_l_35, ↓hp_a_36, ↓hp_s_36, ↓hp_l_36, ↓hp_a_37, ↓hp_s_37, ↓hp_l_37, ↓hp_a_38, ↓hp_s_38, ↓hp_l_38, ↓hp_a_39, ↓hp_s_39, ↓hp_a_40, ↓hp_s_40, ↓hp_a_41, ↓hp_s_41, ↓hp_l_41, ↓hp_a_42, ↓hp_s_42, ↓hp_l_42, ↓hp_a_43, ↓hp_s_43, ↓hp_l_43, ↓hp_a_44, ↓hp_s_44, ↓hp_l_44, ↓hp_a_45, ↓hp_s_45, ↓hp_l_45, ↓hp_a_46, ↓hp_s_46, ↓hp_l_46, ↓hp_a_47, ↓hp_s_47, ↓hp_l_47, ↓hp_a_48, ↓hp_s_48, ↓hp_l_48, ↓hp_a_49, ↓hp_s_49, ↓hp_l_49, ↓hp_a_50, ↓hp_s_50, ↓hp_l_50, hap, e_X12_in, f1, g1, t1]
        · simp (disch := (first | assumption | (unfold i32; omega) | (unfold i64; omega) | omega)) only [↓reduceIte, ki_0, ki_1, ki_2, ki_3, ki_4, ki_5, ki_6, ki_7, ki_8, ki_9, ki_10, ki_11, ki_12, ki_13, ki_14, ki_15, ki_20, ki_21, ki_30, ki_31, ki_40, ki_41, ki_50, ki_51, ki_60, ki_63, ki_64, ki_65, ki_100, ki_158, ki_160, ki_200, ki_212, ki_1000, ki_2000, ki_2001, ki_5000, ki_10000, ki_10001, ki_100000, ki_200000, ki_1000000, ki_2000000, ki_3000000, iO_neg, iO_add, iO_sub, iO_mul, kn_4, kn_8, kn_10, kn_20, kn_24, kn_40, kn_41, kn_50, kn_60, kn_158, kn_160, kn_200, kn_212, kn_2001, tn_lt, fn_lt, tn_le, fn_le, tn_eq, fn_eq, x_lt, x_le, x_eq, x_ix, x_nat, t_lt, f_lt, t_le, f_le, t_eq, f_eq, eq_self, and_self, true_and, and_true, false_and, and_false, if_true, if_false, Int.toNat_natCast, bI_s, bL_s, bA_s, bA_n, bV_s, mq_s, mq_n, en_le, bl_0, bl_1, u_eq, u_ne, w_eq, w_ne, v_eq, v_ne, ↓hp_cc_26, ↓hp_g_26_0, ↓hp_p_26_0, ↓hp_g_26_1, ↓hp_p_26_1, ↓hp_g_26_2, ↓hp_p_26_2, ↓hp_g_26_3, ↓hp_g_26_4, ↓hp_g_26_5, ↓hp_g_26_6, ↓hp_g_26_7, ↓hp_g_26_8, ↓hp_g_26_9, ↓hp_g_26_10, ↓hp_g_26_11, ↓hp_g_26_12, ↓hp_g_26_13, ↓hp_g_26_14, ↓hp_g_26_15, ↓hp_p_26_15, ↓hp_g_26_16, ↓hp_g_26_17, ↓hp_g_26_18, ↓hp_p_26_18, ↓hp_g_26_19, ↓hp_p_26_19, ↓hp_g_26_20, ↓hp_g_26_21, ↓hp_p_26_21, ↓hp_g_26_22, ↓hp_g_26_23, ↓hp_g_26_24, ↓hp_g_26_25, ↓hp_g_26_26, ↓hp_g_26_27, ↓hp_g_26_28, ↓hp_g_26_29, ↓hp_g_26_30, ↓hp_p_26_30, ↓hp_g_26_31, ↓hp_g_26_32, ↓hp_p_26_32, ↓hp_a_27, ↓hp_s_27, ↓hp_l_27, ↓hp_a_28, ↓hp_s_28, ↓hp_l_28, ↓hp_a_29, ↓hp_s_29, ↓hp_l_29, ↓hp_a_30, ↓hp_s_30, ↓hp_l_30, ↓hp_a_31, ↓hp_s_31, ↓hp_l_31, ↓hp_a_32, ↓hp_s_32, ↓hp_l_32, ↓hp_a_33, ↓hp_s_33, ↓hp_l_33, ↓hp_a_34, ↓hp_s_34, ↓hp_l_34, ↓hp_a_35, ↓hp_s_35, ↓hp_l_35, ↓hp_a_36, ↓hp_s_36, ↓hp_l_36, ↓hp_a_37, ↓hp_s_37, ↓hp_l_37, ↓hp_a_38, ↓hp_s_38, ↓hp_l_38, ↓hp_a_39, ↓hp_s_39, ↓hp_a_40, ↓hp_s_40, ↓hp_a_41, ↓hp_s_41, ↓hp_l_41, ↓hp_a_42, ↓hp_s_42, ↓hp_l_42, ↓hp_a_43, ↓hp_s_43, ↓hp_l_43, ↓hp_a_44, ↓hp_s_44, ↓hp_l_44, ↓hp_a_45, ↓hp_s_45, ↓hp_l_45, ↓hp_a_46, ↓hp_s_46, ↓hp_l_46, ↓hp_a_47, ↓hp_s_47, ↓hp_l_47, ↓hp_a_48, ↓hp_s_48, ↓hp_l_48, ↓hp_a_49, ↓hp_s_49, ↓hp_l_49, ↓hp_a_50, ↓hp_s_50, ↓hp_l_50, hap, e_X12_in, f1, g1, t2]
        · simp (disch := (first | assumption | (unfold i32; omega) | (unfold i64; omega) | omega)) only [↓reduceIte, ki_0, ki_1, ki_2, ki_3, ki_4, ki_5, ki_6, ki_7, ki_8, ki_9, ki_10, ki_11, ki_12, ki_13, ki_14, ki_15, ki_20, ki_21, ki_30, ki_31, ki_40, ki_41, ki_50, ki_51, ki_60, ki_63, ki_64, ki_65, ki_100, ki_158, ki_160, ki_200, ki_212, ki_1000, ki_2000, ki_2001, ki_5000, ki_10000, ki_10001, ki_100000, ki_200000, ki_1000000, ki_2000000, ki_3000000, iO_neg, iO_add, iO_sub, iO_mul, kn_4, kn_8, kn_10, kn_20, kn_24, kn_40, kn_41, kn_50, kn_60, kn_158, kn_160, kn_200, kn_212, kn_2001, tn_lt, fn_lt, tn_le, fn_le, tn_eq, fn_eq, x_lt, x_le, x_eq, x_ix, x_nat, t_lt, f_lt, t_le, f_le, t_eq, f_eq, eq_self, and_self, true_and, and_true, false_and, and_false, if_true, if_false, Int.toNat_natCast, bI_s, bL_s, bA_s, bA_n, bV_s, mq_s, mq_n, en_le, bl_0, bl_1, u_eq, u_ne, w_eq, w_ne, v_eq, v_ne, ↓hp_cc_26, ↓hp_g_26_0, ↓hp_p_26_0, ↓hp_g_26_1, ↓hp_p_26_1, ↓hp_g_26_2, ↓hp_p_26_2, ↓hp_g_26_3, ↓hp_g_26_4, ↓hp_g_26_5, ↓hp_g_26_6, ↓hp_g_26_7, ↓hp_g_26_8, ↓hp_g_26_9, ↓hp_g_26_10, ↓hp_g_26_11, ↓hp_g_26_12, ↓hp_g_26_13, ↓hp_g_26_14, ↓hp_g_26_15, ↓hp_p_26_15, ↓hp_g_26_16, ↓hp_g_26_17, ↓hp_g_26_18, ↓hp_p_26_18, ↓hp_g_26_19, ↓hp_p_26_19, ↓hp_g_26_20, ↓hp_g_26_21, ↓hp_p_26_21, ↓hp_g_26_22, ↓hp_g_26_23, ↓hp_g_26_24, ↓hp_g_26_25, ↓hp_g_26_26, ↓hp_g_26_27, ↓hp_g_26_28, ↓hp_g_26_29, ↓hp_g_26_30, ↓hp_p_26_30, ↓hp_g_26_31, ↓hp_g_26_32, ↓hp_p_26_32, ↓hp_a_27, ↓hp_s_27, ↓hp_l_27, ↓hp_a_28, ↓hp_s_28, ↓hp_l_28, ↓hp_a_29, ↓hp_s_29, ↓hp_l_29, ↓hp_a_30, ↓hp_s_30, ↓hp_l_30, ↓hp_a_31, ↓hp_s_31, ↓hp_l_31, ↓hp_a_32, ↓hp_s_32, ↓hp_l_32, ↓hp_a_33, ↓hp_s_33, ↓hp_l_33, ↓hp_a_34, ↓hp_s_34, ↓hp_l_34, ↓hp_a_35, ↓hp_s_35, ↓hp_l_35, ↓hp_a_36, ↓hp_s_36, ↓hp_l_36, ↓hp_a_37, ↓hp_s_37, ↓hp_l_37, ↓hp_a_38, ↓hp_s_38, ↓hp_l_38, ↓hp_a_39, ↓hp_s_39, ↓hp_a_40, ↓hp_s_40, ↓hp_a_41, ↓hp_s_41, ↓hp_l_41, ↓hp_a_42, ↓hp_s_42, ↓hp_l_42, ↓hp_a_43, ↓hp_s_43, ↓hp_l_43, ↓hp_a_44, ↓hp_s_44, ↓hp_l_44, ↓hp_a_45, ↓hp_s_45, ↓hp_l_45, ↓hp_a_46, ↓hp_s_46, ↓hp_l_46, ↓hp_a_47, ↓hp_s_47, ↓hp_l_47, ↓hp_a_48, ↓hp_s_48, ↓hp_l_48, ↓hp_a_49, ↓hp_s_49, ↓hp_l_49, ↓hp_a_50, ↓hp_s_50, ↓hp_l_50, hap, e_X12_in, f1, g1, t3]
      · rw [if_neg (show ¬ (0 ≤ w ∧ w ≤ 2 ∧ 0 ≤ i ∧ i < (st.1 : Int)) by omega)]
        clear hV c4 f3 f4 g2 hR hB
        by_cases t1 : i < 0
        · clear gi; simp (disch := (first | assumption | (unfold i32; omega) | (unfold i64; omega) | omega)) only [↓reduceIte, ki_0, ki_1, ki_2, ki_3, ki_4, ki_5, ki_6, ki_7, ki_8, ki_9, ki_10, ki_11, ki_12, ki_13, ki_14, ki_15, ki_20, ki_21, ki_30, ki_31, ki_40, ki_41, ki_50, ki_51, ki_60, ki_63, ki_64, ki_65, ki_100, ki_158, ki_160, ki_200, ki_212, ki_1000, ki_2000, ki_2001, ki_5000, ki_10000, ki_10001, ki_100000, ki_200000, ki_1000000, ki_2000000, ki_3000000, iO_neg, iO_add, iO_sub, iO_mul, kn_4, kn_8, kn_10, kn_20, kn_24, kn_40, kn_41, kn_50, kn_60, kn_158, kn_160, kn_200, kn_212, kn_2001, tn_lt, fn_lt, tn_le, fn_le, tn_eq, fn_eq, x_lt, x_le, x_eq, x_ix, x_nat, t_lt, f_lt, t_le, f_le, t_eq, f_eq, eq_self, and_self, true_and, and_true, false_and, and_false, if_true, if_false, Int.toNat_natCast, bI_s, bL_s, bA_s, bA_n, bV_s, mq_s, mq_n, en_le, bl_0, bl_1, u_eq, u_ne, w_eq, w_ne, v_eq, v_ne, ↓hp_cc_26, ↓hp_g_26_0, ↓hp_p_26_0, ↓hp_g_26_1, ↓hp_p_26_1, ↓hp_g_26_2, ↓hp_p_26_2, ↓hp_g_26_3, ↓hp_g_26_4, ↓hp_g_26_5, ↓hp_g_26_6, ↓hp_g_26_7, ↓hp_g_26_8, ↓hp_g_26_9, ↓hp_g_26_10, ↓hp_g_26_11, ↓hp_g_26_12, ↓hp_g_26_13, ↓hp_g_26_14, ↓hp_g_26_15, ↓hp_p_26_15, ↓hp_g_26_16, ↓hp_g_26_17, ↓hp_g_26_18, ↓hp_p_26_18, ↓hp_g_26_19, ↓hp_p_26_19, ↓hp_g_26_20, ↓hp_g_26_21, ↓hp_p_26_21, ↓hp_g_26_22, ↓hp_g_26_23, ↓hp_g_26_24, ↓hp_g_26_25, ↓hp_g_26_26, ↓hp_g_26_27, ↓hp_g_26_28, ↓hp_g_26_29, ↓hp_g_26_30, ↓hp_p_26_30, ↓hp_g_26_31, ↓hp_g_26_32, ↓hp_p_26_32, ↓hp_a_27, ↓hp_s_27, ↓hp_l_27, ↓hp_a_28, ↓hp_s_28, ↓hp_l_28, ↓hp_a_29, ↓hp_s_29, ↓hp_l_29, ↓hp_a_30, ↓hp_s_30, ↓hp_l_30, ↓hp_a_31, ↓hp_s_31, ↓hp_l_31, ↓hp_a_32, ↓hp_s_32, ↓hp_l_32, ↓hp_a_33, ↓hp_s_33, ↓hp_l_33, ↓hp_a_34, ↓hp_s_34, ↓hp_l_34, ↓hp_a_35, ↓hp_s_35, ↓hp_l_35, ↓hp_a_36, ↓hp_s_36, ↓hp_l_36, ↓hp_a_37, ↓hp_s_37, ↓hp_l_37, ↓hp_a_38, ↓hp_s_38, ↓hp_l_38, ↓hp_a_39, ↓hp_s_39, ↓hp_a_40, ↓hp_s_40, ↓hp_a_41, ↓hp_s_41, ↓hp_l_41, ↓hp_a_42, ↓hp_s_42, ↓hp_l_42, ↓hp_a_43, ↓hp_s_43, ↓hp_l_43, ↓hp_a_44, ↓hp_s_44, ↓hp_l_44, ↓hp_a_45, ↓hp_s_45, ↓hp_l_45, ↓hp_a_46, ↓hp_s_46, ↓hp_l_46, ↓hp_a_47, ↓hp_s_47, ↓hp_l_47, ↓hp_a_48, ↓hp_s_48, ↓hp_l_48, ↓hp_a_49, ↓hp_s_49, ↓hp_l_49, ↓hp_a_50, ↓hp_s_50, ↓hp_l_50, hap, e_X12_in, f1, g1]
        · have t2 : (st.1 : Int) ≤ i := by omega
          clear gi; simp (disch := (first | assumption | (unfold i32; omega) | (unfold i64; omega) | omega)) only [↓reduceIte, ki_0, ki_1, ki_2, ki_3, ki_4, ki_5, ki_6, ki_7, ki_8, ki_9, ki_10, ki_11, ki_12, ki_13, ki_14, ki_15, ki_20, ki_21, ki_30, ki_31, ki_40, ki_41, ki_50, ki_51, ki_60, ki_63, ki_64, ki_65, ki_100, ki_158, ki_160, ki_200, ki_212, ki_1000, ki_2000, ki_2001, ki_5000, ki_10000, ki_10001, ki_100000, ki_200000, ki_1000000, ki_2000000, ki_3000000, iO_neg, iO_add, iO_sub, iO_mul, kn_4, kn_8, kn_10, kn_20, kn_24, kn_40, kn_41, kn_50, kn_60, kn_158, kn_160, kn_200, kn_212, kn_2001, tn_lt, fn_lt, tn_le, fn_le, tn_eq, fn_eq, x_lt, x_le, x_eq, x_ix, x_nat, t_lt, f_lt, t_le, f_le, t_eq, f_eq, eq_self, and_self, true_and, and_true, false_and, and_false, if_true, if_false, Int.toNat_natCast, bI_s, bL_s, bA_s, bA_n, bV_s, mq_s, mq_n, en_le, bl_0, bl_1, u_eq, u_ne, w_eq, w_ne, v_eq, v_ne, ↓hp_cc_26, ↓hp_g_26_0, ↓hp_p_26_0, ↓hp_g_26_1, ↓hp_p_26_1, ↓hp_g_26_2, ↓hp_p_26_2, ↓hp_g_26_3, ↓hp_g_26_4, ↓hp_g_26_5, ↓hp_g_26_6, ↓hp_g_26_7, ↓hp_g_26_8, ↓hp_g_26_9, ↓hp_g_26_10, ↓hp_g_26_11, ↓hp_g_26_12, ↓hp_g_26_13, ↓hp_g_26_14, ↓hp_g_26_15, ↓hp_p_26_15, ↓hp_g_26_16, ↓hp_g_26_17, ↓hp_g_26_18, ↓hp_p_26_18, ↓hp_g_26_19, ↓hp_p_26_19, ↓hp_g_26_20, ↓hp_g_26_21, ↓hp_p_26_21, ↓hp_g_26_22, ↓hp_g_26_23, ↓hp_g_26_24, ↓hp_g_26_25, ↓hp_g_26_26, ↓hp_g_26_27, ↓hp_g_26_28, ↓hp_g_26_29, ↓hp_g_26_30, ↓hp_p_26_30, ↓hp_g_26_31, ↓hp_g_26_32, ↓hp_p_26_32, ↓hp_a_27, ↓hp_s_27, ↓hp_l_27, ↓hp_a_28, ↓hp_s_28, ↓hp_l_28, ↓hp_a_29, ↓hp_s_29, ↓hp_l_29, ↓hp_a_30, ↓hp_s_30, ↓hp_l_30, ↓hp_a_31, ↓hp_s_31, ↓hp_l_31, ↓hp_a_32, ↓hp_s_32, ↓hp_l_32, ↓hp_a_33, ↓hp_s_33, ↓hp_l_33, ↓hp_a_34, ↓hp_s_34, ↓hp_l_34, ↓hp_a_35, ↓hp_s_35, ↓hp_l_35, ↓hp_a_36, ↓hp_s_36, ↓hp_l_36, ↓hp_a_37, ↓hp_s_37, ↓hp_l_37, ↓hp_a_38, ↓hp_s_38, ↓hp_l_38, ↓hp_a_39, ↓hp_s_39, ↓hp_a_40, ↓hp_s_40, ↓hp_a_41, ↓hp_s_41, ↓hp_l_41, ↓hp_a_42, ↓hp_s_42, ↓hp_l_42, ↓hp_a_43, ↓hp_s_43, ↓hp_l_43, ↓hp_a_44, ↓hp_s_44, ↓hp_l_44, ↓hp_a_45, ↓hp_s_45, ↓hp_l_45, ↓hp_a_46, ↓hp_s_46, ↓hp_l_46, ↓hp_a_47, ↓hp_s_47, ↓hp_l_47, ↓hp_a_48, ↓hp_s_48, ↓hp_l_48, ↓hp_a_49, ↓hp_s_49, ↓hp_l_49, ↓hp_a_50, ↓hp_s_50, ↓hp_l_50, hap, e_X12_in, f1, g1]
    · refine ⟨MI, MA, ML, ?_, hV, hP⟩
      show f_X12_gap sc (n + 40) 26 (iO (k : Int)) (iO (y : Int)) (iO i) (iO w) _ = _
      rw [if_neg (show ¬ (0 ≤ w ∧ w ≤ 2 ∧ 0 ≤ i ∧ i < ((gsts l y).1 : Int)) by omega), e_X12_gap]
      clear hV c4 hR
      by_cases t1 : w < 0
      · clear gw; simp (disch := (first | assumption | (unfold i32; omega) | (unfold i64; omega) | omega)) only [↓reduceIte, ki_0, ki_1, ki_2, ki_3, ki_4, ki_5, ki_6, ki_7, ki_8, ki_9, ki_10, ki_11, ki_12, ki_13, ki_14, ki_15, ki_20, ki_21, ki_30, ki_31, ki_40, ki_41, ki_50, ki_51, ki_60, ki_63, ki_64, ki_65, ki_100, ki_158, ki_160, ki_200, ki_212, ki_1000, ki_2000, ki_2001, ki_5000, ki_10000, ki_10001, ki_100000, ki_200000, ki_1000000, ki_2000000, ki_3000000, iO_neg, iO_add, iO_sub, iO_mul, kn_4, kn_8, kn_10, kn_20, kn_24, kn_40, kn_41, kn_50, kn_60, kn_158, kn_160, kn_200, kn_212, kn_2001, tn_lt, fn_lt, tn_le, fn_le, tn_eq, fn_eq, x_lt, x_le, x_eq, x_ix, x_nat, t_lt, f_lt, t_le, f_le, t_eq, f_eq, eq_self, and_self, true_and, and_true, false_and, and_false, if_true, if_false, Int.toNat_natCast, bI_s, bL_s, bA_s, bA_n, bV_s, mq_s, mq_n, en_le, bl_0, bl_1, u_eq, u_ne, w_eq, w_ne, v_eq, v_ne, ↓hp_cc_26, ↓hp_g_26_0, ↓hp_p_26_0, ↓hp_g_26_1, ↓hp_p_26_1, ↓hp_g_26_2, ↓hp_p_26_2, ↓hp_g_26_3, ↓hp_g_26_4, ↓hp_g_26_5, ↓hp_g_26_6, ↓hp_g_26_7, ↓hp_g_26_8, ↓hp_g_26_9, ↓hp_g_26_10, ↓hp_g_26_11, ↓hp_g_26_12, ↓hp_g_26_13, ↓hp_g_26_14, ↓hp_g_26_15, ↓hp_p_26_15, ↓hp_g_26_16, ↓hp_g_26_17, ↓hp_g_26_18, ↓hp_p_26_18, ↓hp_g_26_19, ↓hp_p_26_19, ↓hp_g_26_20, ↓hp_g_26_21, ↓hp_p_26_21, ↓hp_g_26_22, ↓hp_g_26_23, ↓hp_g_26_24, ↓hp_g_26_25, ↓hp_g_26_26, ↓hp_g_26_27, ↓hp_g_26_28, ↓hp_g_26_29, ↓hp_g_26_30, ↓hp_p_26_30, ↓hp_g_26_31, ↓hp_g_26_32, ↓hp_p_26_32, ↓hp_a_27, ↓hp_s_27, ↓hp_l_27, ↓hp_a_28, ↓hp_s_28, ↓hp_l_28, ↓hp_a_29, ↓hp_s_29, ↓hp_l_29, ↓hp_a_30, ↓hp_s_30, ↓hp_l_30, ↓hp_a_31, ↓hp_s_31, ↓hp_l_31, ↓hp_a_32, ↓hp_s_32, ↓hp_l_32, ↓hp_a_33, ↓hp_s_33, ↓hp_l_33, ↓hp_a_34, ↓hp_s_34, ↓hp_l_34, ↓hp_a_35, ↓hp_s_35, ↓hp_l_35, ↓hp_a_36, ↓hp_s_36, ↓hp_l_36, ↓hp_a_37, ↓hp_s_37, ↓hp_l_37, ↓hp_a_38, ↓hp_s_38, ↓hp_l_38, ↓hp_a_39, ↓hp_s_39, ↓hp_a_40, ↓hp_s_40, ↓hp_a_41, ↓hp_s_41, ↓hp_l_41, ↓hp_a_42, ↓hp_s_42, ↓hp_l_42, ↓hp_a_43, ↓hp_s_43, ↓hp_l_43, ↓hp_a_44, ↓hp_s_44, ↓hp_l_44, ↓hp_a_45, ↓hp_s_45, ↓hp_l_45, ↓hp_a_46, ↓hp_s_46, ↓hp_l_46, ↓hp_a_47, ↓hp_s_47, ↓hp_l_47, ↓hp_a_48, ↓hp_s_48, ↓hp_l_48, ↓hp_a_49, ↓hp_s_49, ↓hp_l_49, ↓hp_a_50, ↓hp_s_50, ↓hp_l_50, hap, e_X12_in]
      · have t2 : 2 < w := by omega
        clear gw; simp (disch := (first | assumption | (unfold i32; omega) | (unfold i64; omega) | omega)) only [↓reduceIte, ki_0, ki_1, ki_2, ki_3, ki_4, ki_5, ki_6, ki_7, ki_8, ki_9, ki_10, ki_11, ki_12, ki_13, ki_14, ki_15, ki_20, ki_21, ki_30, ki_31, ki_40, ki_41, ki_50, ki_51, ki_60, ki_63, ki_64, ki_65, ki_100, ki_158, ki_160, ki_200, ki_212, ki_1000, ki_2000, ki_2001, ki_5000, ki_10000, ki_10001, ki_100000, ki_200000, ki_1000000, ki_2000000, ki_3000000, iO_neg, iO_add, iO_sub, iO_mul, kn_4, kn_8, kn_10, kn_20, kn_24, kn_40, kn_41, kn_50, kn_60, kn_158, kn_160, kn_200, kn_212, kn_2001, tn_lt, fn_lt, tn_le, fn_le, tn_eq, fn_eq, x_lt, x_le, x_eq, x_ix, x_nat, t_lt, f_lt, t_le, f_le, t_eq, f_eq, eq_self, and_self, true_and, and_true, false_and, and_false, if_true, if_false, Int.toNat_natCast, bI_s, bL_s, bA_s, bA_n, bV_s, mq_s, mq_n, en_le, bl_0, bl_1, u_eq, u_ne, w_eq, w_ne, v_eq, v_ne, ↓hp_cc_26, ↓hp_g_26_0, ↓hp_p_26_0, ↓hp_g_26_1, ↓hp_p_26_1, ↓hp_g_26_2, ↓hp_p_26_2, ↓hp_g_26_3, ↓hp_g_26_4, ↓hp_g_26_5, ↓hp_g_26_6, ↓hp_g_26_7, ↓hp_g_26_8, ↓hp_g_26_9, ↓hp_g_26_10, ↓hp_g_26_11, ↓hp_g_26_12, ↓hp_g_26_13, ↓hp_g_26_14, ↓hp_g_26_15, ↓hp_p_26_15, ↓hp_g_26_16, ↓hp_g_26_17, ↓hp_g_26_18, ↓hp_p_26_18, ↓hp_g_26_19, ↓hp_p_26_19, ↓hp_g_26_20, ↓hp_g_26_21, ↓hp_p_26_21, ↓hp_g_26_22, ↓hp_g_26_23, ↓hp_g_26_24, ↓hp_g_26_25, ↓hp_g_26_26, ↓hp_g_26_27, ↓hp_g_26_28, ↓hp_g_26_29, ↓hp_g_26_30, ↓hp_p_26_30, ↓hp_g_26_31, ↓hp_g_26_32, ↓hp_p_26_32, ↓hp_a_27, ↓hp_s_27, ↓hp_l_27, ↓hp_a_28, ↓hp_s_28, ↓hp_l_28, ↓hp_a_29, ↓hp_s_29, ↓hp_l_29, ↓hp_a_30, ↓hp_s_30, ↓hp_l_30, ↓hp_a_31, ↓hp_s_31, ↓hp_l_31, ↓hp_a_32, ↓hp_s_32, ↓hp_l_32, ↓hp_a_33, ↓hp_s_33, ↓hp_l_33, ↓hp_a_34, ↓hp_s_34, ↓hp_l_34, ↓hp_a_35, ↓hp_s_35, ↓hp_l_35, ↓hp_a_36, ↓hp_s_36, ↓hp_l_36, ↓hp_a_37, ↓hp_s_37, ↓hp_l_37, ↓hp_a_38, ↓hp_s_38, ↓hp_l_38, ↓hp_a_39, ↓hp_s_39, ↓hp_a_40, ↓hp_s_40, ↓hp_a_41, ↓hp_s_41, ↓hp_l_41, ↓hp_a_42, ↓hp_s_42, ↓hp_l_42, ↓hp_a_43, ↓hp_s_43, ↓hp_l_43, ↓hp_a_44, ↓hp_s_44, ↓hp_l_44, ↓hp_a_45, ↓hp_s_45, ↓hp_l_45, ↓hp_a_46, ↓hp_s_46, ↓hp_l_46, ↓hp_a_47, ↓hp_s_47, ↓hp_l_47, ↓hp_a_48, ↓hp_s_48, ↓hp_l_48, ↓hp_a_49, ↓hp_s_49, ↓hp_l_49, ↓hp_a_50, ↓hp_s_50, ↓hp_l_50, hap, e_X12_in]
theorem mc_follows (hS : OK5 S) {r m i : Int} (hr : i32 r) (hm : i32 m) (hi : i32 i) : MC S S (p_follows S r m i) (fun z => f_X12_follows sc (n + 40) 26 (iO r) (iO m) (iO i) z) := by
  intro XI XA XP XC MI MA ML D hV hP
  have hap := m_arePoints (sc := sc) (n := n + 35) (XI := XI) (XA := XA) (XP := XP) (XC := XC) (ML := ML) (D := D) hV hS hr hm
  have h8 := hS.1
  have h10 := hS.2.1
  obtain ⟨i1, i2⟩ := id hi
  unfold p_follows
  cases hq : ptq S r m with
  | none =>
    rw [hq, Option.isSome_none, if_neg Bool.false_ne_true] at hap
    refine ⟨MI, MA, ML, ?_, hV, hP⟩
    show f_X12_follows sc (n + 40) 26 (iO r) (iO m) (iO i) _ = _
    rw [e_X12_follows]
    clear hV
    simp (disch := (first | assumption | (unfold i32; omega) | (unfold i64; omega) | omega)) only [↓reduceIte, ki_0, ki_1, ki_2, ki_3, ki_4, ki_5, ki_6, ki_7, ki_8, ki_9, ki_10, ki_11, ki_12, ki_13, ki_14, ki_15, ki_20, ki_21, ki_30, ki_31, ki_40, ki_41, ki_50, ki_51, ki_60, ki_63, ki_64, ki_65, ki_100, ki_158, ki_160, ki_200, ki_212, ki_1000, ki_2000, ki_2001, ki_5000, ki_10000, ki_10001, ki_100000, ki_200000, ki_1000000, ki_2000000, ki_3000000, iO_neg, iO_add, iO_sub, iO_mul, kn_4, kn_8, kn_10, kn_20, kn_24, kn_40, kn_41, kn_50, kn_60, kn_158, kn_160, kn_200, kn_212, kn_2001, tn_lt, fn_lt, tn_le, fn_le, tn_eq, fn_eq, x_lt, x_le, x_eq, x_ix, x_nat, t_lt, f_lt, t_le, f_le, t_eq, f_eq, eq_self, and_self, true_and, and_true, false_and, and_false, if_true, if_false, Int.toNat_natCast, bI_s, bL_s, bA_s, bA_n, bV_s, mq_s, mq_n, en_le, bl_0, bl_1, u_eq, u_ne, w_eq, w_ne, v_eq, v_ne, ↓hp_cc_26, ↓hp_g_26_0, ↓hp_p_26_0, ↓hp_g_26_1, ↓hp_p_26_1, ↓hp_g_26_2, ↓hp_p_26_2, ↓hp_g_26_3, ↓hp_g_26_4, ↓hp_g_26_5, ↓hp_g_26_6, ↓hp_g_26_7, ↓hp_g_26_8, ↓hp_g_26_9, ↓hp_g_26_10, ↓hp_g_26_11, ↓hp_g_26_12, ↓hp_g_26_13, ↓hp_g_26_14, ↓hp_g_26_15, ↓hp_p_26_15, ↓hp_g_26_16, ↓hp_g_26_17, ↓hp_g_26_18, ↓hp_p_26_18, ↓hp_g_26_19, ↓hp_p_26_19, ↓hp_g_26_20, ↓hp_g_26_21, ↓hp_p_26_21, ↓hp_g_26_22, ↓hp_g_26_23, ↓hp_g_26_24, ↓hp_g_26_25, ↓hp_g_26_26, ↓hp_g_26_27, ↓hp_g_26_28, ↓hp_g_26_29, ↓hp_g_26_30, ↓hp_p_26_30, ↓hp_g_26_31, ↓hp_g_26_32, ↓hp_p_26_32, ↓hp_a_27, ↓hp_s_27, ↓hp_l_27, ↓hp_a_28, ↓hp_s_28, ↓hp_l_28, ↓hp_a_29, ↓hp_s_29, ↓hp_l_29, ↓hp_a_30, ↓hp_s_30, ↓hp_l_30, ↓hp_a_31, ↓hp_s_31, ↓hp_l_31, ↓hp_a_32, ↓hp_s_32, ↓hp_l_32, ↓hp_a_33, ↓hp_s_33, ↓hp_l_33, ↓hp_a_34, ↓hp_s_34, ↓hp_l_34, ↓hp_a_35, ↓hp_s_35, ↓hp_l_35, ↓hp_a_36, ↓hp_s_36, ↓hp_l_36, ↓hp_a_37, ↓hp_s_37, ↓hp_l_37, ↓hp_a_38, ↓hp_s_38, ↓hp_l_38, ↓hp_a_39, ↓hp_s_39, ↓hp_a_40, ↓hp_s_40, ↓hp_a_41, ↓hp_s_41, ↓hp_l_41, ↓hp_a_42, ↓hp_s_42, ↓hp_l_42, ↓hp_a_43, ↓hp_s_43, ↓hp_l_43, ↓hp_a_44, ↓hp_s_44, ↓hp_l_44, ↓hp_a_45, ↓hp_s_45, ↓hp_l_45, ↓hp_a_46, ↓hp_s_46, ↓hp_l_46, ↓hp_a_47, ↓hp_s_47, ↓hp_l_47, ↓hp_a_48, ↓hp_s_48, ↓hp_l_48, ↓hp_a_49, ↓hp_s_49, ↓hp_l_49, ↓hp_a_50, ↓hp_s_50, ↓hp_l_50, hap]
  | some l =>
    rw [hq, Option.isSome_some, if_pos rfl] at hap
    obtain ⟨q, q1, q2, q3, q4, q5, q6⟩ := ptq_some hq
    obtain ⟨k, rfl, hk, hq2⟩ := rowq_some q1
    obtain ⟨c1, c2, c3, c4⟩ := hV.2.2.2.2.2.1 k q hq2
    have hR := hS.2.2.2.1 q (List.mem_of_getElem? hq2)
    have hs0 : 0 ≤ q.2.1 := (hR.2.2.2.2.2.2.1 q2).2
    have hs1 : q.2.1 < S.1.length := hR.2.2.2.1
    obtain ⟨s, hs⟩ : ∃ s : Nat, q.2.1 = s := ⟨q.2.1.toNat, by omega⟩
    have hss : q.2.1.toNat = s := by omega
    rw [hs] at c3
    rw [hss] at q5
    obtain ⟨y, rfl⟩ : ∃ y : Nat, m = y := ⟨m.toNat, by omega⟩
    dsimp only
    rw [Int.toNat_natCast]
    have hSL := hS.2.2.1 l (List.mem_of_getElem? q5)
    by_cases gi : 0 ≤ i ∧ i < (y : Int)
    · rw [if_pos gi]
      obtain ⟨gi1, gi2⟩ := gi
      obtain ⟨v, rfl⟩ : ∃ v : Nat, i = v := ⟨i.toNat, by omega⟩
      rw [Int.toNat_natCast]
      obtain ⟨MA1, f1, f2, f3, f4⟩ := m_rings (sc := sc) (d := n + 34) (XI := XI) (XA := XA) (XP := XP) (XC := XC) (MI := MI) (ML := ML) (D := D) (n := y) (by omega) hSL (by omega) y 0 MA (by omega) (hV.2.2.2.2.1 s l q5) (fun t ht => by omega) (fun t ht => by omega)
      have f1' : f_X12_rings sc (n + 39) 26 (iO (s : Int)) (iO (y : Int)) (hp XI XA XP XC MI MA ML D) = some (none, hp XI XA XP XC MI MA1 ML D) := (e_X12_rings _ _ _ _ _ _).trans f1
      have hfo := m_follows3 (sc := sc) (d := n + 39) (XI := XI) (XA := XA) (XP := XP) (XC := XC) (ML := ML) (D := D) (MI := MI) (l := l) (n := y) (by omega) f4 (a := v) (by omega) (inv (ords l y) v y) 0 (by omega)
      have hfo : b_X12_follows_3 sc (n + 39) 26 (iO (y : Int)) (iO (v : Int)) (iO 0) (hp XI XA XP XC MI MA1 ML D) = _ := hfo
      refine ⟨MI, MA1, ML, ?_, hV.scr (fun _ _ => rfl) (fun i hi => f2 i (by omega) (by omega)), pv_of hP rfl (f2 21 (by decide) (by decide))⟩
      show f_X12_follows sc (n + 40) 26 (iO (k : Int)) (iO (y : Int)) (iO (v : Int)) _ = _
      rw [e_X12_follows]
      clear hV c4 f1 f2 f3 f4 hR
      simp (disch := (first | assumption | (unfold i32; omega) | (unfold i64; omega) | omega)) only [↓reduceIte, ki_0, ki_1, ki_2, ki_3, ki_4, ki_5, ki_6, ki_7, ki_8, ki_9, ki_10, ki_11, ki_12, ki_13, ki_14, ki_15, ki_20, ki_21, ki_30, ki_31, ki_40, ki_41, ki_50, ki_51, ki_60, ki_63, ki_64, ki_65, ki_100, ki_158, ki_160, ki_200, ki_212, ki_1000, ki_2000, ki_2001, ki_5000, ki_10000, ki_10001, ki_100000, ki_200000, ki_1000000, ki_2000000, ki_3000000, iO_neg, iO_add, iO_sub, iO_mul, kn_4, kn_8, kn_10, kn_20, kn_24, kn_40, kn_41, kn_50, kn_60, kn_158, kn_160, kn_200, kn_212, kn_2001, tn_lt, fn_lt, tn_le, fn_le, tn_eq, fn_eq, x_lt, x_le, x_eq, x_ix, x_nat, t_lt, f_lt, t_le, f_le, t_eq, f_eq, eq_self, and_self, true_and, and_true, false_and, and_false, if_true, if_false, Int.toNat_natCast, bI_s, bL_s, bA_s, bA_n, bV_s, mq_s, mq_n, en_le, bl_0, bl_1, u_eq, u_ne, w_eq, w_ne, v_eq, v_ne, ↓hp_cc_26, ↓hp_g_26_0, ↓hp_p_26_0, ↓hp_g_26_1, ↓hp_p_26_1, ↓hp_g_26_2, ↓hp_p_26_2, ↓hp_g_26_3, ↓hp_g_26_4, ↓hp_g_26_5, ↓hp_g_26_6, ↓hp_g_26_7, ↓hp_g_26_8, ↓hp_g_26_9, ↓hp_g_26_10, ↓hp_g_26_11, ↓hp_g_26_12, ↓hp_g_26_13, ↓hp_g_26_14, ↓hp_g_26_15, ↓hp_p_26_15, ↓hp_g_26_16, ↓hp_g_26_17, ↓hp_g_26_18, ↓hp_p_26_18, ↓hp_g_26_19, ↓hp_p_26_19, ↓hp_g_26_20, ↓hp_g_26_21, ↓hp_p_26_21, ↓hp_g_26_22, ↓hp_g_26_23, ↓hp_g_26_24, ↓hp_g_26_25, ↓hp_g_26_26, ↓hp_g_26_27, ↓hp_g_26_28, ↓hp_g_26_29, ↓hp_g_26_30, ↓hp_p_26_30, ↓hp_g_26_31, ↓hp_g_26_32, ↓hp_p_26_32, ↓hp_a_27, ↓hp_s_27, ↓hp_l_27, ↓hp_a_28, ↓hp_s_28, ↓hp_l_28, ↓hp_a_29, ↓hp_s_29, ↓hp_l_29, ↓hp_a_30, ↓hp_s_30, ↓hp_l_30, ↓hp_a_31, ↓hp_s_31, ↓hp_l_31, ↓hp_a_32, ↓hp_s_32, ↓hp_l_32, ↓hp_a_33, ↓hp_s_33, ↓hp_l_33, ↓hp_a_34, ↓hp_s_34, ↓hp_l_34, ↓hp_a_35, ↓hp_s_35, ↓hp_l_35, ↓hp_a_36, ↓hp_s_36, ↓hp_l_36, ↓hp_a_37, ↓hp_s_37, ↓hp_l_37, ↓hp_a_38, ↓hp_s_38, ↓hp_l_38, ↓hp_a_39, ↓hp_s_39, ↓hp_a_40, ↓hp_s_40, ↓hp_a_41, ↓hp_s_41, ↓hp_l_41, ↓hp_a_42, ↓hp_s_42, ↓hp_l_42, ↓hp_a_43, ↓hp_s_43, ↓hp_l_43, ↓hp_a_44, ↓hp_s_44, ↓hp_l_44, ↓hp_a_45, ↓hp_s_45, ↓hp_l_45, ↓hp_a_46, ↓hp_s_46, ↓hp_l_46, ↓hp_a_47, ↓hp_s_47, ↓hp_l_47, ↓hp_a_48, ↓hp_s_48, ↓hp_l_48, ↓hp_a_49, ↓hp_s_49, ↓hp_l_49, ↓hp_a_50, ↓hp_s_50, ↓hp_l_50, hap, e_X12_in, c3, f1', hfo]
    · rw [if_neg gi]
      refine ⟨MI, MA, ML, ?_, hV, hP⟩
      show f_X12_follows sc (n + 40) 26 (iO (k : Int)) (iO (y : Int)) (iO i) _ = _
      rw [e_X12_follows]
      clear hV c4 hR
      by_cases t1 : i < 0
      · clear gi; simp (disch := (first | assumption | (unfold i32; omega) | (unfold i64; omega) | omega)) only [↓reduceIte, ki_0, ki_1, ki_2, ki_3, ki_4, ki_5, ki_6, ki_7, ki_8, ki_9, ki_10, ki_11, ki_12, ki_13, ki_14, ki_15, ki_20, ki_21, ki_30, ki_31, ki_40, ki_41, ki_50, ki_51, ki_60, ki_63, ki_64, ki_65, ki_100, ki_158, ki_160, ki_200, ki_212, ki_1000, ki_2000, ki_2001, ki_5000, ki_10000, ki_10001, ki_100000, ki_200000, ki_1000000, ki_2000000, ki_3000000, iO_neg, iO_add, iO_sub, iO_mul, kn_4, kn_8, kn_10, kn_20, kn_24, kn_40, kn_41, kn_50, kn_60, kn_158, kn_160, kn_200, kn_212, kn_2001, tn_lt, fn_lt, tn_le, fn_le, tn_eq, fn_eq, x_lt, x_le, x_eq, x_ix, x_nat, t_lt, f_lt, t_le, f_le, t_eq, f_eq, eq_self, and_self, true_and, and_true, false_and, and_false, if_true, if_false, Int.toNat_natCast, bI_s, bL_s, bA_s, bA_n, bV_s, mq_s, mq_n, en_le, bl_0, bl_1, u_eq, u_ne, w_eq, w_ne, v_eq, v_ne, ↓hp_cc_26, ↓hp_g_26_0, ↓hp_p_26_0, ↓hp_g_26_1, ↓hp_p_26_1, ↓hp_g_26_2, ↓hp_p_26_2, ↓hp_g_26_3, ↓hp_g_26_4, ↓hp_g_26_5, ↓hp_g_26_6, ↓hp_g_26_7, ↓hp_g_26_8, ↓hp_g_26_9, ↓hp_g_26_10, ↓hp_g_26_11, ↓hp_g_26_12, ↓hp_g_26_13, ↓hp_g_26_14, ↓hp_g_26_15, ↓hp_p_26_15, ↓hp_g_26_16, ↓hp_g_26_17, ↓hp_g_26_18, ↓hp_p_26_18, ↓hp_g_26_19, ↓hp_p_26_19, ↓hp_g_26_20, ↓hp_g_26_21, ↓hp_p_26_21, ↓hp_g_26_22, ↓hp_g_26_23, ↓hp_g_26_24, ↓hp_g_26_25, ↓hp_g_26_26, ↓hp_g_26_27, ↓hp_g_26_28, ↓hp_g_26_29, ↓hp_g_26_30, ↓hp_p_26_30, ↓hp_g_26_31, ↓hp_g_26_32, ↓hp_p_26_32, ↓hp_a_27, ↓hp_s_27, ↓hp_l_27, ↓hp_a_28, ↓hp_s_28, ↓hp_l_28, ↓hp_a_29, ↓hp_s_29, ↓hp_l_29, ↓hp_a_30, ↓hp_s_30, ↓hp_l_30, ↓hp_a_31, ↓hp_s_31, ↓hp_l_31, ↓hp_a_32, ↓hp_s_32, ↓hp_l_32, ↓hp_a_33, ↓hp_s_33, ↓hp_l_33, ↓hp_a_34, ↓hp_s_34, ↓hp_l_34, ↓hp_a_35, ↓hp_s_35, ↓hp_l_35, ↓hp_a_36, ↓hp_s_36, ↓hp_l_36, ↓hp_a_37, ↓hp_s_37, ↓hp_l_37, ↓hp_a_38, ↓hp_s_38, ↓hp_l_38, ↓hp_a_39, ↓hp_s_39, ↓hp_a_40, ↓hp_s_40, ↓hp_a_41, ↓hp_s_41, ↓hp_l_41, ↓hp_a_42, ↓hp_s_42, ↓hp_l_42, ↓hp_a_43, ↓hp_s_43, ↓hp_l_43, ↓hp_a_44, ↓hp_s_44, ↓hp_l_44, ↓hp_a_45, ↓hp_s_45, ↓hp_l_45, ↓hp_a_46, ↓hp_s_46, ↓hp_l_46, ↓hp_a_47, ↓hp_s_47, ↓hp_l_47, ↓hp_a_48, ↓hp_s_48, ↓hp_l_48, ↓hp_a_49, ↓hp_s_49, ↓hp_l_49, ↓hp_a_50, ↓hp_s_50, ↓hp_l_50, hap, e_X12_in]
      · have t2 : (y : Int) ≤ i := by omega
        clear gi; simp (disch := (first | assumption | (unfold i32; omega) | (unfold i64; omega) | omega)) only [↓reduceIte, ki_0, ki_1, ki_2, ki_3, ki_4, ki_5, ki_6, ki_7, ki_8, ki_9, ki_10, ki_11, ki_12, ki_13, ki_14, ki_15, ki_20, ki_21, ki_30, ki_31, ki_40, ki_41, ki_50, ki_51, ki_60, ki_63, ki_64, ki_65, ki_100, ki_158, ki_160, ki_200, ki_212, ki_1000, ki_2000, ki_2001, ki_5000, ki_10000, ki_10001, ki_100000, ki_200000, ki_1000000, ki_2000000, ki_3000000, iO_neg, iO_add, iO_sub, iO_mul, kn_4, kn_8, kn_10, kn_20, kn_24, kn_40, kn_41, kn_50, kn_60, kn_158, kn_160, kn_200, kn_212, kn_2001, tn_lt, fn_lt, tn_le, fn_le, tn_eq, fn_eq, x_lt, x_le, x_eq, x_ix, x_nat, t_lt, f_lt, t_le, f_le, t_eq, f_eq, eq_self, and_self, true_and, and_true, false_and, and_false, if_true, if_false, Int.toNat_natCast, bI_s, bL_s, bA_s, bA_n, bV_s, mq_s, mq_n, en_le, bl_0, bl_1, u_eq, u_ne, w_eq, w_ne, v_eq, v_ne, ↓hp_cc_26, ↓hp_g_26_0, ↓hp_p_26_0, ↓hp_g_26_1, ↓hp_p_26_1, ↓hp_g_26_2, ↓hp_p_26_2, ↓hp_g_26_3, ↓hp_g_26_4, ↓hp_g_26_5, ↓hp_g_26_6, ↓hp_g_26_7, ↓hp_g_26_8, ↓hp_g_26_9, ↓hp_g_26_10, ↓hp_g_26_11, ↓hp_g_26_12, ↓hp_g_26_13, ↓hp_g_26_14, ↓hp_g_26_15, ↓hp_p_26_15, ↓hp_g_26_16, ↓hp_g_26_17, ↓hp_g_26_18, ↓hp_p_26_18, ↓hp_g_26_19, ↓hp_p_26_19, ↓hp_g_26_20, ↓hp_g_26_21, ↓hp_p_26_21, ↓hp_g_26_22, ↓hp_g_26_23, ↓hp_g_26_24, ↓hp_g_26_25, ↓hp_g_26_26, ↓hp_g_26_27, ↓hp_g_26_28, ↓hp_g_26_29, ↓hp_g_26_30, ↓hp_p_26_30, ↓hp_g_26_31, ↓hp_g_26_32, ↓hp_p_26_32, ↓hp_a_27, ↓hp_s_27, ↓hp_l_27, ↓hp_a_28, ↓hp_s_28, ↓hp_l_28, ↓hp_a_29, ↓hp_s_29, ↓hp_l_29, ↓hp_a_30, ↓hp_s_30, ↓hp_l_30, ↓hp_a_31, ↓hp_s_31, ↓hp_l_31, ↓hp_a_32, ↓hp_s_32, ↓hp_l_32, ↓hp_a_33, ↓hp_s_33, ↓hp_l_33, ↓hp_a_34, ↓hp_s_34, ↓hp_l_34, ↓hp_a_35, ↓hp_s_35, ↓hp_l_35, ↓hp_a_36, ↓hp_s_36, ↓hp_l_36, ↓hp_a_37, ↓hp_s_37, ↓hp_l_37, ↓hp_a_38, ↓hp_s_38, ↓hp_l_38, ↓hp_a_39, ↓hp_s_39, ↓hp_a_40, ↓hp_s_40, ↓hp_a_41, ↓hp_s_41, ↓hp_l_41, ↓hp_a_42, ↓hp_s_42, ↓hp_l_42, ↓hp_a_43, ↓hp_s_43, ↓hp_l_43, ↓hp_a_44, ↓hp_s_44, ↓hp_l_44, ↓hp_a_45, ↓hp_s_45, ↓hp_l_45, ↓hp_a_46, ↓hp_s_46, ↓hp_l_46, ↓hp_a_47, ↓hp_s_47, ↓hp_l_47, ↓hp_a_48, ↓hp_s_48, ↓hp_l_48, ↓hp_a_49, ↓hp_s_49, ↓hp_l_49, ↓hp_a_50, ↓hp_s_50, ↓hp_l_50, hap, e_X12_in]
theorem x_layPoints (hS : OK5 S) {r m : Int} (hr : i32 r) (hm : i32 m) (XI : Nat → Int32) (XA : Nat → Nat → Int32) (XP : Nat → Nat → Option Nat) (XC : Value) (MI : Nat → Int32) (MA : Nat → Nat → Int32) (ML : Nat → Nat → Int64) (D : en_H) (Γ : Nat → Option GD) (hV : CV S Γ XI XA XP D) :
    (ptq S r m = none → f_X11_layPoints sc (n + 39) 1 (iO r) (iO m) (hp XI XA XP XC MI MA ML D) = some (some (.int (iO 0)), hp XI XA XP XC MI MA ML D)) ∧ (∀ l, ptq S r m = some l → ∃ XI' XA' XC', f_X11_layPoints sc (n + 39) 1 (iO r) (iO m) (hp XI XA XP XC MI MA ML D) = some (some (.int (iO 1)), hp XI' XA' XP XC' MI MA ML D) ∧ CV S Γ XI' XA' XP D ∧ GX (gsts l m.toNat) XI' XA' ∧ (∀ a, a < m.toNat → XA' 2 a = iO (nxt (ords l m.toNat) m.toNat a : Int))) := by
  obtain ⟨m1, m2⟩ := id hm
  have h8 := hS.1
  by_cases g0 : 1 ≤ m ∧ m ≤ 60
  · obtain ⟨g1, g2⟩ := g0
    cases hq : rowq S r with
    | none =>
      have hrow := x_rowAt0 (sc := sc) (n := n + 37) (XC := XC) (MI := MI) (MA := MA) (ML := ML) hV hS hr hq
      have hno : ptq S r m = none := by unfold ptq; rw [hq]
      refine ⟨fun _ => ?_, fun l h => by rw [hno] at h; cases h⟩
      rw [e_X11_layPoints]
      clear hV
      simp (disch := (first | assumption | (unfold i32; omega) | (unfold i64; omega) | omega)) only [↓reduceIte, ki_0, ki_1, ki_2, ki_3, ki_4, ki_5, ki_6, ki_7, ki_8, ki_9, ki_10, ki_11, ki_12, ki_13, ki_14, ki_15, ki_20, ki_21, ki_30, ki_31, ki_40, ki_41, ki_50, ki_51, ki_60, ki_63, ki_64, ki_65, ki_100, ki_158, ki_160, ki_200, ki_212, ki_1000, ki_2000, ki_2001, ki_5000, ki_10000, ki_10001, ki_100000, ki_200000, ki_1000000, ki_2000000, ki_3000000, iO_neg, iO_add, iO_sub, iO_mul, kn_4, kn_8, kn_10, kn_20, kn_24, kn_40, kn_41, kn_50, kn_60, kn_158, kn_160, kn_200, kn_212, kn_2001, tn_lt, fn_lt, tn_le, fn_le, tn_eq, fn_eq, x_lt, x_le, x_eq, x_ix, x_nat, t_lt, f_lt, t_le, f_le, t_eq, f_eq, eq_self, and_self, true_and, and_true, false_and, and_false, if_true, if_false, Int.toNat_natCast, bI_s, bL_s, bA_s, bA_n, bV_s, mq_s, mq_n, en_le, bl_0, bl_1, u_eq, u_ne, w_eq, w_ne, v_eq, v_ne, ↓hp_cc_1, ↓hp_g_1_0, ↓hp_g_1_1, ↓hp_g_1_2, ↓hp_g_1_3, ↓hp_g_1_4, ↓hp_g_1_5, ↓hp_g_1_6, ↓hp_g_1_7, ↓hp_g_1_8, ↓hp_p_1_8, ↓hp_g_1_9, ↓hp_p_1_9, ↓hp_g_1_10, ↓hp_p_1_10, ↓hp_a_2, ↓hp_n_2, ↓hp_a_3, ↓hp_n_3, ↓hp_a_4, hrow]
    | some q =>
      obtain ⟨k, rfl, hk, hq2⟩ := rowq_some hq
      have hR := hS.2.2.2.1 q (List.mem_of_getElem? hq2)
      obtain ⟨p, g, c1, c2, c3, c4, c5, c6, c7, c8, c9⟩ := hV.2.2.2.2.2.1 k q hq2
      have hrow := x_rowAt1 (sc := sc) (n := n + 37) (XC := XC) (MI := MI) (MA := MA) (ML := ML) hV hS hq2 c1
      have hrc := (hV.2.2.2.2.2.2.2.2 p g c2).2.2.2
      obtain ⟨h1, fs, h2⟩ := rc_cls hrc
      have hio : ∀ f0 f1 : Option en_R, en_io (hp XI XA XP XC MI MA ML D) (p + 51) [(1, 0), (2, 0), (3, 1), (4, 0), (8, 0)] f0 f1 = if q.1 = 4 then f1 else f0 := by
        intro f0 f1
        rw [d_io h2]
        rw [c3] at h1 ⊢
        rcases h1 with h | h | h | h | h <;> rw [h] <;> rfl
      by_cases g3 : q.1 = 4
      · have hio2 : ∀ f0 f1 : Option en_R, en_io (hp XI XA XP XC MI MA ML D) (p + 51) [(1, 0), (2, 0), (3, 1), (4, 0), (8, 0)] f0 f1 = f1 := fun f0 f1 => (hio f0 f1).trans (if_pos g3)
        have hl := c9 (Or.inr g3)
        rcases hrc with ⟨r0, -⟩ | ⟨r0, sp, u, v, r1, r2, r3, r4, r5, r6, r7, r8, r9, r10⟩ | ⟨r0, -⟩
        · omega
        · rw [c3, g3] at r1
          have r1 : en_nt D p = some (.inr (3, [.int (iO (g.2.1 : Nat)), .int (iO g.2.2.1), .ref (sp + 51), .int (iO g.2.2.2.1), .int (iO u), .int (iO v)])) := r1
          have hvt : ∀ f : Nat → Option en_R, en_vt (hp XI XA XP XC MI MA ML D) (p + 51) [(3, 1)] f = f 1 := fun f => by rw [d_vt r1]; rfl
          have g2' : ∀ (f0 : Option en_R) (f : Nat → Option en_R), en_gA (hp XI XA XP XC MI MA ML D) (p + 51) [(3, 0)] 2 f0 f = f (sp + 51) := fun f0 f => d_gA r1 rfl rfl f0 f
          obtain ⟨a, b, c, e, t, qs, ls, k1, k2, k3, hC, hE, hD, k4, k5, -⟩ := id r2
          have gc : ∀ (g : Nat → Option en_R), en_cc (hp XI XA XP XC MI MA ML D) (sp + 51) g = g 6 := fun g => d_cc k1 g
          have gb : ∀ (f : Int64 → Option en_R), en_gL (hp XI XA XP XC MI MA ML D) (sp + 51) [(6, 0)] 5 f = f (lO b) := fun f => d_gL k1 rfl rfl f
          have gcc : ∀ (f : Int64 → Option en_R), en_gL (hp XI XA XP XC MI MA ML D) (sp + 51) [(6, 0)] 6 f = f (lO c) := fun f => d_gL k1 rfl rfl f
          obtain ⟨x1, x2, x3, x4, x5, x6, x7, x8, -⟩ := id hC
          have hb0 : b = 0 ↔ g.2.2.2.2.2.2.2.1 = 0 := (hE.zero).symm
          have hun : f_X7_hasUnlikePoints sc (n + 38) (sp + 51) (iO m) (hp XI XA XP XC MI MA ML D) = some (some (.int (iO (if g.2.2.2.2.2.2.2.1 ≠ 0 ∨ m ≤ g.2.2.2.2.2.2.2.2.1 / (Int.gcd g.2.2.2.2.2.2.1 g.2.2.2.2.2.2.2.2.1 : Nat) then 1 else 0))), hp XI XA XP XC MI MA ML D) := by
            rw [e_X7_hasUnlikePoints]
            by_cases y1 : b = 0
            · rw [← k5 y1]
              by_cases y2 : m ≤ c
              · rw [if_pos (Or.inr y2)]
                simp (disch := (first | assumption | (unfold i32; omega) | (unfold i64; omega) | omega)) only [↓reduceIte, ki_0, ki_1, ki_2, ki_3, ki_4, ki_5, ki_6, ki_7, ki_8, ki_9, ki_10, ki_11, ki_12, ki_13, ki_14, ki_15, ki_20, ki_21, ki_30, ki_31, ki_40, ki_41, ki_50, ki_51, ki_60, ki_63, ki_64, ki_65, ki_100, ki_158, ki_160, ki_200, ki_212, ki_1000, ki_2000, ki_2001, ki_5000, ki_10000, ki_10001, ki_100000, ki_200000, ki_1000000, ki_2000000, ki_3000000, iO_neg, iO_add, iO_sub, iO_mul, kn_4, kn_8, kn_10, kn_20, kn_24, kn_40, kn_41, kn_50, kn_60, kn_158, kn_160, kn_200, kn_212, kn_2001, tn_lt, fn_lt, tn_le, fn_le, tn_eq, fn_eq, x_lt, x_le, x_eq, x_ix, x_nat, t_lt, f_lt, t_le, f_le, t_eq, f_eq, eq_self, and_self, true_and, and_true, false_and, and_false, if_true, if_false, Int.toNat_natCast, bI_s, bL_s, bA_s, bA_n, bV_s, mq_s, mq_n, en_le, bl_0, bl_1, u_eq, u_ne, w_eq, w_ne, v_eq, v_ne, gb, gcc, kl_0, lc_lt, lc_le, lc_gt, lc_ge, lc_eq, y_lt, y_le, y_eq, iO_wide]
              · rw [if_neg (by have := hb0.mp y1; omega)]
                simp (disch := (first | assumption | (unfold i32; omega) | (unfold i64; omega) | omega)) only [↓reduceIte, ki_0, ki_1, ki_2, ki_3, ki_4, ki_5, ki_6, ki_7, ki_8, ki_9, ki_10, ki_11, ki_12, ki_13, ki_14, ki_15, ki_20, ki_21, ki_30, ki_31, ki_40, ki_41, ki_50, ki_51, ki_60, ki_63, ki_64, ki_65, ki_100, ki_158, ki_160, ki_200, ki_212, ki_1000, ki_2000, ki_2001, ki_5000, ki_10000, ki_10001, ki_100000, ki_200000, ki_1000000, ki_2000000, ki_3000000, iO_neg, iO_add, iO_sub, iO_mul, kn_4, kn_8, kn_10, kn_20, kn_24, kn_40, kn_41, kn_50, kn_60, kn_158, kn_160, kn_200, kn_212, kn_2001, tn_lt, fn_lt, tn_le, fn_le, tn_eq, fn_eq, x_lt, x_le, x_eq, x_ix, x_nat, t_lt, f_lt, t_le, f_le, t_eq, f_eq, eq_self, and_self, true_and, and_true, false_and, and_false, if_true, if_false, Int.toNat_natCast, bI_s, bL_s, bA_s, bA_n, bV_s, mq_s, mq_n, en_le, bl_0, bl_1, u_eq, u_ne, w_eq, w_ne, v_eq, v_ne, gb, gcc, kl_0, lc_lt, lc_le, lc_gt, lc_ge, lc_eq, y_lt, y_le, y_eq, iO_wide]
            · rw [if_pos (Or.inl (fun q => y1 (hb0.mpr q)))]
              simp (disch := (first | assumption | (unfold i32; omega) | (unfold i64; omega) | omega)) only [↓reduceIte, ki_0, ki_1, ki_2, ki_3, ki_4, ki_5, ki_6, ki_7, ki_8, ki_9, ki_10, ki_11, ki_12, ki_13, ki_14, ki_15, ki_20, ki_21, ki_30, ki_31, ki_40, ki_41, ki_50, ki_51, ki_60, ki_63, ki_64, ki_65, ki_100, ki_158, ki_160, ki_200, ki_212, ki_1000, ki_2000, ki_2001, ki_5000, ki_10000, ki_10001, ki_100000, ki_200000, ki_1000000, ki_2000000, ki_3000000, iO_neg, iO_add, iO_sub, iO_mul, kn_4, kn_8, kn_10, kn_20, kn_24, kn_40, kn_41, kn_50, kn_60, kn_158, kn_160, kn_200, kn_212, kn_2001, tn_lt, fn_lt, tn_le, fn_le, tn_eq, fn_eq, x_lt, x_le, x_eq, x_ix, x_nat, t_lt, f_lt, t_le, f_le, t_eq, f_eq, eq_self, and_self, true_and, and_true, false_and, and_false, if_true, if_false, Int.toNat_natCast, bI_s, bL_s, bA_s, bA_n, bV_s, mq_s, mq_n, en_le, bl_0, bl_1, u_eq, u_ne, w_eq, w_ne, v_eq, v_ne, gb, kl_0, lc_lt, lc_le, lc_gt, lc_ge, lc_eq, y_lt, y_le, y_eq]
          have hpt : ptq S (k : Int) m = if g.2.2.2.2.2.2.2.1 ≠ 0 ∨ m ≤ g.2.2.2.2.2.2.2.2.1 / (Int.gcd g.2.2.2.2.2.2.1 g.2.2.2.2.2.2.2.2.1 : Nat) then some g.2.2.2.2.2.2 else none := by
            unfold ptq
            rw [hq]
            dsimp only
            rw [if_pos ⟨g3, g1, g2⟩, hl]
          obtain ⟨y, rfl⟩ : ∃ y : Nat, m = y := ⟨m.toNat, by omega⟩
          by_cases yy : g.2.2.2.2.2.2.2.1 ≠ 0 ∨ (y : Int) ≤ g.2.2.2.2.2.2.2.2.1 / (Int.gcd g.2.2.2.2.2.2.1 g.2.2.2.2.2.2.2.2.1 : Nat)
          · rw [if_pos yy] at hun hpt
            refine ⟨(fun h => by rw [hpt] at h; cases h), fun l h => ?_⟩
            rw [hpt] at h
            cases h
            obtain ⟨XI', XA', f1, f2, f3, f4, f5⟩ := x_lay (sc := sc) (d := n + 32) (XP := XP) (MI := MI) (MA := MA) (ML := ML) r2 r3 (n := y) (by omega) (by omega) XI XA XC
            rw [Int.toNat_natCast]
            refine ⟨XI', XA', .ref (sp + 51), ?_, hV.scr (fun i hi => f4 i (by omega)) (fun i hi => f5 i (by omega)), f2, f3⟩
            rw [e_X11_layPoints]
            clear hV f2 f3 f4 f5 h1 hio yy hpt hb0 k2 k3
            simp (disch := (first | assumption | (unfold i32; omega) | (unfold i64; omega) | omega)) only [↓reduceIte, ki_0, ki_1, ki_2, ki_3, ki_4, ki_5, ki_6, ki_7, ki_8, ki_9, ki_10, ki_11, ki_12, ki_13, ki_14, ki_15, ki_20, ki_21, ki_30, ki_31, ki_40, ki_41, ki_50, ki_51, ki_60, ki_63, ki_64, ki_65, ki_100, ki_158, ki_160, ki_200, ki_212, ki_1000, ki_2000, ki_2001, ki_5000, ki_10000, ki_10001, ki_100000, ki_200000, ki_1000000, ki_2000000, ki_3000000, iO_neg, iO_add, iO_sub, iO_mul, kn_4, kn_8, kn_10, kn_20, kn_24, kn_40, kn_41, kn_50, kn_60, kn_158, kn_160, kn_200, kn_212, kn_2001, tn_lt, fn_lt, tn_le, fn_le, tn_eq, fn_eq, x_lt, x_le, x_eq, x_ix, x_nat, t_lt, f_lt, t_le, f_le, t_eq, f_eq, eq_self, and_self, true_and, and_true, false_and, and_false, if_true, if_false, Int.toNat_natCast, bI_s, bL_s, bA_s, bA_n, bV_s, mq_s, mq_n, en_le, bl_0, bl_1, u_eq, u_ne, w_eq, w_ne, v_eq, v_ne, ↓hp_cc_1, ↓hp_g_1_0, ↓hp_g_1_1, ↓hp_g_1_2, ↓hp_g_1_3, ↓hp_g_1_4, ↓hp_g_1_5, ↓hp_g_1_6, ↓hp_g_1_7, ↓hp_g_1_8, ↓hp_p_1_8, ↓hp_g_1_9, ↓hp_p_1_9, ↓hp_g_1_10, ↓hp_p_1_10, ↓hp_a_2, ↓hp_n_2, ↓hp_a_3, ↓hp_n_3, ↓hp_a_4, ↓hp_cc_9, ↓hp_g_9_0, ↓hp_g_9_1, ↓hp_g_9_2, ↓hp_g_9_3, ↓hp_g_9_4, ↓hp_p_9_4, ↓hp_g_9_5, ↓hp_g_9_6, ↓hp_p_9_7, ↓hp_g_9_7, ↓hp_a_10, ↓hp_s_10, ↓hp_l_10, ↓hp_a_11, ↓hp_s_11, ↓hp_l_11, ↓hp_a_12, ↓hp_s_12, ↓hp_l_12, ↓hp_a_13, ↓hp_s_13, ↓hp_l_13, ↓hp_a_14, ↓hp_s_14, ↓hp_l_14, ↓hp_a_15, ↓hp_s_15, ↓hp_l_15, hrow, hio2, hvt, g2', gc, hun, f1]
          · rw [if_neg yy] at hun hpt
            refine ⟨fun _ => ?_, fun l h => by rw [hpt] at h; cases h⟩
            rw [e_X11_layPoints]
            clear hV h1 hio yy hpt hb0 k2 k3
            simp (disch := (first | assumption | (unfold i32; omega) | (unfold i64; omega) | omega)) only [↓reduceIte, ki_0, ki_1, ki_2, ki_3, ki_4, ki_5, ki_6, ki_7, ki_8, ki_9, ki_10, ki_11, ki_12, ki_13, ki_14, ki_15, ki_20, ki_21, ki_30, ki_31, ki_40, ki_41, ki_50, ki_51, ki_60, ki_63, ki_64, ki_65, ki_100, ki_158, ki_160, ki_200, ki_212, ki_1000, ki_2000, ki_2001, ki_5000, ki_10000, ki_10001, ki_100000, ki_200000, ki_1000000, ki_2000000, ki_3000000, iO_neg, iO_add, iO_sub, iO_mul, kn_4, kn_8, kn_10, kn_20, kn_24, kn_40, kn_41, kn_50, kn_60, kn_158, kn_160, kn_200, kn_212, kn_2001, tn_lt, fn_lt, tn_le, fn_le, tn_eq, fn_eq, x_lt, x_le, x_eq, x_ix, x_nat, t_lt, f_lt, t_le, f_le, t_eq, f_eq, eq_self, and_self, true_and, and_true, false_and, and_false, if_true, if_false, Int.toNat_natCast, bI_s, bL_s, bA_s, bA_n, bV_s, mq_s, mq_n, en_le, bl_0, bl_1, u_eq, u_ne, w_eq, w_ne, v_eq, v_ne, ↓hp_cc_1, ↓hp_g_1_0, ↓hp_g_1_1, ↓hp_g_1_2, ↓hp_g_1_3, ↓hp_g_1_4, ↓hp_g_1_5, ↓hp_g_1_6, ↓hp_g_1_7, ↓hp_g_1_8, ↓hp_p_1_8, ↓hp_g_1_9, ↓hp_p_1_9, ↓hp_g_1_10, ↓hp_p_1_10, ↓hp_a_2, ↓hp_n_2, ↓hp_a_3, ↓hp_n_3, ↓hp_a_4, ↓hp_cc_9, ↓hp_g_9_0, ↓hp_g_9_1, ↓hp_g_9_2, ↓hp_g_9_3, ↓hp_g_9_4, ↓hp_p_9_4, ↓hp_g_9_5, ↓hp_g_9_6, ↓hp_p_9_7, ↓hp_g_9_7, ↓hp_a_10, ↓hp_s_10, ↓hp_l_10, ↓hp_a_11, ↓hp_s_11, ↓hp_l_11, ↓hp_a_12, ↓hp_s_12, ↓hp_l_12, ↓hp_a_13, ↓hp_s_13, ↓hp_l_13, ↓hp_a_14, ↓hp_s_14, ↓hp_l_14, ↓hp_a_15, ↓hp_s_15, ↓hp_l_15, hrow, hio2, hvt, g2', gc, hun]
        · omega
      · have hio2 : ∀ f0 f1 : Option en_R, en_io (hp XI XA XP XC MI MA ML D) (p + 51) [(1, 0), (2, 0), (3, 1), (4, 0), (8, 0)] f0 f1 = f0 := fun f0 f1 => (hio f0 f1).trans (if_neg g3)
        have hno : ptq S (k : Int) m = none := by
          unfold ptq
          rw [hq]
          dsimp only
          rw [if_neg (by omega)]
        refine ⟨fun _ => ?_, fun l h => by rw [hno] at h; cases h⟩
        rw [e_X11_layPoints]
        clear hV hrc h1 hio
        simp (disch := (first | assumption | (unfold i32; omega) | (unfold i64; omega) | omega)) only [↓reduceIte, ki_0, ki_1, ki_2, ki_3, ki_4, ki_5, ki_6, ki_7, ki_8, ki_9, ki_10, ki_11, ki_12, ki_13, ki_14, ki_15, ki_20, ki_21, ki_30, ki_31, ki_40, ki_41, ki_50, ki_51, ki_60, ki_63, ki_64, ki_65, ki_100, ki_158, ki_160, ki_200, ki_212, ki_1000, ki_2000, ki_2001, ki_5000, ki_10000, ki_10001, ki_100000, ki_200000, ki_1000000, ki_2000000, ki_3000000, iO_neg, iO_add, iO_sub, iO_mul, kn_4, kn_8, kn_10, kn_20, kn_24, kn_40, kn_41, kn_50, kn_60, kn_158, kn_160, kn_200, kn_212, kn_2001, tn_lt, fn_lt, tn_le, fn_le, tn_eq, fn_eq, x_lt, x_le, x_eq, x_ix, x_nat, t_lt, f_lt, t_le, f_le, t_eq, f_eq, eq_self, and_self, true_and, and_true, false_and, and_false, if_true, if_false, Int.toNat_natCast, bI_s, bL_s, bA_s, bA_n, bV_s, mq_s, mq_n, en_le, bl_0, bl_1, u_eq, u_ne, w_eq, w_ne, v_eq, v_ne, ↓hp_cc_1, ↓hp_g_1_0, ↓hp_g_1_1, ↓hp_g_1_2, ↓hp_g_1_3, ↓hp_g_1_4, ↓hp_g_1_5, ↓hp_g_1_6, ↓hp_g_1_7, ↓hp_g_1_8, ↓hp_p_1_8, ↓hp_g_1_9, ↓hp_p_1_9, ↓hp_g_1_10, ↓hp_p_1_10, ↓hp_a_2, ↓hp_n_2, ↓hp_a_3, ↓hp_n_3, ↓hp_a_4, hrow, hio2]
  · have hno : ptq S r m = none := by
      unfold ptq
      cases rowq S r with
      | none => rfl
      | some q => dsimp only; rw [if_neg (by omega)]
    refine ⟨fun _ => ?_, fun l h => by rw [hno] at h; cases h⟩
    rw [e_X11_layPoints]
    clear hV hno
    by_cases t1 : m < 1
    · clear g0; simp (disch := (first | assumption | (unfold i32; omega) | (unfold i64; omega) | omega)) only [↓reduceIte, ki_0, ki_1, ki_2, ki_3, ki_4, ki_5, ki_6, ki_7, ki_8, ki_9, ki_10, ki_11, ki_12, ki_13, ki_14, ki_15, ki_20, ki_21, ki_30, ki_31, ki_40, ki_41, ki_50, ki_51, ki_60, ki_63, ki_64, ki_65, ki_100, ki_158, ki_160, ki_200, ki_212, ki_1000, ki_2000, ki_2001, ki_5000, ki_10000, ki_10001, ki_100000, ki_200000, ki_1000000, ki_2000000, ki_3000000, iO_neg, iO_add, iO_sub, iO_mul, kn_4, kn_8, kn_10, kn_20, kn_24, kn_40, kn_41, kn_50, kn_60, kn_158, kn_160, kn_200, kn_212, kn_2001, tn_lt, fn_lt, tn_le, fn_le, tn_eq, fn_eq, x_lt, x_le, x_eq, x_ix, x_nat, t_lt, f_lt, t_le, f_le, t_eq, f_eq, eq_self, and_self, true_and, and_true, false_and, and_false, if_true, if_false, Int.toNat_natCast, bI_s, bL_s, bA_s, bA_n, bV_s, mq_s, mq_n, en_le, bl_0, bl_1, u_eq, u_ne, w_eq, w_ne, v_eq, v_ne]
    · have t2 : 60 < m := by omega
      clear g0; simp (disch := (first | assumption | (unfold i32; omega) | (unfold i64; omega) | omega)) only [↓reduceIte, ki_0, ki_1, ki_2, ki_3, ki_4, ki_5, ki_6, ki_7, ki_8, ki_9, ki_10, ki_11, ki_12, ki_13, ki_14, ki_15, ki_20, ki_21, ki_30, ki_31, ki_40, ki_41, ki_50, ki_51, ki_60, ki_63, ki_64, ki_65, ki_100, ki_158, ki_160, ki_200, ki_212, ki_1000, ki_2000, ki_2001, ki_5000, ki_10000, ki_10001, ki_100000, ki_200000, ki_1000000, ki_2000000, ki_3000000, iO_neg, iO_add, iO_sub, iO_mul, kn_4, kn_8, kn_10, kn_20, kn_24, kn_40, kn_41, kn_50, kn_60, kn_158, kn_160, kn_200, kn_212, kn_2001, tn_lt, fn_lt, tn_le, fn_le, tn_eq, fn_eq, x_lt, x_le, x_eq, x_ix, x_nat, t_lt, f_lt, t_le, f_le, t_eq, f_eq, eq_self, and_self, true_and, and_true, false_and, and_false, if_true, if_false, Int.toNat_natCast, bI_s, bL_s, bA_s, bA_n, bV_s, mq_s, mq_n, en_le, bl_0, bl_1, u_eq, u_ne, w_eq, w_ne, v_eq, v_ne]
theorem cs_gaps (hS : OK5 S) {r m : Int} (hr : i32 r) (hm : i32 m) : CS S S (p_gaps S r m) (fun z => f_X11_gaps sc (n + 40) 1 (iO r) (iO m) z) := by
  intro XI XA XP XC MI MA ML D Γ hV
  obtain ⟨l0, l1⟩ := x_layPoints (sc := sc) (n := n) hS hr hm XI XA XP XC MI MA ML D Γ hV
  unfold p_gaps
  cases hq : ptq S r m with
  | none =>
    have h0 := l0 hq
    refine ⟨XI, XA, XP, XC, D, Γ, ?_, hV, GR.rfl'⟩
    show f_X11_gaps sc (n + 40) 1 (iO r) (iO m) _ = _
    rw [e_X11_gaps]
    clear hV l0 l1
    simp (disch := (first | assumption | (unfold i32; omega) | (unfold i64; omega) | omega)) only [↓reduceIte, ki_0, ki_1, ki_2, ki_3, ki_4, ki_5, ki_6, ki_7, ki_8, ki_9, ki_10, ki_11, ki_12, ki_13, ki_14, ki_15, ki_20, ki_21, ki_30, ki_31, ki_40, ki_41, ki_50, ki_51, ki_60, ki_63, ki_64, ki_65, ki_100, ki_158, ki_160, ki_200, ki_212, ki_1000, ki_2000, ki_2001, ki_5000, ki_10000, ki_10001, ki_100000, ki_200000, ki_1000000, ki_2000000, ki_3000000, iO_neg, iO_add, iO_sub, iO_mul, kn_4, kn_8, kn_10, kn_20, kn_24, kn_40, kn_41, kn_50, kn_60, kn_158, kn_160, kn_200, kn_212, kn_2001, tn_lt, fn_lt, tn_le, fn_le, tn_eq, fn_eq, x_lt, x_le, x_eq, x_ix, x_nat, t_lt, f_lt, t_le, f_le, t_eq, f_eq, eq_self, and_self, true_and, and_true, false_and, and_false, if_true, if_false, Int.toNat_natCast, bI_s, bL_s, bA_s, bA_n, bV_s, mq_s, mq_n, en_le, bl_0, bl_1, u_eq, u_ne, w_eq, w_ne, v_eq, v_ne, ↓hp_cc_1, ↓hp_g_1_0, ↓hp_g_1_1, ↓hp_g_1_2, ↓hp_g_1_3, ↓hp_g_1_4, ↓hp_g_1_5, ↓hp_g_1_6, ↓hp_g_1_7, ↓hp_g_1_8, ↓hp_p_1_8, ↓hp_g_1_9, ↓hp_p_1_9, ↓hp_g_1_10, ↓hp_p_1_10, ↓hp_a_2, ↓hp_n_2, ↓hp_a_3, ↓hp_n_3, ↓hp_a_4, h0]
  | some l =>
    obtain ⟨XI', XA', XC', h1, h2, h3, h4⟩ := l1 l hq
    refine ⟨XI', XA', XP, XC', D, Γ, ?_, h2, GR.rfl'⟩
    show f_X11_gaps sc (n + 40) 1 (iO r) (iO m) _ = _
    rw [e_X11_gaps]
    have h5 := h3.1
    clear hV l0 l1 h2 h3 h4
    simp (disch := (first | assumption | (unfold i32; omega) | (unfold i64; omega) | omega)) only [↓reduceIte, ki_0, ki_1, ki_2, ki_3, ki_4, ki_5, ki_6, ki_7, ki_8, ki_9, ki_10, ki_11, ki_12, ki_13, ki_14, ki_15, ki_20, ki_21, ki_30, ki_31, ki_40, ki_41, ki_50, ki_51, ki_60, ki_63, ki_64, ki_65, ki_100, ki_158, ki_160, ki_200, ki_212, ki_1000, ki_2000, ki_2001, ki_5000, ki_10000, ki_10001, ki_100000, ki_200000, ki_1000000, ki_2000000, ki_3000000, iO_neg, iO_add, iO_sub, iO_mul, kn_4, kn_8, kn_10, kn_20, kn_24, kn_40, kn_41, kn_50, kn_60, kn_158, kn_160, kn_200, kn_212, kn_2001, tn_lt, fn_lt, tn_le, fn_le, tn_eq, fn_eq, x_lt, x_le, x_eq, x_ix, x_nat, t_lt, f_lt, t_le, f_le, t_eq, f_eq, eq_self, and_self, true_and, and_true, false_and, and_false, if_true, if_false, Int.toNat_natCast, bI_s, bL_s, bA_s, bA_n, bV_s, mq_s, mq_n, en_le, bl_0, bl_1, u_eq, u_ne, w_eq, w_ne, v_eq, v_ne, ↓hp_cc_1, ↓hp_g_1_0, ↓hp_g_1_1, ↓hp_g_1_2, ↓hp_g_1_3, ↓hp_g_1_4, ↓hp_g_1_5, ↓hp_g_1_6, ↓hp_g_1_7, ↓hp_g_1_8, ↓hp_p_1_8, ↓hp_g_1_9, ↓hp_p_1_9, ↓hp_g_1_10, ↓hp_p_1_10, ↓hp_a_2, ↓hp_n_2, ↓hp_a_3, ↓hp_n_3, ↓hp_a_4, ↓hp_cc_9, ↓hp_g_9_0, ↓hp_g_9_1, ↓hp_g_9_2, ↓hp_g_9_3, ↓hp_g_9_4, ↓hp_p_9_4, ↓hp_g_9_5, ↓hp_g_9_6, ↓hp_p_9_7, ↓hp_g_9_7, ↓hp_a_10, ↓hp_s_10, ↓hp_l_10, ↓hp_a_11, ↓hp_s_11, ↓hp_l_11, ↓hp_a_12, ↓hp_s_12, ↓hp_l_12, ↓hp_a_13, ↓hp_s_13, ↓hp_l_13, ↓hp_a_14, ↓hp_s_14, ↓hp_l_14, ↓hp_a_15, ↓hp_s_15, ↓hp_l_15, h1, h5]
theorem cs_gap (hS : OK5 S) {r m i w : Int} (hr : i32 r) (hm : i32 m) (hi : i32 i) (hw : i32 w) : CS S S (p_gap S r m i w) (fun z => f_X11_gap sc (n + 40) 1 (iO r) (iO m) (iO i) (iO w) z) := by
  intro XI XA XP XC MI MA ML D Γ hV
  obtain ⟨i1, i2⟩ := id hi
  obtain ⟨w1, w2⟩ := id hw
  obtain ⟨l0, l1⟩ := x_layPoints (sc := sc) (n := n) hS hr hm XI XA XP XC MI MA ML D Γ hV
  unfold p_gap
  cases hq : ptq S r m with
  | none =>
    have h0 := l0 hq
    refine ⟨XI, XA, XP, XC, D, Γ, ?_, hV, GR.rfl'⟩
    show f_X11_gap sc (n + 40) 1 (iO r) (iO m) (iO i) (iO w) _ = _
    rw [e_X11_gap]
    clear hV l0 l1
    simp (disch := (first | assumption | (unfold i32; omega) | (unfold i64; omega) | omega)) only [↓reduceIte, ki_0, ki_1, ki_2, ki_3, ki_4, ki_5, ki_6, ki_7, ki_8, ki_9, ki_10, ki_11, ki_12, ki_13, ki_14, ki_15, ki_20, ki_21, ki_30, ki_31, ki_40, ki_41, ki_50, ki_51, ki_60, ki_63, ki_64, ki_65, ki_100, ki_158, ki_160, ki_200, ki_212, ki_1000, ki_2000, ki_2001, ki_5000, ki_10000, ki_10001, ki_100000, ki_200000, ki_1000000, ki_2000000, ki_3000000, iO_neg, iO_add, iO_sub, iO_mul, kn_4, kn_8, kn_10, kn_20, kn_24, kn_40, kn_41, kn_50, kn_60, kn_158, kn_160, kn_200, kn_212, kn_2001, tn_lt, fn_lt, tn_le, fn_le, tn_eq, fn_eq, x_lt, x_le, x_eq, x_ix, x_nat, t_lt, f_lt, t_le, f_le, t_eq, f_eq, eq_self, and_self, true_and, and_true, false_and, and_false, if_true, if_false, Int.toNat_natCast, bI_s, bL_s, bA_s, bA_n, bV_s, mq_s, mq_n, en_le, bl_0, bl_1, u_eq, u_ne, w_eq, w_ne, v_eq, v_ne, ↓hp_cc_1, ↓hp_g_1_0, ↓hp_g_1_1, ↓hp_g_1_2, ↓hp_g_1_3, ↓hp_g_1_4, ↓hp_g_1_5, ↓hp_g_1_6, ↓hp_g_1_7, ↓hp_g_1_8, ↓hp_p_1_8, ↓hp_g_1_9, ↓hp_p_1_9, ↓hp_g_1_10, ↓hp_p_1_10, ↓hp_a_2, ↓hp_n_2, ↓hp_a_3, ↓hp_n_3, ↓hp_a_4, h0]
  | some l =>
    obtain ⟨XI', XA', XC', h1, h2, h3, h4⟩ := l1 l hq
    refine ⟨XI', XA', XP, XC', D, Γ, ?_, h2, GR.rfl'⟩
    show f_X11_gap sc (n + 40) 1 (iO r) (iO m) (iO i) (iO w) _ = _
    rw [e_X11_gap]
    obtain ⟨q, q1, q2, q3, q4, q5, q6⟩ := ptq_some hq
    have hSL := hS.2.2.1 l (List.mem_of_getElem? q5)
    have hB := gst_bd (l := l) (gx := gxf l m.toNat) (gy := gyf l m.toNat) (n := m.toNat) (fun i hi => by obtain ⟨q1, q2, q3, q4, -⟩ := gf_bd hSL (by omega) hi; exact ⟨q1, q2, q3, q4⟩) m.toNat (Nat.le_refl _)
    have hB : GB (gsts l m.toNat) m.toNat := hB
    have hk60 : (gsts l m.toNat).1 ≤ 60 := by have := hB.1; omega
    dsimp only
    obtain ⟨h5, h6⟩ := h3
    generalize gsts l m.toNat = st at *
    by_cases gi : 0 ≤ i ∧ i < (st.1 : Int)
    · obtain ⟨gi1, gi2⟩ := gi
      obtain ⟨v, rfl⟩ : ∃ v : Nat, i = v := ⟨i.toNat, by omega⟩
      rw [Int.toNat_natCast]
      obtain ⟨t1, t2, t3⟩ := h6 v (by omega)
      clear hV l0 l1 h2 h4 h6 hB
      by_cases gw : 0 ≤ w ∧ w ≤ 2
      · rw [if_pos ⟨gw.1, gw.2, gi1, gi2⟩]
        rcases (show w = 0 ∨ w = 1 ∨ w = 2 by omega) with rfl | rfl | rfl
        · simp (disch := (first | assumption | (unfold i32; omega) | (unfold i64; omega) | omega)) only [↓reduceIte, ki_0, ki_1, ki_2, ki_3, ki_4, ki_5, ki_6, ki_7, ki_8, ki_9, ki_10, ki_11, ki_12, ki_13, ki_14, ki_15, ki_20, ki_21, ki_30, ki_31, ki_40, ki_41, ki_50, ki_51, ki_60, ki_63, ki_64, ki_65, ki_100, ki_158, ki_160, ki_200, ki_212, ki_1000, ki_2000, ki_2001, ki_5000, ki_10000, ki_10001, ki_100000, ki_200000, ki_1000000, ki_2000000, ki_3000000, iO_neg, iO_add, iO_sub, iO_mul, kn_4, kn_8, kn_10, kn_20, kn_24, kn_40, kn_41, kn_50, kn_60, kn_158, kn_160, kn_200, kn_212, kn_2001, tn_lt, fn_lt, tn_le, fn_le, tn_eq, fn_eq, x_lt, x_le, x_eq, x_ix, x_nat, t_lt, f_lt, t_le, f_le, t_eq, f_eq, eq_self, and_self, true_and, and_true, false_and, and_false, if_true, if_false, Int.toNat_natCast, bI_s, bL_s, bA_s, bA_n, bV_s, mq_s, mq_n, en_le, bl_0, bl_1, u_eq, u_ne, w_eq, w_ne, v_eq, v_ne, ↓hp_cc_1, ↓hp_g_1_0, ↓hp_g_1_1, ↓hp_g_1_2, ↓hp_g_1_3, ↓hp_g_1_4, ↓hp_g_1_5, ↓hp_g_1_6, ↓hp_g_1_7, ↓hp_g_1_8, ↓hp_p_1_8, ↓hp_g_1_9, ↓hp_p_1_9, ↓hp_g_1_10, ↓hp_p_1_10, ↓hp_a_2, ↓hp_n_2, ↓hp_a_3, ↓hp_n_3, ↓hp_a_4, ↓hp_cc_9, ↓hp_g_9_0, ↓hp_g_9_1, ↓hp_g_9_2, ↓hp_g_9_3, ↓hp_g_9_4, ↓hp_p_9_4, ↓hp_g_9_5, ↓hp_g_9_6, ↓hp_p_9_7, ↓hp_g_9_7, ↓hp_a_10, ↓hp_s_10, ↓hp_l_10, ↓hp_a_11, ↓hp_s_11, ↓hp_l_11, ↓hp_a_12, ↓hp_s_12, ↓hp_l_12, ↓hp_a_13, ↓hp_s_13, ↓hp_l_13, ↓hp_a_14, ↓hp_s_14, ↓hp_l_14, ↓hp_a_15, ↓hp_s_15, ↓hp_l_15, h1, h5, t1]
        · simp (disch := (first | assumption | (unfold i32; omega) | (unfold i64; omega) | omega)) only [↓reduceIte, ki_0, ki_1, ki_2, ki_3, ki_4, ki_5, ki_6, ki_7, ki_8, ki_9, ki_10, ki_11, ki_12, ki_13, ki_14, ki_15, ki_20, ki_21, ki_30, ki_31, ki_40, ki_41, ki_50, ki_51, ki_60, ki_63, ki_64, ki_65, ki_100, ki_158, ki_160, ki_200, ki_212, ki_1000, ki_2000, ki_2001, ki_5000, ki_10000, ki_10001, ki_100000, ki_200000, ki_1000000, ki_2000000, ki_3000000, iO_neg, iO_add, iO_sub, iO_mul, kn_4, kn_8, kn_10, kn_20, kn_24, kn_40, kn_41, kn_50, kn_60, kn_158, kn_160, kn_200, kn_212, kn_2001, tn_lt, fn_lt, tn_le, fn_le, tn_eq, fn_eq, x_lt, x_le, x_eq, x_ix, x_nat, t_lt, f_lt, t_le, f_le, t_eq, f_eq, eq_self, and_self, true_and, and_true, false_and, and_false, if_true, if_false, Int.toNat_natCast, bI_s, bL_s, bA_s, bA_n, bV_s, mq_s, mq_n, en_le, bl_0, bl_1, u_eq, u_ne, w_eq, w_ne, v_eq, v_ne, ↓hp_cc_1, ↓hp_g_1_0, ↓hp_g_1_1, ↓hp_g_1_2, ↓hp_g_1_3, ↓hp_g_1_4, ↓hp_g_1_5, ↓hp_g_1_6, ↓hp_g_1_7, ↓hp_g_1_8, ↓hp_p_1_8, ↓hp_g_1_9, ↓hp_p_1_9, ↓hp_g_1_10, ↓hp_p_1_10, ↓hp_a_2, ↓hp_n_2, ↓hp_a_3, ↓hp_n_3, ↓hp_a_4, ↓hp_cc_9, ↓hp_g_9_0, ↓hp_g_9_1, ↓hp_g_9_2, ↓hp_g_9_3, ↓hp_g_9_4, ↓hp_p_9_4, ↓hp_g_9_5, ↓hp_g_9_6, ↓hp_p_9_7, ↓hp_g_9_7, ↓hp_a_10, ↓hp_s_10, ↓hp_l_10, ↓hp_a_11, ↓hp_s_11, ↓hp_l_11, ↓hp_a_12, ↓hp_s_12, ↓hp_l_12, ↓hp_a_13, ↓hp_s_13, ↓hp_l_13, ↓hp_a_14, ↓hp_s_14, ↓hp_l_14, ↓hp_a_15, ↓hp_s_15, ↓hp_l_15, h1, h5, t2]
        · simp (disch := (first | assumption | (unfold i32; omega) | (unfold i64; omega) | omega)) only [↓reduceIte, ki_0, ki_1, ki_2, ki_3, ki_4, ki_5, ki_6, ki_7, ki_8, ki_9, ki_10, ki_11, ki_12, ki_13, ki_14, ki_15, ki_20, ki_21, ki_30, ki_31, ki_40, ki_41, ki_50, ki_51, ki_60, ki_63, ki_64, ki_65, ki_100, ki_158, ki_160, ki_200, ki_212, ki_1000, ki_2000, ki_2001, ki_5000, ki_10000, ki_10001, ki_100000, ki_200000, ki_1000000, ki_2000000, ki_3000000, iO_neg, iO_add, iO_sub, iO_mul, kn_4, kn_8, kn_10, kn_20, kn_24, kn_40, kn_41, kn_50, kn_60, kn_158, kn_160, kn_200, kn_212, kn_2001, tn_lt, fn_lt, tn_le, fn_le, tn_eq, fn_eq, x_lt, x_le, x_eq, x_ix, x_nat, t_lt, f_lt, t_le, f_le, t_eq, f_eq, eq_self, and_self, true_and, and_true, false_and, and_false, if_true, if_false, Int.toNat_natCast, bI_s, bL_s, bA_s, bA_n, bV_s, mq_s, mq_n, en_le, bl_0, bl_1, u_eq, u_ne, w_eq, w_ne, v_eq, v_ne, ↓hp_cc_1, ↓hp_g_1_0, ↓hp_g_1_1, ↓hp_g_1_2, ↓hp_g_1_3, ↓hp_g_1_4, ↓hp_g_1_5, ↓hp_g_1_6, ↓hp_g_1_7, ↓hp_g_1_8, ↓hp_p_1_8, ↓hp_g_1_9, ↓hp_p_1_9, ↓hp_g_1_10, ↓hp_p_1_10, ↓hp_a_2, ↓hp_n_2, ↓hp_a_3, ↓hp_n_3, ↓hp_a_4, ↓hp_cc_9, ↓hp_g_9_0, ↓hp_g_9_1, ↓hp_g_9_2, ↓hp_g_9_3, ↓hp_g_9_4, ↓hp_p_9_4, ↓hp_g_9_5, ↓hp_g_9_6, ↓hp_p_9_7, ↓hp_g_9_7, ↓hp_a_10, ↓hp_s_10, ↓hp_l_10, ↓hp_a_11, ↓hp_s_11, ↓hp_l_11, ↓hp_a_12, ↓hp_s_12, ↓hp_l_12, ↓hp_a_13, ↓hp_s_13, ↓hp_l_13, ↓hp_a_14, ↓hp_s_14, ↓hp_l_14, ↓hp_a_15, ↓hp_s_15, ↓hp_l_15, h1, h5, t3]
      · rw [if_neg (show ¬ (0 ≤ w ∧ w ≤ 2 ∧ 0 ≤ (v : Int) ∧ (v : Int) < (st.1 : Int)) by omega)]
        have n0 : w ≠ 0 := by omega
        have n1 : w ≠ 1 := by omega
        have n2 : w ≠ 2 := by omega
        clear gw
        simp (disch := (first | assumption | (unfold i32; omega) | (unfold i64; omega) | omega)) only [↓reduceIte, ki_0, ki_1, ki_2, ki_3, ki_4, ki_5, ki_6, ki_7, ki_8, ki_9, ki_10, ki_11, ki_12, ki_13, ki_14, ki_15, ki_20, ki_21, ki_30, ki_31, ki_40, ki_41, ki_50, ki_51, ki_60, ki_63, ki_64, ki_65, ki_100, ki_158, ki_160, ki_200, ki_212, ki_1000, ki_2000, ki_2001, ki_5000, ki_10000, ki_10001, ki_100000, ki_200000, ki_1000000, ki_2000000, ki_3000000, iO_neg, iO_add, iO_sub, iO_mul, kn_4, kn_8, kn_10, kn_20, kn_24, kn_40, kn_41, kn_50, kn_60, kn_158, kn_160, kn_200, kn_212, kn_2001, tn_lt, fn_lt, tn_le, fn_le, tn_eq, fn_eq, x_lt, x_le, x_eq, x_ix, x_nat, t_lt, f_lt, t_le, f_le, t_eq, f_eq, eq_self, and_self, true_and, and_true, false_and, and_false, if_true, if_false, Int.toNat_natCast, bI_s, bL_s, bA_s, bA_n, bV_s, mq_s, mq_n, en_le, bl_0, bl_1, u_eq, u_ne, w_eq, w_ne, v_eq, v_ne, ↓hp_cc_1, ↓hp_g_1_0, ↓hp_g_1_1, ↓hp_g_1_2, ↓hp_g_1_3, ↓hp_g_1_4, ↓hp_g_1_5, ↓hp_g_1_6, ↓hp_g_1_7, ↓hp_g_1_8, ↓hp_p_1_8, ↓hp_g_1_9, ↓hp_p_1_9, ↓hp_g_1_10, ↓hp_p_1_10, ↓hp_a_2, ↓hp_n_2, ↓hp_a_3, ↓hp_n_3, ↓hp_a_4, ↓hp_cc_9, ↓hp_g_9_0, ↓hp_g_9_1, ↓hp_g_9_2, ↓hp_g_9_3, ↓hp_g_9_4, ↓hp_p_9_4, ↓hp_g_9_5, ↓hp_g_9_6, ↓hp_p_9_7, ↓hp_g_9_7, ↓hp_a_10, ↓hp_s_10, ↓hp_l_10, ↓hp_a_11, ↓hp_s_11, ↓hp_l_11, ↓hp_a_12, ↓hp_s_12, ↓hp_l_12, ↓hp_a_13, ↓hp_s_13, ↓hp_l_13, ↓hp_a_14, ↓hp_s_14, ↓hp_l_14, ↓hp_a_15, ↓hp_s_15, ↓hp_l_15, h1, h5]
    · rw [if_neg (show ¬ (0 ≤ w ∧ w ≤ 2 ∧ 0 ≤ i ∧ i < (st.1 : Int)) by omega)]
      clear hV l0 l1 h2 h4 h6 hB
      by_cases t1 : i < 0
      · clear gi; simp (disch := (first | assumption | (unfold i32; omega) | (unfold i64; omega) | omega)) only [↓reduceIte, ki_0, ki_1, ki_2, ki_3, ki_4, ki_5, ki_6, ki_7, ki_8, ki_9, ki_10, ki_11, ki_12, ki_13, ki_14, ki_15, ki_20, ki_21, ki_30, ki_31, ki_40, ki_41, ki_50, ki_51, ki_60, ki_63, ki_64, ki_65, ki_100, ki_158, ki_160, ki_200, ki_212, ki_1000, ki_2000, ki_2001, ki_5000, ki_10000, ki_10001, ki_100000, ki_200000, ki_1000000, ki_2000000, ki_3000000, iO_neg, iO_add, iO_sub, iO_mul, kn_4, kn_8, kn_10, kn_20, kn_24, kn_40, kn_41, kn_50, kn_60, kn_158, kn_160, kn_200, kn_212, kn_2001, tn_lt, fn_lt, tn_le, fn_le, tn_eq, fn_eq, x_lt, x_le, x_eq, x_ix, x_nat, t_lt, f_lt, t_le, f_le, t_eq, f_eq, eq_self, and_self, true_and, and_true, false_and, and_false, if_true, if_false, Int.toNat_natCast, bI_s, bL_s, bA_s, bA_n, bV_s, mq_s, mq_n, en_le, bl_0, bl_1, u_eq, u_ne, w_eq, w_ne, v_eq, v_ne, ↓hp_cc_1, ↓hp_g_1_0, ↓hp_g_1_1, ↓hp_g_1_2, ↓hp_g_1_3, ↓hp_g_1_4, ↓hp_g_1_5, ↓hp_g_1_6, ↓hp_g_1_7, ↓hp_g_1_8, ↓hp_p_1_8, ↓hp_g_1_9, ↓hp_p_1_9, ↓hp_g_1_10, ↓hp_p_1_10, ↓hp_a_2, ↓hp_n_2, ↓hp_a_3, ↓hp_n_3, ↓hp_a_4, ↓hp_cc_9, ↓hp_g_9_0, ↓hp_g_9_1, ↓hp_g_9_2, ↓hp_g_9_3, ↓hp_g_9_4, ↓hp_p_9_4, ↓hp_g_9_5, ↓hp_g_9_6, ↓hp_p_9_7, ↓hp_g_9_7, ↓hp_a_10, ↓hp_s_10, ↓hp_l_10, ↓hp_a_11, ↓hp_s_11, ↓hp_l_11, ↓hp_a_12, ↓hp_s_12, ↓hp_l_12, ↓hp_a_13, ↓hp_s_13, ↓hp_l_13, ↓hp_a_14, ↓hp_s_14, ↓hp_l_14, ↓hp_a_15, ↓hp_s_15, ↓hp_l_15, h1, h5]
      · have t2 : (st.1 : Int) ≤ i := by omega
        clear gi; simp (disch := (first | assumption | (unfold i32; omega) | (unfold i64; omega) | omega)) only [↓reduceIte, ki_0, ki_1, ki_2, ki_3, ki_4, ki_5, ki_6, ki_7, ki_8, ki_9, ki_10, ki_11, ki_12, ki_13, ki_14, ki_15, ki_20, ki_21, ki_30, ki_31, ki_40, ki_41, ki_50, ki_51, ki_60, ki_63, ki_64, ki_65, ki_100, ki_158, ki_160, ki_200, ki_212, ki_1000, ki_2000, ki_2001, ki_5000, ki_10000, ki_10001, ki_100000, ki_200000, ki_1000000, ki_2000000, ki_3000000, iO_neg, iO_add, iO_sub, iO_mul, kn_4, kn_8, kn_10, kn_20, kn_24, kn_40, kn_41, kn_50, kn_60, kn_158, kn_160, kn_200, kn_212, kn_2001, tn_lt, fn_lt, tn_le, fn_le, tn_eq, fn_eq, x_lt, x_le, x_eq, x_ix, x_nat, t_lt, f_lt, t_le, f_le, t_eq, f_eq, eq_self, and_self, true_and, and_true, false_and, and_false, if_true, if_false, Int.toNat_natCast, bI_s, bL_s, bA_s, bA_n, bV_s, mq_s, mq_n, en_le, bl_0, bl_1, u_eq, u_ne, w_eq, w_ne, v_eq, v_ne, ↓hp_cc_1, ↓hp_g_1_0, ↓hp_g_1_1, ↓hp_g_1_2, ↓hp_g_1_3, ↓hp_g_1_4, ↓hp_g_1_5, ↓hp_g_1_6, ↓hp_g_1_7, ↓hp_g_1_8, ↓hp_p_1_8, ↓hp_g_1_9, ↓hp_p_1_9, ↓hp_g_1_10, ↓hp_p_1_10, ↓hp_a_2, ↓hp_n_2, ↓hp_a_3, ↓hp_n_3, ↓hp_a_4, ↓hp_cc_9, ↓hp_g_9_0, ↓hp_g_9_1, ↓hp_g_9_2, ↓hp_g_9_3, ↓hp_g_9_4, ↓hp_p_9_4, ↓hp_g_9_5, ↓hp_g_9_6, ↓hp_p_9_7, ↓hp_g_9_7, ↓hp_a_10, ↓hp_s_10, ↓hp_l_10, ↓hp_a_11, ↓hp_s_11, ↓hp_l_11, ↓hp_a_12, ↓hp_s_12, ↓hp_l_12, ↓hp_a_13, ↓hp_s_13, ↓hp_l_13, ↓hp_a_14, ↓hp_s_14, ↓hp_l_14, ↓hp_a_15, ↓hp_s_15, ↓hp_l_15, h1, h5]
theorem cs_follows (hS : OK5 S) {r m i : Int} (hr : i32 r) (hm : i32 m) (hi : i32 i) : CS S S (p_follows S r m i) (fun z => f_X11_follows sc (n + 40) 1 (iO r) (iO m) (iO i) z) := by
  intro XI XA XP XC MI MA ML D Γ hV
  obtain ⟨i1, i2⟩ := id hi
  obtain ⟨m1, m2⟩ := id hm
  obtain ⟨l0, l1⟩ := x_layPoints (sc := sc) (n := n) hS hr hm XI XA XP XC MI MA ML D Γ hV
  by_cases gi : 0 ≤ i ∧ i < m
  · obtain ⟨gi1, gi2⟩ := gi
    unfold p_follows
    cases hq : ptq S r m with
    | none =>
      have h0 := l0 hq
      refine ⟨XI, XA, XP, XC, D, Γ, ?_, hV, GR.rfl'⟩
      show f_X11_follows sc (n + 40) 1 (iO r) (iO m) (iO i) _ = _
      rw [e_X11_follows]
      clear hV l0 l1
      simp (disch := (first | assumption | (unfold i32; omega) | (unfold i64; omega) | omega)) only [↓reduceIte, ki_0, ki_1, ki_2, ki_3, ki_4, ki_5, ki_6, ki_7, ki_8, ki_9, ki_10, ki_11, ki_12, ki_13, ki_14, ki_15, ki_20, ki_21, ki_30, ki_31, ki_40, ki_41, ki_50, ki_51, ki_60, ki_63, ki_64, ki_65, ki_100, ki_158, ki_160, ki_200, ki_212, ki_1000, ki_2000, ki_2001, ki_5000, ki_10000, ki_10001, ki_100000, ki_200000, ki_1000000, ki_2000000, ki_3000000, iO_neg, iO_add, iO_sub, iO_mul, kn_4, kn_8, kn_10, kn_20, kn_24, kn_40, kn_41, kn_50, kn_60, kn_158, kn_160, kn_200, kn_212, kn_2001, tn_lt, fn_lt, tn_le, fn_le, tn_eq, fn_eq, x_lt, x_le, x_eq, x_ix, x_nat, t_lt, f_lt, t_le, f_le, t_eq, f_eq, eq_self, and_self, true_and, and_true, false_and, and_false, if_true, if_false, Int.toNat_natCast, bI_s, bL_s, bA_s, bA_n, bV_s, mq_s, mq_n, en_le, bl_0, bl_1, u_eq, u_ne, w_eq, w_ne, v_eq, v_ne, ↓hp_cc_1, ↓hp_g_1_0, ↓hp_g_1_1, ↓hp_g_1_2, ↓hp_g_1_3, ↓hp_g_1_4, ↓hp_g_1_5, ↓hp_g_1_6, ↓hp_g_1_7, ↓hp_g_1_8, ↓hp_p_1_8, ↓hp_g_1_9, ↓hp_p_1_9, ↓hp_g_1_10, ↓hp_p_1_10, ↓hp_a_2, ↓hp_n_2, ↓hp_a_3, ↓hp_n_3, ↓hp_a_4, h0]
    | some l =>
      obtain ⟨q, q1, q2, q3, q4, q5, q6⟩ := ptq_some hq
      obtain ⟨XI', XA', XC', h1, h2, h3, h4⟩ := l1 l hq
      refine ⟨XI', XA', XP, XC', D, Γ, ?_, h2, GR.rfl'⟩
      show f_X11_follows sc (n + 40) 1 (iO r) (iO m) (iO i) _ = _
      rw [e_X11_follows]
      dsimp only
      rw [if_pos (show 0 ≤ i ∧ i < m from ⟨gi1, gi2⟩)]
      obtain ⟨v, rfl⟩ : ∃ v : Nat, i = v := ⟨i.toNat, by omega⟩
      have h5 := h4 v (by omega)
      rw [Int.toNat_natCast]
      clear hV l0 l1 h2 h3 h4
      simp (disch := (first | assumption | (unfold i32; omega) | (unfold i64; omega) | omega)) only [↓reduceIte, ki_0, ki_1, ki_2, ki_3, ki_4, ki_5, ki_6, ki_7, ki_8, ki_9, ki_10, ki_11, ki_12, ki_13, ki_14, ki_15, ki_20, ki_21, ki_30, ki_31, ki_40, ki_41, ki_50, ki_51, ki_60, ki_63, ki_64, ki_65, ki_100, ki_158, ki_160, ki_200, ki_212, ki_1000, ki_2000, ki_2001, ki_5000, ki_10000, ki_10001, ki_100000, ki_200000, ki_1000000, ki_2000000, ki_3000000, iO_neg, iO_add, iO_sub, iO_mul, kn_4, kn_8, kn_10, kn_20, kn_24, kn_40, kn_41, kn_50, kn_60, kn_158, kn_160, kn_200, kn_212, kn_2001, tn_lt, fn_lt, tn_le, fn_le, tn_eq, fn_eq, x_lt, x_le, x_eq, x_ix, x_nat, t_lt, f_lt, t_le, f_le, t_eq, f_eq, eq_self, and_self, true_and, and_true, false_and, and_false, if_true, if_false, Int.toNat_natCast, bI_s, bL_s, bA_s, bA_n, bV_s, mq_s, mq_n, en_le, bl_0, bl_1, u_eq, u_ne, w_eq, w_ne, v_eq, v_ne, ↓hp_cc_1, ↓hp_g_1_0, ↓hp_g_1_1, ↓hp_g_1_2, ↓hp_g_1_3, ↓hp_g_1_4, ↓hp_g_1_5, ↓hp_g_1_6, ↓hp_g_1_7, ↓hp_g_1_8, ↓hp_p_1_8, ↓hp_g_1_9, ↓hp_p_1_9, ↓hp_g_1_10, ↓hp_p_1_10, ↓hp_a_2, ↓hp_n_2, ↓hp_a_3, ↓hp_n_3, ↓hp_a_4, ↓hp_cc_9, ↓hp_g_9_0, ↓hp_g_9_1, ↓hp_g_9_2, ↓hp_g_9_3, ↓hp_g_9_4, ↓hp_p_9_4, ↓hp_g_9_5, ↓hp_g_9_6, ↓hp_p_9_7, ↓hp_g_9_7, ↓hp_a_10, ↓hp_s_10, ↓hp_l_10, ↓hp_a_11, ↓hp_s_11, ↓hp_l_11, ↓hp_a_12, ↓hp_s_12, ↓hp_l_12, ↓hp_a_13, ↓hp_s_13, ↓hp_l_13, ↓hp_a_14, ↓hp_s_14, ↓hp_l_14, ↓hp_a_15, ↓hp_s_15, ↓hp_l_15, h1, h5]
  · have hno : p_follows S r m i = -1 := by
      unfold p_follows
      cases ptq S r m with
      | none => rfl
      | some l => exact if_neg gi
    rw [hno]
    refine ⟨XI, XA, XP, XC, D, Γ, ?_, hV, GR.rfl'⟩
    show f_X11_follows sc (n + 40) 1 (iO r) (iO m) (iO i) _ = _
    rw [e_X11_follows]
    clear hV l0 l1 hno
    by_cases t1 : i < 0
    · clear gi; simp (disch := (first | assumption | (unfold i32; omega) | (unfold i64; omega) | omega)) only [↓reduceIte, ki_0, ki_1, ki_2, ki_3, ki_4, ki_5, ki_6, ki_7, ki_8, ki_9, ki_10, ki_11, ki_12, ki_13, ki_14, ki_15, ki_20, ki_21, ki_30, ki_31, ki_40, ki_41, ki_50, ki_51, ki_60, ki_63, ki_64, ki_65, ki_100, ki_158, ki_160, ki_200, ki_212, ki_1000, ki_2000, ki_2001, ki_5000, ki_10000, ki_10001, ki_100000, ki_200000, ki_1000000, ki_2000000, ki_3000000, iO_neg, iO_add, iO_sub, iO_mul, kn_4, kn_8, kn_10, kn_20, kn_24, kn_40, kn_41, kn_50, kn_60, kn_158, kn_160, kn_200, kn_212, kn_2001, tn_lt, fn_lt, tn_le, fn_le, tn_eq, fn_eq, x_lt, x_le, x_eq, x_ix, x_nat, t_lt, f_lt, t_le, f_le, t_eq, f_eq, eq_self, and_self, true_and, and_true, false_and, and_false, if_true, if_false, Int.toNat_natCast, bI_s, bL_s, bA_s, bA_n, bV_s, mq_s, mq_n, en_le, bl_0, bl_1, u_eq, u_ne, w_eq, w_ne, v_eq, v_ne]
    · have t2 : m ≤ i := by omega
      clear gi; simp (disch := (first | assumption | (unfold i32; omega) | (unfold i64; omega) | omega)) only [↓reduceIte, ki_0, ki_1, ki_2, ki_3, ki_4, ki_5, ki_6, ki_7, ki_8, ki_9, ki_10, ki_11, ki_12, ki_13, ki_14, ki_15, ki_20, ki_21, ki_30, ki_31, ki_40, ki_41, ki_50, ki_51, ki_60, ki_63, ki_64, ki_65, ki_100, ki_158, ki_160, ki_200, ki_212, ki_1000, ki_2000, ki_2001, ki_5000, ki_10000, ki_10001, ki_100000, ki_200000, ki_1000000, ki_2000000, ki_3000000, iO_neg, iO_add, iO_sub, iO_mul, kn_4, kn_8, kn_10, kn_20, kn_24, kn_40, kn_41, kn_50, kn_60, kn_158, kn_160, kn_200, kn_212, kn_2001, tn_lt, fn_lt, tn_le, fn_le, tn_eq, fn_eq, x_lt, x_le, x_eq, x_ix, x_nat, t_lt, f_lt, t_le, f_le, t_eq, f_eq, eq_self, and_self, true_and, and_true, false_and, and_false, if_true, if_false, Int.toNat_natCast, bI_s, bL_s, bA_s, bA_n, bV_s, mq_s, mq_n, en_le, bl_0, bl_1, u_eq, u_ne, w_eq, w_ne, v_eq, v_ne]
end PTS
