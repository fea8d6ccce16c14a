/-! THE GAPS: the model -/
section GPM
variable {sc : en_S} {d : Nat} {XI : Nat → Int32} {XA : Nat → Nat → Int32} {XP : Nat → Nat → Option Nat} {XC : Value} {ML : Nat → Nat → Int64} {D : en_H} {l : SL4} {k n : Nat}
/-- the model holds a state of sorts -/
def GMM (st : G4) (MI : Nat → Int32) (MA : Nat → Nat → Int32) : Prop := MI 7 = iO (st.1 : Int) ∧ ∀ t, t < st.1 → MA 19 t = iO (st.2.1 t) ∧ MA 17 t = iO (st.2.2.1 t) ∧ MA 18 t = iO (st.2.2.2 t)
theorem m_beside {MI : Nat → Int32} {MA : Nat → Nat → Int32} (hk : k < 8) (hM : MS MA k l.1 l.2.1 l.2.2.1 l.2.2.2) (hS : SL l.1 l.2.1 l.2.2.1 l.2.2.2) {gx gy x y : Int} (h1 : -1181 ≤ gx) (h2 : gx ≤ 1181) (h3 : -60 ≤ gy) (h4 : gy ≤ 60) (h5 : -1181 ≤ x) (h6 : x ≤ 1181) (h7 : -60 ≤ y) (h8 : y ≤ 60) : f_X12_against_ sc (d + 2) 26 (iO (k : Int)) (iO gx) (iO gy) (iO x) (iO y) (hp XI XA XP XC MI MA ML D) = some (some (.int (iO (sgn l (gx - x) (gy - y)))), hp XI XA XP XC MI MA ML D) := by
  obtain ⟨m0, m1, m2, m3⟩ := hM
  obtain ⟨a1, a2, c1, c2, e1, e2, d1, d2, -⟩ := id hS
  have t1 := mul_bd (x := gy - y) (y := l.1 + 1000) (a := 120) (b := 2000) (by omega) (by omega) (by omega) (by omega)
  have t2 := mul_bd (x := gy - y) (y := l.2.1 + 20) (a := 120) (b := 40) (by omega) (by omega) (by omega) (by omega)
  have t3 := mul_bd (x := gx - x) (y := l.2.2.1) (a := 2362) (b := 100) (by omega) (by omega) (by omega) (by omega)
  rw [Int.mul_add] at t1 t2
  have g1 : l.1 * (gy - y) = (gy - y) * l.1 := Int.mul_comm _ _
  have g2 : l.2.1 * (gy - y) = (gy - y) * l.2.1 := Int.mul_comm _ _
  have s1 := sq_bd (x := l.1 * (gy - y) + (gx - x) * l.2.2.1) (K := 1000000) (by omega) (by omega)
  have s2 := sq_bd (x := l.2.1 * (gy - y)) (K := 10000) (by omega) (by omega)
  have s3 := mul_bd (x := l.2.1 * (gy - y) * (l.2.1 * (gy - y))) (y := l.2.2.2) (a := 100000000) (b := 50) (by omega) (by omega) (by omega) d2
  have hsg := e_sign (sc := sc) (n := d) (x := l.1 * (gy - y) + (gx - x) * l.2.2.1) (y := l.2.1 * (gy - y)) (d := l.2.2.2) (z := hp XI XA XP XC MI MA ML D) (by unfold i64; omega) (by unfold i64; omega) (by unfold i64; omega) (by unfold i64; omega)
  have eq1 : sg (l.1 * (gy - y) + (gx - x) * l.2.2.1) (l.2.1 * (gy - y)) l.2.2.2 = sgn l (gx - x) (gy - y) := by
    unfold sgn
    rw [g1, g2]
  rw [eq1] at hsg
  clear t1 t2 t3 s1 s2 s3 eq1 g1 g2
  rw [e_X12_against_]
  generalize sgn l (gx - x) (gy - y) = s at *
  simp (disch := (first | assumption | (unfold i32; omega) | (unfold i64; omega) | omega)) only [↓reduceIte, ki_0, ki_1, ki_2, ki_3, ki_4, ki_5, ki_6, ki_7, ki_8, ki_9, ki_10, ki_11, ki_12, ki_13, ki_14, ki_15, ki_20, ki_21, ki_30, ki_31, ki_40, ki_41, ki_50, ki_51, ki_60, ki_63, ki_64, ki_65, ki_100, ki_158, ki_160, ki_200, ki_212, ki_1000, ki_2000, ki_2001, ki_5000, ki_10000, ki_10001, ki_100000, ki_200000, ki_1000000, ki_2000000, ki_3000000, iO_neg, iO_add, iO_sub, iO_mul, kn_4, kn_8, kn_10, kn_20, kn_24, kn_40, kn_41, kn_50, kn_60, kn_158, kn_160, kn_200, kn_212, kn_2001, tn_lt, fn_lt, tn_le, fn_le, tn_eq, fn_eq, x_lt, x_le, x_eq, x_ix, x_nat, t_lt, f_lt, t_le, f_le, t_eq, f_eq, eq_self, and_self, true_and, and_true, false_and, and_false, if_true, if_false, Int.toNat_natCast, bI_s, bL_s, bA_s, bA_n, bV_s, mq_s, mq_n, en_le, bl_0, bl_1, u_eq, u_ne, w_eq, w_ne, v_eq, v_ne, ↓hp_cc_26, ↓hp_g_26_0, ↓hp_p_26_0, ↓hp_g_26_1, ↓hp_p_26_1, ↓hp_g_26_2, ↓hp_p_26_2, ↓hp_g_26_3, ↓hp_g_26_4, ↓hp_g_26_5, ↓hp_g_26_6, ↓hp_g_26_7, ↓hp_g_26_8, ↓hp_g_26_9, ↓hp_g_26_10, ↓hp_g_26_11, ↓hp_g_26_12, ↓hp_g_26_13, ↓hp_g_26_14, ↓hp_g_26_15, ↓hp_p_26_15, ↓hp_g_26_16, ↓hp_g_26_17, ↓hp_g_26_18, ↓hp_p_26_18, ↓hp_g_26_19, ↓hp_p_26_19, ↓hp_g_26_20, ↓hp_g_26_21, ↓hp_p_26_21, ↓hp_g_26_22, ↓hp_g_26_23, ↓hp_g_26_24, ↓hp_g_26_25, ↓hp_g_26_26, ↓hp_g_26_27, ↓hp_g_26_28, ↓hp_g_26_29, ↓hp_g_26_30, ↓hp_p_26_30, ↓hp_g_26_31, ↓hp_g_26_32, ↓hp_p_26_32, ↓hp_a_27, ↓hp_s_27, ↓hp_l_27, ↓hp_a_28, ↓hp_s_28, ↓hp_l_28, ↓hp_a_29, ↓hp_s_29, ↓hp_l_29, ↓hp_a_30, ↓hp_s_30, ↓hp_l_30, ↓hp_a_31, ↓hp_s_31, ↓hp_l_31, ↓hp_a_32, ↓hp_s_32, ↓hp_l_32, ↓hp_a_33, ↓hp_s_33, ↓hp_l_33, ↓hp_a_34, ↓hp_s_34, ↓hp_l_34, ↓hp_a_35, ↓hp_s_35, ↓hp_l_35, ↓hp_a_36, ↓hp_s_36, ↓hp_l_36, ↓hp_a_37, ↓hp_s_37, ↓hp_l_37, ↓hp_a_38, ↓hp_s_38, ↓hp_l_38, ↓hp_a_39, ↓hp_s_39, ↓hp_a_40, ↓hp_s_40, ↓hp_a_41, ↓hp_s_41, ↓hp_l_41, ↓hp_a_42, ↓hp_s_42, ↓hp_l_42, ↓hp_a_43, ↓hp_s_43, ↓hp_l_43, ↓hp_a_44, ↓hp_s_44, ↓hp_l_44, ↓hp_a_45, ↓hp_s_45, ↓hp_l_45, ↓hp_a_46, ↓hp_s_46, ↓hp_l_46, ↓hp_a_47, ↓hp_s_47, ↓hp_l_47, ↓hp_a_48, ↓hp_s_48, ↓hp_l_48, ↓hp_a_49, ↓hp_s_49, ↓hp_l_49, ↓hp_a_50, ↓hp_s_50, ↓hp_l_50, m0, m1, m2, m3, iO_wide, lO_mul, lO_add, hsg]
theorem m_insert {gx gy : Int} {st : G4} {p a : Nat} (ha : a < 60) (hp0 : p ≤ st.1) (hk : st.1 < 60) {s0 : Int32} : ∀ (j q : Nat) (MI : Nat → Int32) (MA : Nat → Nat → Int32), p + j = q → q ≤ st.1 → MI 7 = iO (st.1 : Int) → MA 15 a = iO gx → MA 16 a = iO gy → (∀ t, t ≤ st.1 → (q < t → MA 19 t = iO (st.2.1 (t - 1)) ∧ MA 17 t = iO (st.2.2.1 (t - 1)) ∧ MA 18 t = iO (st.2.2.2 (t - 1))) ∧ (t < q → MA 19 t = iO (st.2.1 t) ∧ MA 17 t = iO (st.2.2.1 t) ∧ MA 18 t = iO (st.2.2.2 t))) →
    ∃ MI' MA', b_X12_gapsOf_11 sc d 26 (iO (n : Int)) s0 (iO (a : Int)) (iO (p : Int)) (iO (q : Int)) (hp XI XA XP XC MI MA ML D) = b_X12_gapsOf_7 sc d 26 (iO (n : Int)) s0 (iO ((a : Int) + 1)) (hp XI XA XP XC MI' MA' ML D) ∧ GMM (st.1 + 1, va_up (shf p st.1 st.2.1) p 1, va_up (shf p st.1 st.2.2.1) p gx, va_up (shf p st.1 st.2.2.2) p gy) MI' MA' ∧ (∀ s, s ≠ 7 → MI' s = MI s) ∧ (∀ m, m ≠ 17 → m ≠ 18 → m ≠ 19 → MA' m = MA m) := by
  intro j
  induction j with
  | zero =>
    intro q MI MA hq hq2 h14 hx hy hR
    obtain rfl : q = p := by omega
    refine ⟨va_up MI 7 (iO ((st.1 : Int) + 1)), va_up (va_up (va_up MA 17 (upd (MA 17) q (iO gx))) 18 (upd (MA 18) q (iO gy))) 19 (upd (MA 19) q (iO 1)), ?_, ⟨rfl, ?_⟩, fun s hs => w_ne hs, fun m h3 h4 h5 => by rw [w_ne h5, w_ne h4, w_ne h3]⟩
    · rw [eb_X12_gapsOf_11]
      clear hR
      simp (disch := (first | assumption | (unfold i32; omega) | (unfold i64; omega) | omega)) only [↓reduceIte, ki_0, ki_1, ki_2, ki_3, ki_4, ki_5, ki_6, ki_7, ki_8, ki_9, ki_10, ki_11, ki_12, ki_13, ki_14, ki_15, ki_20, ki_21, ki_30, ki_31, ki_40, ki_41, ki_50, ki_51, ki_60, ki_63, ki_64, ki_65, ki_100, ki_158, ki_160, ki_200, ki_212, ki_1000, ki_2000, ki_2001, ki_5000, ki_10000, ki_10001, ki_100000, ki_200000, ki_1000000, ki_2000000, ki_3000000, iO_neg, iO_add, iO_sub, iO_mul, kn_4, kn_8, kn_10, kn_20, kn_24, kn_40, kn_41, kn_50, kn_60, kn_158, kn_160, kn_200, kn_212, kn_2001, tn_lt, fn_lt, tn_le, fn_le, tn_eq, fn_eq, x_lt, x_le, x_eq, x_ix, x_nat, t_lt, f_lt, t_le, f_le, t_eq, f_eq, eq_self, and_self, true_and, and_true, false_and, and_false, if_true, if_false, Int.toNat_natCast, bI_s, bL_s, bA_s, bA_n, bV_s, mq_s, mq_n, en_le, bl_0, bl_1, u_eq, u_ne, w_eq, w_ne, v_eq, v_ne, ↓hp_cc_26, ↓hp_g_26_0, ↓hp_p_26_0, ↓hp_g_26_1, ↓hp_p_26_1, ↓hp_g_26_2, ↓hp_p_26_2, ↓hp_g_26_3, ↓hp_g_26_4, ↓hp_g_26_5, ↓hp_g_26_6, ↓hp_g_26_7, ↓hp_g_26_8, ↓hp_g_26_9, ↓hp_g_26_10, ↓hp_g_26_11, ↓hp_g_26_12, ↓hp_g_26_13, ↓hp_g_26_14, ↓hp_g_26_15, ↓hp_p_26_15, ↓hp_g_26_16, ↓hp_g_26_17, ↓hp_g_26_18, ↓hp_p_26_18, ↓hp_g_26_19, ↓hp_p_26_19, ↓hp_g_26_20, ↓hp_g_26_21, ↓hp_p_26_21, ↓hp_g_26_22, ↓hp_g_26_23, ↓hp_g_26_24, ↓hp_g_26_25, ↓hp_g_26_26, ↓hp_g_26_27, ↓hp_g_26_28, ↓hp_g_26_29, ↓hp_g_26_30, ↓hp_p_26_30, ↓hp_g_26_31, ↓hp_g_26_32, ↓hp_p_26_32, ↓hp_a_27, ↓hp_s_27, ↓hp_l_27, ↓hp_a_28, ↓hp_s_28, ↓hp_l_28, ↓hp_a_29, ↓hp_s_29, ↓hp_l_29, ↓hp_a_30, ↓hp_s_30, ↓hp_l_30, ↓hp_a_31, ↓hp_s_31, ↓hp_l_31, ↓hp_a_32, ↓hp_s_32, ↓hp_l_32, ↓hp_a_33, ↓hp_s_33, ↓hp_l_33, ↓hp_a_34, ↓hp_s_34, ↓hp_l_34, ↓hp_a_35, ↓hp_s_35, ↓hp_l_35, ↓hp_a_36, ↓hp_s_36, ↓hp_l_36, ↓hp_a_37, ↓hp_s_37, ↓hp_l_37, ↓hp_a_38, ↓hp_s_38, ↓hp_l_38, ↓hp_a_39, ↓hp_s_39, ↓hp_a_40, ↓hp_s_40, ↓hp_a_41, ↓hp_s_41, ↓hp_l_41, ↓hp_a_42, ↓hp_s_42, ↓hp_l_42, ↓hp_a_43, ↓hp_s_43, ↓hp_l_43, ↓hp_a_44, ↓hp_s_44, ↓hp_l_44, ↓hp_a_45, ↓hp_s_45, ↓hp_l_45, ↓hp_a_46, ↓hp_s_46, ↓hp_l_46, ↓hp_a_47, ↓hp_s_47, ↓hp_l_47, ↓hp_a_48, ↓hp_s_48, ↓hp_l_48, ↓hp_a_49, ↓hp_s_49, ↓hp_l_49, ↓hp_a_50, ↓hp_s_50, ↓hp_l_50, h14, hx, hy]
    · intro t ht
      have ht : t < st.1 + 1 := ht
      show upd (MA 19) q (iO 1) t = iO (va_up (shf q st.1 st.2.1) q 1 t) ∧ upd (MA 17) q (iO gx) t = iO (va_up (shf q st.1 st.2.2.1) q gx t) ∧ upd (MA 18) q (iO gy) t = iO (va_up (shf q st.1 st.2.2.2) q gy t)
      by_cases e : t = q
      · rw [u_eq e, u_eq e, u_eq e, w_eq e, w_eq e, w_eq e]
        exact ⟨rfl, rfl, rfl⟩
      · rw [u_ne e, u_ne e, u_ne e, w_ne e, w_ne e, w_ne e]
        unfold shf
        obtain ⟨r1, r2⟩ := hR t (by omega)
        by_cases c : q < t ∧ t ≤ st.1
        · rw [if_pos c, if_pos c, if_pos c]
          exact r1 c.1
        · rw [if_neg c, if_neg c, if_neg c]
          exact r2 (by omega)
  | succ j ih =>
    intro q MI MA hq hq2 h14 hx hy hR
    obtain ⟨q', rfl⟩ : ∃ q', q = q' + 1 := ⟨q - 1, by omega⟩
    obtain ⟨s1, s2, s3⟩ := (hR q' (by omega)).2 (by omega)
    obtain ⟨MI', MA', f1, f2, f3, f4⟩ := ih q' MI (va_up (va_up (va_up MA 17 (upd (MA 17) (q' + 1) (iO (st.2.2.1 q')))) 18 (upd (MA 18) (q' + 1) (iO (st.2.2.2 q')))) 19 (upd (MA 19) (q' + 1) (iO (st.2.1 q')))) (by omega) (by omega) h14 hx hy (by
      intro t ht
      obtain ⟨r1, r2⟩ := hR t ht
      show (q' < t → upd (MA 19) (q' + 1) (iO (st.2.1 q')) t = _ ∧ upd (MA 17) (q' + 1) (iO (st.2.2.1 q')) t = _ ∧ upd (MA 18) (q' + 1) (iO (st.2.2.2 q')) t = _) ∧ (t < q' → upd (MA 19) (q' + 1) (iO (st.2.1 q')) t = _ ∧ upd (MA 17) (q' + 1) (iO (st.2.2.1 q')) t = _ ∧ upd (MA 18) (q' + 1) (iO (st.2.2.2 q')) t = _)
      constructor
      · intro h
        by_cases e : t = q' + 1
        · rw [u_eq e, u_eq e, u_eq e, e]
          exact ⟨rfl, rfl, rfl⟩
        · rw [u_ne e, u_ne e, u_ne e]
          exact r1 (by omega)
      · intro h
        rw [u_ne (by omega), u_ne (by omega), u_ne (by omega)]
        exact r2 (by omega))
    refine ⟨MI', MA', ?_, f2, f3, fun m h3 h4 h5 => by rw [f4 m h3 h4 h5, w_ne h5, w_ne h4, w_ne h3]⟩
    rw [← f1, eb_X12_gapsOf_11]
    clear f1 f2 f3 f4 ih hR hx hy
    rw [show ((q' + 1 : Nat) : Int) = (q' : Int) + 1 by omega]
    have e1 : ((q' : Int) + 1 - 1).toNat = q' := by omega
    have e2 : ((q' : Int) + 1).toNat = q' + 1 := by omega
    simp (disch := (first | assumption | (unfold i32; omega) | (unfold i64; omega) | omega)) only [↓reduceIte, ki_0, ki_1, ki_2, ki_3, ki_4, ki_5, ki_6, ki_7, ki_8, ki_9, ki_10, ki_11, ki_12, ki_13, ki_14, ki_15, ki_20, ki_21, ki_30, ki_31, ki_40, ki_41, ki_50, ki_51, ki_60, ki_63, ki_64, ki_65, ki_100, ki_158, ki_160, ki_200, ki_212, ki_1000, ki_2000, ki_2001, ki_5000, ki_10000, ki_10001, ki_100000, ki_200000, ki_1000000, ki_2000000, ki_3000000, iO_neg, iO_add, iO_sub, iO_mul, kn_4, kn_8, kn_10, kn_20, kn_24, kn_40, kn_41, kn_50, kn_60, kn_158, kn_160, kn_200, kn_212, kn_2001, tn_lt, fn_lt, tn_le, fn_le, tn_eq, fn_eq, x_lt, x_le, x_eq, x_ix, x_nat, t_lt, f_lt, t_le, f_le, t_eq, f_eq, eq_self, and_self, true_and, and_true, false_and, and_false, if_true, if_false, Int.toNat_natCast, bI_s, bL_s, bA_s, bA_n, bV_s, mq_s, mq_n, en_le, bl_0, bl_1, u_eq, u_ne, w_eq, w_ne, v_eq, v_ne, ↓hp_cc_26, ↓hp_g_26_0, ↓hp_p_26_0, ↓hp_g_26_1, ↓hp_p_26_1, ↓hp_g_26_2, ↓hp_p_26_2, ↓hp_g_26_3, ↓hp_g_26_4, ↓hp_g_26_5, ↓hp_g_26_6, ↓hp_g_26_7, ↓hp_g_26_8, ↓hp_g_26_9, ↓hp_g_26_10, ↓hp_g_26_11, ↓hp_g_26_12, ↓hp_g_26_13, ↓hp_g_26_14, ↓hp_g_26_15, ↓hp_p_26_15, ↓hp_g_26_16, ↓hp_g_26_17, ↓hp_g_26_18, ↓hp_p_26_18, ↓hp_g_26_19, ↓hp_p_26_19, ↓hp_g_26_20, ↓hp_g_26_21, ↓hp_p_26_21, ↓hp_g_26_22, ↓hp_g_26_23, ↓hp_g_26_24, ↓hp_g_26_25, ↓hp_g_26_26, ↓hp_g_26_27, ↓hp_g_26_28, ↓hp_g_26_29, ↓hp_g_26_30, ↓hp_p_26_30, ↓hp_g_26_31, ↓hp_g_26_32, ↓hp_p_26_32, ↓hp_a_27, ↓hp_s_27, ↓hp_l_27, ↓hp_a_28, ↓hp_s_28, ↓hp_l_28, ↓hp_a_29, ↓hp_s_29, ↓hp_l_29, ↓hp_a_30, ↓hp_s_30, ↓hp_l_30, ↓hp_a_31, ↓hp_s_31, ↓hp_l_31, ↓hp_a_32, ↓hp_s_32, ↓hp_l_32, ↓hp_a_33, ↓hp_s_33, ↓hp_l_33, ↓hp_a_34, ↓hp_s_34, ↓hp_l_34, ↓hp_a_35, ↓hp_s_35, ↓hp_l_35, ↓hp_a_36, ↓hp_s_36, ↓hp_l_36, ↓hp_a_37, ↓hp_s_37, ↓hp_l_37, ↓hp_a_38, ↓hp_s_38, ↓hp_l_38, ↓hp_a_39, ↓hp_s_39, ↓hp_a_40, ↓hp_s_40, ↓hp_a_41, ↓hp_s_41, ↓hp_l_41, ↓hp_a_42, ↓hp_s_42, ↓hp_l_42, ↓hp_a_43, ↓hp_s_43, ↓hp_l_43, ↓hp_a_44, ↓hp_s_44, ↓hp_l_44, ↓hp_a_45, ↓hp_s_45, ↓hp_l_45, ↓hp_a_46, ↓hp_s_46, ↓hp_l_46, ↓hp_a_47, ↓hp_s_47, ↓hp_l_47, ↓hp_a_48, ↓hp_s_48, ↓hp_l_48, ↓hp_a_49, ↓hp_s_49, ↓hp_l_49, ↓hp_a_50, ↓hp_s_50, ↓hp_l_50, e1, e2, s1, s2, s3]
    rw [show (q' : Int) + 1 + -1 = (q' : Int) by omega]
theorem m_addGap (hk : k < 8) (hS : SL l.1 l.2.1 l.2.2.1 l.2.2.2) {gx gy : Int} (h1 : -1181 ≤ gx) (h2 : gx ≤ 1181) (h3 : -60 ≤ gy) (h4 : gy ≤ 60) {st : G4} {a : Nat} (hB : GB st a) (ha : a < 60) {MI : Nat → Int32} {MA : Nat → Nat → Int32} (hM : MS MA k l.1 l.2.1 l.2.2.1 l.2.2.2) (hx : MA 15 a = iO gx) (hy : MA 16 a = iO gy) (hG : GMM st MI MA) : ∃ MI' MA', b_X12_gapsOf_8 sc (d + 2) 26 (iO (n : Int)) (iO (k : Int)) (iO (a : Int)) (iO 0) (hp XI XA XP XC MI MA ML D) = b_X12_gapsOf_7 sc (d + 2) 26 (iO (n : Int)) (iO (k : Int)) (iO ((a : Int) + 1)) (hp XI XA XP XC MI' MA' ML D) ∧ GMM (gadd l gx gy st) MI' MA' ∧ (∀ s, s ≠ 7 → MI' s = MI s) ∧ (∀ m, m ≠ 17 → m ≠ 18 → m ≠ 19 → MA' m = MA m) := by
  obtain ⟨b1, b2⟩ := hB
  obtain ⟨g1, g2⟩ := hG
  have hbs : ∀ p, p < st.1 → f_X12_against_ sc (d + 2) 26 (iO (k : Int)) (iO gx) (iO gy) (iO (st.2.2.1 p)) (iO (st.2.2.2 p)) (hp XI XA XP XC MI MA ML D) = some (some (.int (iO (sgn l (gx - st.2.2.1 p) (gy - st.2.2.2 p)))), hp XI XA XP XC MI MA ML D) := by
    intro p hpk
    obtain ⟨-, -, c1, c2, c3, c4⟩ := b2 p hpk
    exact m_beside hk hM hS h1 h2 h3 h4 c1 c2 c3 c4
  have hrs : ∀ p, sgn l (gx - st.2.2.1 p) (gy - st.2.2.2 p) = -1 ∨ sgn l (gx - st.2.2.1 p) (gy - st.2.2.2 p) = 0 ∨ sgn l (gx - st.2.2.1 p) (gy - st.2.2.2 p) = 1 := fun p => sg_range _ _ _
  have find : ∀ (j p : Nat), p + j = st.1 → b_X12_gapsOf_8 sc (d + 2) 26 (iO (n : Int)) (iO (k : Int)) (iO (a : Int)) (iO (p : Int)) (hp XI XA XP XC MI MA ML D) = b_X12_gapsOf_9 sc (d + 2) 26 (iO (n : Int)) (iO (k : Int)) (iO (a : Int)) (iO ((gfnd (fun t => sgn l (gx - st.2.2.1 t) (gy - st.2.2.2 t)) j p : Nat) : Int)) (hp XI XA XP XC MI MA ML D) := by
    intro j
    induction j with
    | zero =>
      intro p hpk
      rw [eb_X12_gapsOf_8, gfnd]
      clear g2 b2 hbs hrs hM
      simp (disch := (first | assumption | (unfold i32; omega) | (unfold i64; omega) | omega)) only [↓reduceIte, ki_0, ki_1, ki_2, ki_3, ki_4, ki_5, ki_6, ki_7, ki_8, ki_9, ki_10, ki_11, ki_12, ki_13, ki_14, ki_15, ki_20, ki_21, ki_30, ki_31, ki_40, ki_41, ki_50, ki_51, ki_60, ki_63, ki_64, ki_65, ki_100, ki_158, ki_160, ki_200, ki_212, ki_1000, ki_2000, ki_2001, ki_5000, ki_10000, ki_10001, ki_100000, ki_200000, ki_1000000, ki_2000000, ki_3000000, iO_neg, iO_add, iO_sub, iO_mul, kn_4, kn_8, kn_10, kn_20, kn_24, kn_40, kn_41, kn_50, kn_60, kn_158, kn_160, kn_200, kn_212, kn_2001, tn_lt, fn_lt, tn_le, fn_le, tn_eq, fn_eq, x_lt, x_le, x_eq, x_ix, x_nat, t_lt, f_lt, t_le, f_le, t_eq, f_eq, eq_self, and_self, true_and, and_true, false_and, and_false, if_true, if_false, Int.toNat_natCast, bI_s, bL_s, bA_s, bA_n, bV_s, mq_s, mq_n, en_le, bl_0, bl_1, u_eq, u_ne, w_eq, w_ne, v_eq, v_ne, ↓hp_cc_26, ↓hp_g_26_0, ↓hp_p_26_0, ↓hp_g_26_1, ↓hp_p_26_1, ↓hp_g_26_2, ↓hp_p_26_2, ↓hp_g_26_3, ↓hp_g_26_4, ↓hp_g_26_5, ↓hp_g_26_6, ↓hp_g_26_7, ↓hp_g_26_8, ↓hp_g_26_9, ↓hp_g_26_10, ↓hp_g_26_11, ↓hp_g_26_12, ↓hp_g_26_13, ↓hp_g_26_14, ↓hp_g_26_15, ↓hp_p_26_15, ↓hp_g_26_16, ↓hp_g_26_17, ↓hp_g_26_18, ↓hp_p_26_18, ↓hp_g_26_19, ↓hp_p_26_19, ↓hp_g_26_20, ↓hp_g_26_21, ↓hp_p_26_21, ↓hp_g_26_22, ↓hp_g_26_23, ↓hp_g_26_24, ↓hp_g_26_25, ↓hp_g_26_26, ↓hp_g_26_27, ↓hp_g_26_28, ↓hp_g_26_29, ↓hp_g_26_30, ↓hp_p_26_30, ↓hp_g_26_31, ↓hp_g_26_32, ↓hp_p_26_32, ↓hp_a_27, ↓hp_s_27, ↓hp_l_27, ↓hp_a_28, ↓hp_s_28, ↓hp_l_28, ↓hp_a_29, ↓hp_s_29, ↓hp_l_29, ↓hp_a_30, ↓hp_s_30, ↓hp_l_30, ↓hp_a_31, ↓hp_s_31, ↓hp_l_31, ↓hp_a_32, ↓hp_s_32, ↓hp_l_32, ↓hp_a_33, ↓hp_s_33, ↓hp_l_33, ↓hp_a_34, ↓hp_s_34, ↓hp_l_34, ↓hp_a_35, ↓hp_s_35, ↓hp_l_35, ↓hp_a_36, ↓hp_s_36, ↓hp_l_36, ↓hp_a_37, ↓hp_s_37, ↓hp_l_37, ↓hp_a_38, ↓hp_s_38, ↓hp_l_38, ↓hp_a_39, ↓hp_s_39, ↓hp_a_40, ↓hp_s_40, ↓hp_a_41, ↓hp_s_41, ↓hp_l_41, ↓hp_a_42, ↓hp_s_42, ↓hp_l_42, ↓hp_a_43, ↓hp_s_43, ↓hp_l_43, ↓hp_a_44, ↓hp_s_44, ↓hp_l_44, ↓hp_a_45, ↓hp_s_45, ↓hp_l_45, ↓hp_a_46, ↓hp_s_46, ↓hp_l_46, ↓hp_a_47, ↓hp_s_47, ↓hp_l_47, ↓hp_a_48, ↓hp_s_48, ↓hp_l_48, ↓hp_a_49, ↓hp_s_49, ↓hp_l_49, ↓hp_a_50, ↓hp_s_50, ↓hp_l_50, g1]
    | succ j ih =>
      intro p hpk
      have hb := hbs p (by omega)
      have hr := hrs p
      obtain ⟨-, t4, t5⟩ := g2 p (by omega)
      have ih' := ih (p + 1) (by omega)
      rw [eb_X12_gapsOf_8, gfnd]
      show _ = b_X12_gapsOf_9 sc (d + 2) 26 (iO (n : Int)) (iO (k : Int)) (iO (a : Int)) (iO ((if sgn l (gx - st.2.2.1 p) (gy - st.2.2.2 p) < 0 then gfnd (fun t => sgn l (gx - st.2.2.1 t) (gy - st.2.2.2 t)) j (p + 1) else p : Nat) : Int)) _
      generalize sgn l (gx - st.2.2.1 p) (gy - st.2.2.2 p) = s at *
      by_cases c : s < 0
      · rw [if_pos c, ← ih']
        have : i32 s := by unfold i32; omega
        clear g2 b2 hbs hrs ih ih' hM hr
        simp (disch := (first | assumption | (unfold i32; omega) | (unfold i64; omega) | omega)) only [↓reduceIte, ki_0, ki_1, ki_2, ki_3, ki_4, ki_5, ki_6, ki_7, ki_8, ki_9, ki_10, ki_11, ki_12, ki_13, ki_14, ki_15, ki_20, ki_21, ki_30, ki_31, ki_40, ki_41, ki_50, ki_51, ki_60, ki_63, ki_64, ki_65, ki_100, ki_158, ki_160, ki_200, ki_212, ki_1000, ki_2000, ki_2001, ki_5000, ki_10000, ki_10001, ki_100000, ki_200000, ki_1000000, ki_2000000, ki_3000000, iO_neg, iO_add, iO_sub, iO_mul, kn_4, kn_8, kn_10, kn_20, kn_24, kn_40, kn_41, kn_50, kn_60, kn_158, kn_160, kn_200, kn_212, kn_2001, tn_lt, fn_lt, tn_le, fn_le, tn_eq, fn_eq, x_lt, x_le, x_eq, x_ix, x_nat, t_lt, f_lt, t_le, f_le, t_eq, f_eq, eq_self, and_self, true_and, and_true, false_and, and_false, if_true, if_false, Int.toNat_natCast, bI_s, bL_s, bA_s, bA_n, bV_s, mq_s, mq_n, en_le, bl_0, bl_1, u_eq, u_ne, w_eq, w_ne, v_eq, v_ne, ↓hp_cc_26, ↓hp_g_26_0, ↓hp_p_26_0, ↓hp_g_26_1, ↓hp_p_26_1, ↓hp_g_26_2, ↓hp_p_26_2, ↓hp_g_26_3, ↓hp_g_26_4, ↓hp_g_26_5, ↓hp_g_26_6, ↓hp_g_26_7, ↓hp_g_26_8, ↓hp_g_26_9, ↓hp_g_26_10, ↓hp_g_26_11, ↓hp_g_26_12, ↓hp_g_26_13, ↓hp_g_26_14, ↓hp_g_26_15, ↓hp_p_26_15, ↓hp_g_26_16, ↓hp_g_26_17, ↓hp_g_26_18, ↓hp_p_26_18, ↓hp_g_26_19, ↓hp_p_26_19, ↓hp_g_26_20, ↓hp_g_26_21, ↓hp_p_26_21, ↓hp_g_26_22, ↓hp_g_26_23, ↓hp_g_26_24, ↓hp_g_26_25, ↓hp_g_26_26, ↓hp_g_26_27, ↓hp_g_26_28, ↓hp_g_26_29, ↓hp_g_26_30, ↓hp_p_26_30, ↓hp_g_26_31, ↓hp_g_26_32, ↓hp_p_26_32, ↓hp_a_27, ↓hp_s_27, ↓hp_l_27, ↓hp_a_28, ↓hp_s_28, ↓hp_l_28, ↓hp_a_29, ↓hp_s_29, ↓hp_l_29, ↓hp_a_30, ↓hp_s_30, ↓hp_l_30, ↓hp_a_31, ↓hp_s_31, ↓hp_l_31, ↓hp_a_32, ↓hp_s_32, ↓hp_l_32, ↓hp_a_33, ↓hp_s_33, ↓hp_l_33, ↓hp_a_34, ↓hp_s_34, ↓hp_l_34, ↓hp_a_35, ↓hp_s_35, ↓hp_l_35, ↓hp_a_36, ↓hp_s_36, ↓hp_l_36, ↓hp_a_37, ↓hp_s_37, ↓hp_l_37, ↓hp_a_38, ↓hp_s_38, ↓hp_l_38, ↓hp_a_39, ↓hp_s_39, ↓hp_a_40, ↓hp_s_40, ↓hp_a_41, ↓hp_s_41, ↓hp_l_41, ↓hp_a_42, ↓hp_s_42, ↓hp_l_42, ↓hp_a_43, ↓hp_s_43, ↓hp_l_43, ↓hp_a_44, ↓hp_s_44, ↓hp_l_44, ↓hp_a_45, ↓hp_s_45, ↓hp_l_45, ↓hp_a_46, ↓hp_s_46, ↓hp_l_46, ↓hp_a_47, ↓hp_s_47, ↓hp_l_47, ↓hp_a_48, ↓hp_s_48, ↓hp_l_48, ↓hp_a_49, ↓hp_s_49, ↓hp_l_49, ↓hp_a_50, ↓hp_s_50, ↓hp_l_50, g1, hx, hy, t4, t5, hb]
        try rfl
      · rw [if_neg c]
        have c : 0 ≤ s := by omega
        have : i32 s := by unfold i32; omega
        clear g2 b2 hbs hrs ih ih' hM hr
        simp (disch := (first | assumption | (unfold i32; omega) | (unfold i64; omega) | omega)) only [↓reduceIte, ki_0, ki_1, ki_2, ki_3, ki_4, ki_5, ki_6, ki_7, ki_8, ki_9, ki_10, ki_11, ki_12, ki_13, ki_14, ki_15, ki_20, ki_21, ki_30, ki_31, ki_40, ki_41, ki_50, ki_51, ki_60, ki_63, ki_64, ki_65, ki_100, ki_158, ki_160, ki_200, ki_212, ki_1000, ki_2000, ki_2001, ki_5000, ki_10000, ki_10001, ki_100000, ki_200000, ki_1000000, ki_2000000, ki_3000000, iO_neg, iO_add, iO_sub, iO_mul, kn_4, kn_8, kn_10, kn_20, kn_24, kn_40, kn_41, kn_50, kn_60, kn_158, kn_160, kn_200, kn_212, kn_2001, tn_lt, fn_lt, tn_le, fn_le, tn_eq, fn_eq, x_lt, x_le, x_eq, x_ix, x_nat, t_lt, f_lt, t_le, f_le, t_eq, f_eq, eq_self, and_self, true_and, and_true, false_and, and_false, if_true, if_false, Int.toNat_natCast, bI_s, bL_s, bA_s, bA_n, bV_s, mq_s, mq_n, en_le, bl_0, bl_1, u_eq, u_ne, w_eq, w_ne, v_eq, v_ne, ↓hp_cc_26, ↓hp_g_26_0, ↓hp_p_26_0, ↓hp_g_26_1, ↓hp_p_26_1, ↓hp_g_26_2, ↓hp_p_26_2, ↓hp_g_26_3, ↓hp_g_26_4, ↓hp_g_26_5, ↓hp_g_26_6, ↓hp_g_26_7, ↓hp_g_26_8, ↓hp_g_26_9, ↓hp_g_26_10, ↓hp_g_26_11, ↓hp_g_26_12, ↓hp_g_26_13, ↓hp_g_26_14, ↓hp_g_26_15, ↓hp_p_26_15, ↓hp_g_26_16, ↓hp_g_26_17, ↓hp_g_26_18, ↓hp_p_26_18, ↓hp_g_26_19, ↓hp_p_26_19, ↓hp_g_26_20, ↓hp_g_26_21, ↓hp_p_26_21, ↓hp_g_26_22, ↓hp_g_26_23, ↓hp_g_26_24, ↓hp_g_26_25, ↓hp_g_26_26, ↓hp_g_26_27, ↓hp_g_26_28, ↓hp_g_26_29, ↓hp_g_26_30, ↓hp_p_26_30, ↓hp_g_26_31, ↓hp_g_26_32, ↓hp_p_26_32, ↓hp_a_27, ↓hp_s_27, ↓hp_l_27, ↓hp_a_28, ↓hp_s_28, ↓hp_l_28, ↓hp_a_29, ↓hp_s_29, ↓hp_l_29, ↓hp_a_30, ↓hp_s_30, ↓hp_l_30, ↓hp_a_31, ↓hp_s_31, ↓hp_l_31, ↓hp_a_32, ↓hp_s_32, ↓hp_l_32, ↓hp_a_33, ↓hp_s_33, ↓hp_l_33, ↓hp_a_34, ↓hp_s_34, ↓hp_l_34, ↓hp_a_35, ↓hp_s_35, ↓hp_l_35, ↓hp_a_36, ↓hp_s_36, ↓hp_l_36, ↓hp_a_37, ↓hp_s_37, ↓hp_l_37, ↓hp_a_38, ↓hp_s_38, ↓hp_l_38, ↓hp_a_39, ↓hp_s_39, ↓hp_a_40, ↓hp_s_40, ↓hp_a_41, ↓hp_s_41, ↓hp_l_41, ↓hp_a_42, ↓hp_s_42, ↓hp_l_42, ↓hp_a_43, ↓hp_s_43, ↓hp_l_43, ↓hp_a_44, ↓hp_s_44, ↓hp_l_44, ↓hp_a_45, ↓hp_s_45, ↓hp_l_45, ↓hp_a_46, ↓hp_s_46, ↓hp_l_46, ↓hp_a_47, ↓hp_s_47, ↓hp_l_47, ↓hp_a_48, ↓hp_s_48, ↓hp_l_48, ↓hp_a_49, ↓hp_s_49, ↓hp_l_49, ↓hp_a_50, ↓hp_s_50, ↓hp_l_50, g1, hx, hy, t4, t5, hb]
  have hf := find st.1 0 (by omega)
  have hf : b_X12_gapsOf_8 sc (d + 2) 26 (iO (n : Int)) (iO (k : Int)) (iO (a : Int)) (iO 0) (hp XI XA XP XC MI MA ML D) = b_X12_gapsOf_9 sc (d + 2) 26 (iO (n : Int)) (iO (k : Int)) (iO (a : Int)) (iO ((gpl l gx gy st : Nat) : Int)) (hp XI XA XP XC MI MA ML D) := hf
  have hpl : gpl l gx gy st ≤ st.1 := by
    have := gfnd_bd (s := fun t => sgn l (gx - st.2.2.1 t) (gy - st.2.2.2 t)) st.1 0
    unfold gpl
    omega
  rw [hf]
  unfold gadd
  generalize gpl l gx gy st = p at *
  have new : ∃ MI' MA', b_X12_gapsOf_11 sc (d + 2) 26 (iO (n : Int)) (iO (k : Int)) (iO (a : Int)) (iO (p : Int)) (iO (st.1 : Int)) (hp XI XA XP XC MI MA ML D) = b_X12_gapsOf_7 sc (d + 2) 26 (iO (n : Int)) (iO (k : Int)) (iO ((a : Int) + 1)) (hp XI XA XP XC MI' MA' ML D) ∧ GMM (st.1 + 1, va_up (shf p st.1 st.2.1) p 1, va_up (shf p st.1 st.2.2.1) p gx, va_up (shf p st.1 st.2.2.2) p gy) MI' MA' ∧ (∀ s, s ≠ 7 → MI' s = MI s) ∧ (∀ m, m ≠ 17 → m ≠ 18 → m ≠ 19 → MA' m = MA m) :=
    m_insert (sc := sc) (d := d + 2) (XI := XI) (XA := XA) (XP := XP) (XC := XC) (ML := ML) (D := D) (n := n) ha hpl (by omega) (st.1 - p) st.1 MI MA (by omega) (Nat.le_refl _) g1 hx hy (fun t ht => ⟨fun h => by omega, fun h => g2 t h⟩)
  by_cases c1 : p < st.1
  · have hb := hbs p c1
    have hr := hrs p
    obtain ⟨t3, t4, t5⟩ := g2 p c1
    by_cases c2 : sgn l (gx - st.2.2.1 p) (gy - st.2.2.2 p) = 0
    · rw [if_pos ⟨c1, c2⟩]
      refine ⟨MI, va_up MA 19 (upd (MA 19) p (iO (st.2.1 p + 1))), ?_, ⟨g1, ?_⟩, fun _ _ => rfl, fun m _ _ h3 => w_ne h3⟩
      · rw [eb_X12_gapsOf_9]
        rw [c2] at hb
        clear g2 b2 hbs hrs find hf new hr hM
        simp (disch := (first | assumption | (unfold i32; omega) | (unfold i64; omega) | omega)) only [↓reduceIte, ki_0, ki_1, ki_2, ki_3, ki_4, ki_5, ki_6, ki_7, ki_8, ki_9, ki_10, ki_11, ki_12, ki_13, ki_14, ki_15, ki_20, ki_21, ki_30, ki_31, ki_40, ki_41, ki_50, ki_51, ki_60, ki_63, ki_64, ki_65, ki_100, ki_158, ki_160, ki_200, ki_212, ki_1000, ki_2000, ki_2001, ki_5000, ki_10000, ki_10001, ki_100000, ki_200000, ki_1000000, ki_2000000, ki_3000000, iO_neg, iO_add, iO_sub, iO_mul, kn_4, kn_8, kn_10, kn_20, kn_24, kn_40, kn_41, kn_50, kn_60, kn_158, kn_160, kn_200, kn_212, kn_2001, tn_lt, fn_lt, tn_le, fn_le, tn_eq, fn_eq, x_lt, x_le, x_eq, x_ix, x_nat, t_lt, f_lt, t_le, f_le, t_eq, f_eq, eq_self, and_self, true_and, and_true, false_and, and_false, if_true, if_false, Int.toNat_natCast, bI_s, bL_s, bA_s, bA_n, bV_s, mq_s, mq_n, en_le, bl_0, bl_1, u_eq, u_ne, w_eq, w_ne, v_eq, v_ne, ↓hp_cc_26, ↓hp_g_26_0, ↓hp_p_26_0, ↓hp_g_26_1, ↓hp_p_26_1, ↓hp_g_26_2, ↓hp_p_26_2, ↓hp_g_26_3, ↓hp_g_26_4, ↓hp_g_26_5, ↓hp_g_26_6, ↓hp_g_26_7, ↓hp_g_26_8, ↓hp_g_26_9, ↓hp_g_26_10, ↓hp_g_26_11, ↓hp_g_26_12, ↓hp_g_26_13, ↓hp_g_26_14, ↓hp_g_26_15, ↓hp_p_26_15, ↓hp_g_26_16, ↓hp_g_26_17, ↓hp_g_26_18, ↓hp_p_26_18, ↓hp_g_26_19, ↓hp_p_26_19, ↓hp_g_26_20, ↓hp_g_26_21, ↓hp_p_26_21, ↓hp_g_26_22, ↓hp_g_26_23, ↓hp_g_26_24, ↓hp_g_26_25, ↓hp_g_26_26, ↓hp_g_26_27, ↓hp_g_26_28, ↓hp_g_26_29, ↓hp_g_26_30, ↓hp_p_26_30, ↓hp_g_26_31, ↓hp_g_26_32, ↓hp_p_26_32, ↓hp_a_27, ↓hp_s_27, ↓hp_l_27, ↓hp_a_28, ↓hp_s_28, ↓hp_l_28, ↓hp_a_29, ↓hp_s_29, ↓hp_l_29, ↓hp_a_30, ↓hp_s_30, ↓hp_l_30, ↓hp_a_31, ↓hp_s_31, ↓hp_l_31, ↓hp_a_32, ↓hp_s_32, ↓hp_l_32, ↓hp_a_33, ↓hp_s_33, ↓hp_l_33, ↓hp_a_34, ↓hp_s_34, ↓hp_l_34, ↓hp_a_35, ↓hp_s_35, ↓hp_l_35, ↓hp_a_36, ↓hp_s_36, ↓hp_l_36, ↓hp_a_37, ↓hp_s_37, ↓hp_l_37, ↓hp_a_38, ↓hp_s_38, ↓hp_l_38, ↓hp_a_39, ↓hp_s_39, ↓hp_a_40, ↓hp_s_40, ↓hp_a_41, ↓hp_s_41, ↓hp_l_41, ↓hp_a_42, ↓hp_s_42, ↓hp_l_42, ↓hp_a_43, ↓hp_s_43, ↓hp_l_43, ↓hp_a_44, ↓hp_s_44, ↓hp_l_44, ↓hp_a_45, ↓hp_s_45, ↓hp_l_45, ↓hp_a_46, ↓hp_s_46, ↓hp_l_46, ↓hp_a_47, ↓hp_s_47, ↓hp_l_47, ↓hp_a_48, ↓hp_s_48, ↓hp_l_48, ↓hp_a_49, ↓hp_s_49, ↓hp_l_49, ↓hp_a_50, ↓hp_s_50, ↓hp_l_50, g1, hx, hy, t4, t5, hb, t3]
      · intro t ht
        have ht : t < st.1 := ht
        obtain ⟨r3, r4, r5⟩ := g2 t ht
        refine ⟨?_, r4, r5⟩
        show upd (MA 19) p (iO (st.2.1 p + 1)) t = iO (va_up st.2.1 p (st.2.1 p + 1) t)
        by_cases e : t = p
        · rw [u_eq e, w_eq e]
        · rw [u_ne e, w_ne e]; exact r3
    · rw [if_neg (fun q => c2 q.2)]
      obtain ⟨MI', MA', f1, f2⟩ := new
      refine ⟨MI', MA', ?_, f2⟩
      rw [← f1, eb_X12_gapsOf_9]
      generalize sgn l (gx - st.2.2.1 p) (gy - st.2.2.2 p) = s at *
      have : i32 s := by unfold i32; omega
      clear g2 b2 hbs hrs find hf f1 f2 hM hr
      simp (disch := (first | assumption | (unfold i32; omega) | (unfold i64; omega) | omega)) only [↓reduceIte, ki_0, ki_1, ki_2, ki_3, ki_4, ki_5, ki_6, ki_7, ki_8, ki_9, ki_10, ki_11, ki_12, ki_13, ki_14, ki_15, ki_20, ki_21, ki_30, ki_31, ki_40, ki_41, ki_50, ki_51, ki_60, ki_63, ki_64, ki_65, ki_100, ki_158, ki_160, ki_200, ki_212, ki_1000, ki_2000, ki_2001, ki_5000, ki_10000, ki_10001, ki_100000, ki_200000, ki_1000000, ki_2000000, ki_3000000, iO_neg, iO_add, iO_sub, iO_mul, kn_4, kn_8, kn_10, kn_20, kn_24, kn_40, kn_41, kn_50, kn_60, kn_158, kn_160, kn_200, kn_212, kn_2001, tn_lt, fn_lt, tn_le, fn_le, tn_eq, fn_eq, x_lt, x_le, x_eq, x_ix, x_nat, t_lt, f_lt, t_le, f_le, t_eq, f_eq, eq_self, and_self, true_and, and_true, false_and, and_false, if_true, if_false, Int.toNat_natCast, bI_s, bL_s, bA_s, bA_n, bV_s, mq_s, mq_n, en_le, bl_0, bl_1, u_eq, u_ne, w_eq, w_ne, v_eq, v_ne, ↓hp_cc_26, ↓hp_g_26_0, ↓hp_p_26_0, ↓hp_g_26_1, ↓hp_p_26_1, ↓hp_g_26_2, ↓hp_p_26_2, ↓hp_g_26_3, ↓hp_g_26_4, ↓hp_g_26_5, ↓hp_g_26_6, ↓hp_g_26_7, ↓hp_g_26_8, ↓hp_g_26_9, ↓hp_g_26_10, ↓hp_g_26_11, ↓hp_g_26_12, ↓hp_g_26_13, ↓hp_g_26_14, ↓hp_g_26_15, ↓hp_p_26_15, ↓hp_g_26_16, ↓hp_g_26_17, ↓hp_g_26_18, ↓hp_p_26_18, ↓hp_g_26_19, ↓hp_p_26_19, ↓hp_g_26_20, ↓hp_g_26_21, ↓hp_p_26_21, ↓hp_g_26_22, ↓hp_g_26_23, ↓hp_g_26_24, ↓hp_g_26_25, ↓hp_g_26_26, ↓hp_g_26_27, ↓hp_g_26_28, ↓hp_g_26_29, ↓hp_g_26_30, ↓hp_p_26_30, ↓hp_g_26_31, ↓hp_g_26_32, ↓hp_p_26_32, ↓hp_a_27, ↓hp_s_27, ↓hp_l_27, ↓hp_a_28, ↓hp_s_28, ↓hp_l_28, ↓hp_a_29, ↓hp_s_29, ↓hp_l_29, ↓hp_a_30, ↓hp_s_30, ↓hp_l_30, ↓hp_a_31, ↓hp_s_31, ↓hp_l_31, ↓hp_a_32, ↓hp_s_32, ↓hp_l_32, ↓hp_a_33, ↓hp_s_33, ↓hp_l_33, ↓hp_a_34, ↓hp_s_34, ↓hp_l_34, ↓hp_a_35, ↓hp_s_35, ↓hp_l_35, ↓hp_a_36, ↓hp_s_36, ↓hp_l_36, ↓hp_a_37, ↓hp_s_37, ↓hp_l_37, ↓hp_a_38, ↓hp_s_38, ↓hp_l_38, ↓hp_a_39, ↓hp_s_39, ↓hp_a_40, ↓hp_s_40, ↓hp_a_41, ↓hp_s_41, ↓hp_l_41, ↓hp_a_42, ↓hp_s_42, ↓hp_l_42, ↓hp_a_43, ↓hp_s_43, ↓hp_l_43, ↓hp_a_44, ↓hp_s_44, ↓hp_l_44, ↓hp_a_45, ↓hp_s_45, ↓hp_l_45, ↓hp_a_46, ↓hp_s_46, ↓hp_l_46, ↓hp_a_47, ↓hp_s_47, ↓hp_l_47, ↓hp_a_48, ↓hp_s_48, ↓hp_l_48, ↓hp_a_49, ↓hp_s_49, ↓hp_l_49, ↓hp_a_50, ↓hp_s_50, ↓hp_l_50, g1, hx, hy, t4, t5, hb]
  · rw [if_neg (fun q => c1 q.1)]
    obtain ⟨MI', MA', f1, f2⟩ := new
    refine ⟨MI', MA', ?_, f2⟩
    rw [← f1, eb_X12_gapsOf_9]
    clear g2 b2 hbs hrs find hf f1 f2 hM
    simp (disch := (first | assumption | (unfold i32; omega) | (unfold i64; omega) | omega)) only [↓reduceIte, ki_0, ki_1, ki_2, ki_3, ki_4, ki_5, ki_6, ki_7, ki_8, ki_9, ki_10, ki_11, ki_12, ki_13, ki_14, ki_15, ki_20, ki_21, ki_30, ki_31, ki_40, ki_41, ki_50, ki_51, ki_60, ki_63, ki_64, ki_65, ki_100, ki_158, ki_160, ki_200, ki_212, ki_1000, ki_2000, ki_2001, ki_5000, ki_10000, ki_10001, ki_100000, ki_200000, ki_1000000, ki_2000000, ki_3000000, iO_neg, iO_add, iO_sub, iO_mul, kn_4, kn_8, kn_10, kn_20, kn_24, kn_40, kn_41, kn_50, kn_60, kn_158, kn_160, kn_200, kn_212, kn_2001, tn_lt, fn_lt, tn_le, fn_le, tn_eq, fn_eq, x_lt, x_le, x_eq, x_ix, x_nat, t_lt, f_lt, t_le, f_le, t_eq, f_eq, eq_self, and_self, true_and, and_true, false_and, and_false, if_true, if_false, Int.toNat_natCast, bI_s, bL_s, bA_s, bA_n, bV_s, mq_s, mq_n, en_le, bl_0, bl_1, u_eq, u_ne, w_eq, w_ne, v_eq, v_ne, ↓hp_cc_26, ↓hp_g_26_0, ↓hp_p_26_0, ↓hp_g_26_1, ↓hp_p_26_1, ↓hp_g_26_2, ↓hp_p_26_2, ↓hp_g_26_3, ↓hp_g_26_4, ↓hp_g_26_5, ↓hp_g_26_6, ↓hp_g_26_7, ↓hp_g_26_8, ↓hp_g_26_9, ↓hp_g_26_10, ↓hp_g_26_11, ↓hp_g_26_12, ↓hp_g_26_13, ↓hp_g_26_14, ↓hp_g_26_15, ↓hp_p_26_15, ↓hp_g_26_16, ↓hp_g_26_17, ↓hp_g_26_18, ↓hp_p_26_18, ↓hp_g_26_19, ↓hp_p_26_19, ↓hp_g_26_20, ↓hp_g_26_21, ↓hp_p_26_21, ↓hp_g_26_22, ↓hp_g_26_23, ↓hp_g_26_24, ↓hp_g_26_25, ↓hp_g_26_26, ↓hp_g_26_27, ↓hp_g_26_28, ↓hp_g_26_29, ↓hp_g_26_30, ↓hp_p_26_30, ↓hp_g_26_31, ↓hp_g_26_32, ↓hp_p_26_32, ↓hp_a_27, ↓hp_s_27, ↓hp_l_27, ↓hp_a_28, ↓hp_s_28, ↓hp_l_28, ↓hp_a_29, ↓hp_s_29, ↓hp_l_29, ↓hp_a_30, ↓hp_s_30, ↓hp_l_30, ↓hp_a_31, ↓hp_s_31, ↓hp_l_31, ↓hp_a_32, ↓hp_s_32, ↓hp_l_32, ↓hp_a_33, ↓hp_s_33, ↓hp_l_33, ↓hp_a_34, ↓hp_s_34, ↓hp_l_34, ↓hp_a_35, ↓hp_s_35, ↓hp_l_35, ↓hp_a_36, ↓hp_s_36, ↓hp_l_36, ↓hp_a_37, ↓hp_s_37, ↓hp_l_37, ↓hp_a_38, ↓hp_s_38, ↓hp_l_38, ↓hp_a_39, ↓hp_s_39, ↓hp_a_40, ↓hp_s_40, ↓hp_a_41, ↓hp_s_41, ↓hp_l_41, ↓hp_a_42, ↓hp_s_42, ↓hp_l_42, ↓hp_a_43, ↓hp_s_43, ↓hp_l_43, ↓hp_a_44, ↓hp_s_44, ↓hp_l_44, ↓hp_a_45, ↓hp_s_45, ↓hp_l_45, ↓hp_a_46, ↓hp_s_46, ↓hp_l_46, ↓hp_a_47, ↓hp_s_47, ↓hp_l_47, ↓hp_a_48, ↓hp_s_48, ↓hp_l_48, ↓hp_a_49, ↓hp_s_49, ↓hp_l_49, ↓hp_a_50, ↓hp_s_50, ↓hp_l_50, g1]
theorem m_gaps7 (hk : k < 8) (hS : SL l.1 l.2.1 l.2.2.1 l.2.2.2) (hn : n ≤ 60) : ∀ (j a : Nat) (MI : Nat → Int32) (MA : Nat → Nat → Int32), a + j = n → MS MA k l.1 l.2.1 l.2.2.1 l.2.2.2 → (∀ t, t < n → MA 15 t = iO (gxf l n t) ∧ MA 16 t = iO (gyf l n t)) → GMM (gst l (gxf l n) (gyf l n) a) MI MA →
    ∃ MI' MA', b_X12_gapsOf_7 sc (d + 2) 26 (iO (n : Int)) (iO (k : Int)) (iO (a : Int)) (hp XI XA XP XC MI MA ML D) = some (none, hp XI XA XP XC MI' MA' ML D) ∧ GMM (gsts l n) MI' MA' ∧ (∀ s, s ≠ 7 → MI' s = MI s) ∧ (∀ m, m ≠ 17 → m ≠ 18 → m ≠ 19 → MA' m = MA m) := by
  intro j
  induction j with
  | zero =>
    intro a MI MA ha hM hxy hG
    obtain rfl : a = n := by omega
    refine ⟨MI, MA, ?_, hG, fun _ _ => rfl, fun _ _ _ _ => rfl⟩
    rw [eb_X12_gapsOf_7]
    clear hxy hG hM
    simp (disch := (first | assumption | (unfold i32; omega) | (unfold i64; omega) | omega)) only [↓reduceIte, ki_0, ki_1, ki_2, ki_3, ki_4, ki_5, ki_6, ki_7, ki_8, ki_9, ki_10, ki_11, ki_12, ki_13, ki_14, ki_15, ki_20, ki_21, ki_30, ki_31, ki_40, ki_41, ki_50, ki_51, ki_60, ki_63, ki_64, ki_65, ki_100, ki_158, ki_160, ki_200, ki_212, ki_1000, ki_2000, ki_2001, ki_5000, ki_10000, ki_10001, ki_100000, ki_200000, ki_1000000, ki_2000000, ki_3000000, iO_neg, iO_add, iO_sub, iO_mul, kn_4, kn_8, kn_10, kn_20, kn_24, kn_40, kn_41, kn_50, kn_60, kn_158, kn_160, kn_200, kn_212, kn_2001, tn_lt, fn_lt, tn_le, fn_le, tn_eq, fn_eq, x_lt, x_le, x_eq, x_ix, x_nat, t_lt, f_lt, t_le, f_le, t_eq, f_eq, eq_self, and_self, true_and, and_true, false_and, and_false, if_true, if_false, Int.toNat_natCast, bI_s, bL_s, bA_s, bA_n, bV_s, mq_s, mq_n, en_le, bl_0, bl_1, u_eq, u_ne, w_eq, w_ne, v_eq, v_ne]
  | succ j ih =>
    intro a MI MA ha hM hxy hG
    obtain ⟨c1, c2, c3, c4, c5⟩ := gf_bd hS hn (a := a) (by omega)
    obtain ⟨hx, hy⟩ := hxy a (by omega)
    have hB := gst_bd (l := l) (gx := gxf l n) (gy := gyf l n) (n := n) (fun i hi => by obtain ⟨q1, q2, q3, q4, -⟩ := gf_bd hS hn hi; exact ⟨q1, q2, q3, q4⟩) a (by omega)
    obtain ⟨MI1, MA1, f1, f2, f3, f4⟩ := m_addGap (sc := sc) (d := d) (XI := XI) (XA := XA) (XP := XP) (XC := XC) (ML := ML) (D := D) (n := n) hk hS c1 c2 c3 c4 hB (by omega) hM hx hy hG
    obtain ⟨q0, q1, q2, q3⟩ := hM
    obtain ⟨MI', MA', k1, k2, k3, k4⟩ := ih (a + 1) MI1 MA1 (by omega) ⟨by rw [f4 0 (by decide) (by decide) (by decide)]; exact q0, by rw [f4 1 (by decide) (by decide) (by decide)]; exact q1, by rw [f4 2 (by decide) (by decide) (by decide)]; exact q2, by rw [f4 3 (by decide) (by decide) (by decide)]; exact q3⟩ (fun t ht => by rw [f4 15 (by decide) (by decide) (by decide), f4 16 (by decide) (by decide) (by decide)]; exact hxy t ht) f2
    refine ⟨MI', MA', ?_, k2, fun s hs => by rw [k3 s hs, f3 s hs], fun m h3 h4 h5 => by rw [k4 m h3 h4 h5, f4 m h3 h4 h5]⟩
    rw [← k1]
    refine Eq.trans ?_ f1
    rw [eb_X12_gapsOf_7, if_neg (nle (a := (n : Int)) (b := (a : Int)) (by unfold i32; omega) (by unfold i32; omega) (by omega))]
    rfl
theorem m_gaps1 (hS : SL l.1 l.2.1 l.2.2.1 l.2.2.2) (hn : n ≤ 60) {MI : Nat → Int32} : ∀ (j i : Nat) (MA : Nat → Nat → Int32), i + j = n → (∀ t, t < n → MA 14 t = iO (WN l t)) → (∀ t, t < n → MA 13 t = iO (ords l n t : Int)) → (∀ t, t < i → MA 15 (ords l n t) = iO (gxf l n (ords l n t)) ∧ MA 16 (ords l n t) = iO (gyf l n (ords l n t))) →
    ∃ MA', b_X12_gapsOf_1 sc d 26 (iO (n : Int)) (iO (k : Int)) (iO (i : Int)) (hp XI XA XP XC MI MA ML D) = b_X12_gapsOf_7 sc d 26 (iO (n : Int)) (iO (k : Int)) (iO 0) (hp XI XA XP XC MI MA' ML D) ∧ (∀ m, m ≠ 15 → m ≠ 16 → MA' m = MA m) ∧ (∀ t, t < n → MA' 15 (ords l n t) = iO (gxf l n (ords l n t)) ∧ MA' 16 (ords l n t) = iO (gyf l n (ords l n t))) := by
  have hpm : perm (ords l n) n := ordr_perm (ah := ahd l) n
  intro j
  induction j with
  | zero =>
    intro i MA hi h14 h13 hxy
    obtain rfl : i = n := by omega
    refine ⟨MA, ?_, fun _ _ _ => rfl, hxy⟩
    rw [eb_X12_gapsOf_1]
    clear h14 h13 hxy hpm
    simp (disch := (first | assumption | (unfold i32; omega) | (unfold i64; omega) | omega)) only [↓reduceIte, ki_0, ki_1, ki_2, ki_3, ki_4, ki_5, ki_6, ki_7, ki_8, ki_9, ki_10, ki_11, ki_12, ki_13, ki_14, ki_15, ki_20, ki_21, ki_30, ki_31, ki_40, ki_41, ki_50, ki_51, ki_60, ki_63, ki_64, ki_65, ki_100, ki_158, ki_160, ki_200, ki_212, ki_1000, ki_2000, ki_2001, ki_5000, ki_10000, ki_10001, ki_100000, ki_200000, ki_1000000, ki_2000000, ki_3000000, iO_neg, iO_add, iO_sub, iO_mul, kn_4, kn_8, kn_10, kn_20, kn_24, kn_40, kn_41, kn_50, kn_60, kn_158, kn_160, kn_200, kn_212, kn_2001, tn_lt, fn_lt, tn_le, fn_le, tn_eq, fn_eq, x_lt, x_le, x_eq, x_ix, x_nat, t_lt, f_lt, t_le, f_le, t_eq, f_eq, eq_self, and_self, true_and, and_true, false_and, and_false, if_true, if_false, Int.toNat_natCast, bI_s, bL_s, bA_s, bA_n, bV_s, mq_s, mq_n, en_le, bl_0, bl_1, u_eq, u_ne, w_eq, w_ne, v_eq, v_ne]
  | succ j ih =>
    intro i MA hi h14 h13 hxy
    have t13 := h13 i (by omega)
    have b1 := hpm.1 i (by omega)
    have hin := inv_of hpm (t := i) (by omega)
    have hnx : nxt (ords l n) n (ords l n i) = nxo (ords l n) n i := by unfold nxt; rw [hin]
    have b2 := nxt_lt hpm (t := i) (by omega)
    have t14 := h14 (ords l n i) b1
    have t14b := h14 (nxo (ords l n) n i) b2
    have w1 := WN_bd hS (N := ords l n i) (by omega)
    have w2 := WN_bd hS (N := nxo (ords l n) n i) (by omega)
    obtain ⟨MA', f1, f2, f3⟩ := ih (i + 1) (va_up (va_up MA 15 (upd (MA 15) (ords l n i) (iO (gxf l n (ords l n i))))) 16 (upd (MA 16) (ords l n i) (iO (gyf l n (ords l n i))))) (by omega) h14 h13 (by
      intro t ht
      show upd (MA 15) (ords l n i) (iO (gxf l n (ords l n i))) (ords l n t) = _ ∧ upd (MA 16) (ords l n i) (iO (gyf l n (ords l n i))) (ords l n t) = _
      by_cases e : t = i
      · rw [e, u_eq rfl, u_eq rfl]
        exact ⟨rfl, rfl⟩
      · rw [u_ne (fun q => e (hpm.2.1 t i (by omega) (by omega) q)), u_ne (fun q => e (hpm.2.1 t i (by omega) (by omega) q))]
        exact hxy t (by omega))
    refine ⟨MA', ?_, fun m h1 h2 => by rw [f2 m h1 h2, w_ne h2, w_ne h1], f3⟩
    have eX : gxf l n (ords l n i) = WN l (ords l n i) - WN l (nxo (ords l n) n i) + (if i + 1 = n then 1 else 0) := by
      unfold gxf
      rw [hnx, hin]
    have eY : gyf l n (ords l n i) = (nxo (ords l n) n i : Int) - (ords l n i : Int) := by
      unfold gyf
      rw [hnx]
    rw [eX, eY] at f1
    rw [← f1, eb_X12_gapsOf_1]
    by_cases c : i + 1 < n
    · have enx : nxo (ords l n) n i = ords l n (i + 1) := if_pos c
      have t13b := h13 (i + 1) c
      rw [← enx] at t13b
      rw [if_neg (show ¬ i + 1 = n by omega)]
      have e1 : ((i : Int) + 1).toNat = i + 1 := by omega
      generalize WN l (nxo (ords l n) n i) = Q at *
      generalize nxo (ords l n) n i = N at *
      generalize WN l (ords l n i) = P at *
      generalize ords l n i = O at *
      clear f1 f2 f3 ih h14 h13 hxy hpm eX eY enx hin hnx
      simp (disch := (first | assumption | (unfold i32; omega) | (unfold i64; omega) | omega)) only [↓reduceIte, ki_0, ki_1, ki_2, ki_3, ki_4, ki_5, ki_6, ki_7, ki_8, ki_9, ki_10, ki_11, ki_12, ki_13, ki_14, ki_15, ki_20, ki_21, ki_30, ki_31, ki_40, ki_41, ki_50, ki_51, ki_60, ki_63, ki_64, ki_65, ki_100, ki_158, ki_160, ki_200, ki_212, ki_1000, ki_2000, ki_2001, ki_5000, ki_10000, ki_10001, ki_100000, ki_200000, ki_1000000, ki_2000000, ki_3000000, iO_neg, iO_add, iO_sub, iO_mul, kn_4, kn_8, kn_10, kn_20, kn_24, kn_40, kn_41, kn_50, kn_60, kn_158, kn_160, kn_200, kn_212, kn_2001, tn_lt, fn_lt, tn_le, fn_le, tn_eq, fn_eq, x_lt, x_le, x_eq, x_ix, x_nat, t_lt, f_lt, t_le, f_le, t_eq, f_eq, eq_self, and_self, true_and, and_true, false_and, and_false, if_true, if_false, Int.toNat_natCast, bI_s, bL_s, bA_s, bA_n, bV_s, mq_s, mq_n, en_le, bl_0, bl_1, u_eq, u_ne, w_eq, w_ne, v_eq, v_ne, ↓hp_cc_26, ↓hp_g_26_0, ↓hp_p_26_0, ↓hp_g_26_1, ↓hp_p_26_1, ↓hp_g_26_2, ↓hp_p_26_2, ↓hp_g_26_3, ↓hp_g_26_4, ↓hp_g_26_5, ↓hp_g_26_6, ↓hp_g_26_7, ↓hp_g_26_8, ↓hp_g_26_9, ↓hp_g_26_10, ↓hp_g_26_11, ↓hp_g_26_12, ↓hp_g_26_13, ↓hp_g_26_14, ↓hp_g_26_15, ↓hp_p_26_15, ↓hp_g_26_16, ↓hp_g_26_17, ↓hp_g_26_18, ↓hp_p_26_18, ↓hp_g_26_19, ↓hp_p_26_19, ↓hp_g_26_20, ↓hp_g_26_21, ↓hp_p_26_21, ↓hp_g_26_22, ↓hp_g_26_23, ↓hp_g_26_24, ↓hp_g_26_25, ↓hp_g_26_26, ↓hp_g_26_27, ↓hp_g_26_28, ↓hp_g_26_29, ↓hp_g_26_30, ↓hp_p_26_30, ↓hp_g_26_31, ↓hp_g_26_32, ↓hp_p_26_32, ↓hp_a_27, ↓hp_s_27, ↓hp_l_27, ↓hp_a_28, ↓hp_s_28, ↓hp_l_28, ↓hp_a_29, ↓hp_s_29, ↓hp_l_29, ↓hp_a_30, ↓hp_s_30, ↓hp_l_30, ↓hp_a_31, ↓hp_s_31, ↓hp_l_31, ↓hp_a_32, ↓hp_s_32, ↓hp_l_32, ↓hp_a_33, ↓hp_s_33, ↓hp_l_33, ↓hp_a_34, ↓hp_s_34, ↓hp_l_34, ↓hp_a_35, ↓hp_s_35, ↓hp_l_35, ↓hp_a_36, ↓hp_s_36, ↓hp_l_36, ↓hp_a_37, ↓hp_s_37, ↓hp_l_37, ↓hp_a_38, ↓hp_s_38, ↓hp_l_38, ↓hp_a_39, ↓hp_s_39, ↓hp_a_40, ↓hp_s_40, ↓hp_a_41, ↓hp_s_41, ↓hp_l_41, ↓hp_a_42, ↓hp_s_42, ↓hp_l_42, ↓hp_a_43, ↓hp_s_43, ↓hp_l_43, ↓hp_a_44, ↓hp_s_44, ↓hp_l_44, ↓hp_a_45, ↓hp_s_45, ↓hp_l_45, ↓hp_a_46, ↓hp_s_46, ↓hp_l_46, ↓hp_a_47, ↓hp_s_47, ↓hp_l_47, ↓hp_a_48, ↓hp_s_48, ↓hp_l_48, ↓hp_a_49, ↓hp_s_49, ↓hp_l_49, ↓hp_a_50, ↓hp_s_50, ↓hp_l_50, t13, eb_X12_gapsOf_3_1, eb_X12_gapsOf_5_1, e1, t13b, t14, t14b]
      try rfl
    · have enx : nxo (ords l n) n i = ords l n 0 := if_neg c
      have t13b := h13 0 (by omega)
      rw [← enx] at t13b
      rw [if_pos (show i + 1 = n by omega)]
      have e0 : (0 : Int).toNat = 0 := rfl
      generalize WN l (nxo (ords l n) n i) = Q at *
      generalize nxo (ords l n) n i = N at *
      generalize WN l (ords l n i) = P at *
      generalize ords l n i = O at *
      clear f1 f2 f3 ih h14 h13 hxy hpm eX eY enx hin hnx
      simp (disch := (first | assumption | (unfold i32; omega) | (unfold i64; omega) | omega)) only [↓reduceIte, ki_0, ki_1, ki_2, ki_3, ki_4, ki_5, ki_6, ki_7, ki_8, ki_9, ki_10, ki_11, ki_12, ki_13, ki_14, ki_15, ki_20, ki_21, ki_30, ki_31, ki_40, ki_41, ki_50, ki_51, ki_60, ki_63, ki_64, ki_65, ki_100, ki_158, ki_160, ki_200, ki_212, ki_1000, ki_2000, ki_2001, ki_5000, ki_10000, ki_10001, ki_100000, ki_200000, ki_1000000, ki_2000000, ki_3000000, iO_neg, iO_add, iO_sub, iO_mul, kn_4, kn_8, kn_10, kn_20, kn_24, kn_40, kn_41, kn_50, kn_60, kn_158, kn_160, kn_200, kn_212, kn_2001, tn_lt, fn_lt, tn_le, fn_le, tn_eq, fn_eq, x_lt, x_le, x_eq, x_ix, x_nat, t_lt, f_lt, t_le, f_le, t_eq, f_eq, eq_self, and_self, true_and, and_true, false_and, and_false, if_true, if_false, Int.toNat_natCast, bI_s, bL_s, bA_s, bA_n, bV_s, mq_s, mq_n, en_le, bl_0, bl_1, u_eq, u_ne, w_eq, w_ne, v_eq, v_ne, ↓hp_cc_26, ↓hp_g_26_0, ↓hp_p_26_0, ↓hp_g_26_1, ↓hp_p_26_1, ↓hp_g_26_2, ↓hp_p_26_2, ↓hp_g_26_3, ↓hp_g_26_4, ↓hp_g_26_5, ↓hp_g_26_6, ↓hp_g_26_7, ↓hp_g_26_8, ↓hp_g_26_9, ↓hp_g_26_10, ↓hp_g_26_11, ↓hp_g_26_12, ↓hp_g_26_13, ↓hp_g_26_14, ↓hp_g_26_15, ↓hp_p_26_15, ↓hp_g_26_16, ↓hp_g_26_17, ↓hp_g_26_18, ↓hp_p_26_18, ↓hp_g_26_19, ↓hp_p_26_19, ↓hp_g_26_20, ↓hp_g_26_21, ↓hp_p_26_21, ↓hp_g_26_22, ↓hp_g_26_23, ↓hp_g_26_24, ↓hp_g_26_25, ↓hp_g_26_26, ↓hp_g_26_27, ↓hp_g_26_28, ↓hp_g_26_29, ↓hp_g_26_30, ↓hp_p_26_30, ↓hp_g_26_31, ↓hp_g_26_32, ↓hp_p_26_32, ↓hp_a_27, ↓hp_s_27, ↓hp_l_27, ↓hp_a_28, ↓hp_s_28, ↓hp_l_28, ↓hp_a_29, ↓hp_s_29, ↓hp_l_29, ↓hp_a_30, ↓hp_s_30, ↓hp_l_30, ↓hp_a_31, ↓hp_s_31, ↓hp_l_31, ↓hp_a_32, ↓hp_s_32, ↓hp_l_32, ↓hp_a_33, ↓hp_s_33, ↓hp_l_33, ↓hp_a_34, ↓hp_s_34, ↓hp_l_34, ↓hp_a_35, ↓hp_s_35, ↓hp_l_35, ↓hp_a_36, ↓hp_s_36, ↓hp_l_36, ↓hp_a_37, ↓hp_s_37, ↓hp_l_37, ↓hp_a_38, ↓hp_s_38, ↓hp_l_38, ↓hp_a_39, ↓hp_s_39, ↓hp_a_40, ↓hp_s_40, ↓hp_a_41, ↓hp_s_41, ↓hp_l_41, ↓hp_a_42, ↓hp_s_42, ↓hp_l_42, ↓hp_a_43, ↓hp_s_43, ↓hp_l_43, ↓hp_a_44, ↓hp_s_44, ↓hp_l_44, ↓hp_a_45, ↓hp_s_45, ↓hp_l_45, ↓hp_a_46, ↓hp_s_46, ↓hp_l_46, ↓hp_a_47, ↓hp_s_47, ↓hp_l_47, ↓hp_a_48, ↓hp_s_48, ↓hp_l_48, ↓hp_a_49, ↓hp_s_49, ↓hp_l_49, ↓hp_a_50, ↓hp_s_50, ↓hp_l_50, t13, eb_X12_gapsOf_3_1, eb_X12_gapsOf_5_1, e0, t13b, t14, t14b]
      try rfl
theorem m_gapsOf {MI : Nat → Int32} {MA : Nat → Nat → Int32} {r : Nat} (hr : r < 10) (h6 : MA 6 r = iO (k : Int)) (hk : k < 8) (hM : MS MA k l.1 l.2.1 l.2.2.1 l.2.2.2) (hS : SL l.1 l.2.1 l.2.2.1 l.2.2.2) (hn : n ≤ 60) : ∃ MI' MA', f_X12_gapsOf sc (d + 6) 26 (iO (r : Int)) (iO (n : Int)) (hp XI XA XP XC MI MA ML D) = some (none, hp XI XA XP XC MI' MA' ML D) ∧ GMM (gsts l n) MI' MA' ∧ (∀ s, s ≠ 7 → MI' s = MI s) ∧ (∀ m, m < 13 ∨ 20 ≤ m → MA' m = MA m) := by
  have hpm : perm (ords l n) n := ordr_perm (ah := ahd l) n
  obtain ⟨MA1, f1, f2, f3, f4⟩ := m_rings (sc := sc) (d := d) (XI := XI) (XA := XA) (XP := XP) (XC := XC) (MI := MI) (ML := ML) (D := D) (n := n) hk hS hn n 0 MA (by omega) hM (fun t ht => by omega) (fun t ht => by omega)
  have f1' : f_X12_rings sc (d + 5) 26 (iO (k : Int)) (iO (n : Int)) (hp XI XA XP XC MI MA ML D) = some (none, hp XI XA XP XC MI MA1 ML D) := (e_X12_rings _ _ _ _ _ _).trans f1
  obtain ⟨MA2, g1, g2, g3⟩ := m_gaps1 (sc := sc) (d := d + 5) (XI := XI) (XA := XA) (XP := XP) (XC := XC) (ML := ML) (D := D) (k := k) (n := n) hS hn (MI := va_up MI 7 (iO 0)) n 0 MA1 (by omega) f3 f4 (fun t ht => by omega)
  have hxy : ∀ a, a < n → MA2 15 a = iO (gxf l n a) ∧ MA2 16 a = iO (gyf l n a) := by
    intro a ha
    obtain ⟨t, t1, t2⟩ := hpm.2.2 a ha
    have := g3 t t1
    rw [t2] at this
    exact this
  have hM2 : MS MA2 k l.1 l.2.1 l.2.2.1 l.2.2.2 := by
    obtain ⟨q0, q1, q2, q3⟩ := hM
    exact ⟨by rw [g2 0 (by decide) (by decide), f2 0 (by decide) (by decide)]; exact q0, by rw [g2 1 (by decide) (by decide), f2 1 (by decide) (by decide)]; exact q1, by rw [g2 2 (by decide) (by decide), f2 2 (by decide) (by decide)]; exact q2, by rw [g2 3 (by decide) (by decide), f2 3 (by decide) (by decide)]; exact q3⟩
  obtain ⟨MI', MA', k1, k2, k3, k4⟩ := m_gaps7 (sc := sc) (d := d + 3) (XI := XI) (XA := XA) (XP := XP) (XC := XC) (ML := ML) (D := D) (n := n) hk hS hn n 0 (va_up MI 7 (iO 0)) MA2 (by omega) hM2 hxy ⟨rfl, fun t ht => by have : t < 0 := ht; omega⟩
  refine ⟨MI', MA', ?_, k2, fun s hs => by rw [k3 s hs, w_ne hs], fun m hm => by rw [k4 m (by omega) (by omega) (by omega), g2 m (by omega) (by omega), f2 m (by omega) (by omega)]⟩
  rw [← k1]
  refine Eq.trans ?_ g1
  rw [e_X12_gapsOf]
  clear f1 f2 f3 f4 g1 g2 g3 hxy hM2 hM k1 k2 k3 k4 hpm
  simp (disch := (first | assumption | (unfold i32; omega) | (unfold i64; omega) | omega)) only [↓reduceIte, ki_0, ki_1, ki_2, ki_3, ki_4, ki_5, ki_6, ki_7, ki_8, ki_9, ki_10, ki_11, ki_12, ki_13, ki_14, ki_15, ki_20, ki_21, ki_30, ki_31, ki_40, ki_41, ki_50, ki_51, ki_60, ki_63, ki_64, ki_65, ki_100, ki_158, ki_160, ki_200, ki_212, ki_1000, ki_2000, ki_2001, ki_5000, ki_10000, ki_10001, ki_100000, ki_200000, ki_1000000, ki_2000000, ki_3000000, iO_neg, iO_add, iO_sub, iO_mul, kn_4, kn_8, kn_10, kn_20, kn_24, kn_40, kn_41, kn_50, kn_60, kn_158, kn_160, kn_200, kn_212, kn_2001, tn_lt, fn_lt, tn_le, fn_le, tn_eq, fn_eq, x_lt, x_le, x_eq, x_ix, x_nat, t_lt, f_lt, t_le, f_le, t_eq, f_eq, eq_self, and_self, true_and, and_true, false_and, and_false, if_true, if_false, Int.toNat_natCast, bI_s, bL_s, bA_s, bA_n, bV_s, mq_s, mq_n, en_le, bl_0, bl_1, u_eq, u_ne, w_eq, w_ne, v_eq, v_ne, ↓hp_cc_26, ↓hp_g_26_0, ↓hp_p_26_0, ↓hp_g_26_1, ↓hp_p_26_1, ↓hp_g_26_2, ↓hp_p_26_2, ↓hp_g_26_3, ↓hp_g_26_4, ↓hp_g_26_5, ↓hp_g_26_6, ↓hp_g_26_7, ↓hp_g_26_8, ↓hp_g_26_9, ↓hp_g_26_10, ↓hp_g_26_11, ↓hp_g_26_12, ↓hp_g_26_13, ↓hp_g_26_14, ↓hp_g_26_15, ↓hp_p_26_15, ↓hp_g_26_16, ↓hp_g_26_17, ↓hp_g_26_18, ↓hp_p_26_18, ↓hp_g_26_19, ↓hp_p_26_19, ↓hp_g_26_20, ↓hp_g_26_21, ↓hp_p_26_21, ↓hp_g_26_22, ↓hp_g_26_23, ↓hp_g_26_24, ↓hp_g_26_25, ↓hp_g_26_26, ↓hp_g_26_27, ↓hp_g_26_28, ↓hp_g_26_29, ↓hp_g_26_30, ↓hp_p_26_30, ↓hp_g_26_31, ↓hp_g_26_32, ↓hp_p_26_32, ↓hp_a_27, ↓hp_s_27, ↓hp_l_27, ↓hp_a_28, ↓hp_s_28, ↓hp_l_28, ↓hp_a_29, ↓hp_s_29, ↓hp_l_29, ↓hp_a_30, ↓hp_s_30, ↓hp_l_30, ↓hp_a_31, ↓hp_s_31, ↓hp_l_31, ↓hp_a_32, ↓hp_s_32, ↓hp_l_32, ↓hp_a_33, ↓hp_s_33, ↓hp_l_33, ↓hp_a_34, ↓hp_s_34, ↓hp_l_34, ↓hp_a_35, ↓hp_s_35, ↓hp_l_35, ↓hp_a_36, ↓hp_s_36, ↓hp_l_36, ↓hp_a_37, ↓hp_s_37, ↓hp_l_37, ↓hp_a_38, ↓hp_s_38, ↓hp_l_38, ↓hp_a_39, ↓hp_s_39, ↓hp_a_40, ↓hp_s_40, ↓hp_a_41, ↓hp_s_41, ↓hp_l_41, ↓hp_a_42, ↓hp_s_42, ↓hp_l_42, ↓hp_a_43, ↓hp_s_43, ↓hp_l_43, ↓hp_a_44, ↓hp_s_44, ↓hp_l_44, ↓hp_a_45, ↓hp_s_45, ↓hp_l_45, ↓hp_a_46, ↓hp_s_46, ↓hp_l_46, ↓hp_a_47, ↓hp_s_47, ↓hp_l_47, ↓hp_a_48, ↓hp_s_48, ↓hp_l_48, ↓hp_a_49, ↓hp_s_49, ↓hp_l_49, ↓hp_a_50, ↓hp_s_50, ↓hp_l_50, h6, f1']
  try rfl
theorem m_follows3 {MI : Nat → Int32} {MA : Nat → Nat → Int32} (hn : n ≤ 60) (h13 : ∀ t, t < n → MA 13 t = iO (ords l n t : Int)) {a : Nat} (ha : a < n) : ∀ (j i : Nat), i + j = inv (ords l n) a n → b_X12_follows_3 sc d 26 (iO (n : Int)) (iO (a : Int)) (iO (i : Int)) (hp XI XA XP XC MI MA ML D) = some (some (.int (iO (nxt (ords l n) n a : Int))), hp XI XA XP XC MI MA ML D) := by
  have hpm : perm (ords l n) n := ordr_perm (ah := ahd l) n
  obtain ⟨q1, q2⟩ := inv_at (o := ords l n) (a := a) n (hpm.2.2 a ha)
  intro j
  induction j with
  | zero =>
    intro i hi
    have hi : i = inv (ords l n) a n := by omega
    have t13 := h13 i (by omega)
    rw [hi, q2] at t13
    rw [← hi] at t13
    have hnx : nxt (ords l n) n a = nxo (ords l n) n i := by unfold nxt; rw [← hi]
    rw [hnx, eb_X12_follows_3]
    have hin : i < n := by omega
    by_cases c : i + 1 < n
    · have enx : nxo (ords l n) n i = ords l n (i + 1) := if_pos c
      have t13b := h13 (i + 1) c
      have e1 : ((i : Int) + 1).toNat = i + 1 := by omega
      rw [enx]
      generalize ords l n (i + 1) = N at *
      clear h13 hpm q1 q2 hi hnx enx
      simp (disch := (first | assumption | (unfold i32; omega) | (unfold i64; omega) | omega)) only [↓reduceIte, ki_0, ki_1, ki_2, ki_3, ki_4, ki_5, ki_6, ki_7, ki_8, ki_9, ki_10, ki_11, ki_12, ki_13, ki_14, ki_15, ki_20, ki_21, ki_30, ki_31, ki_40, ki_41, ki_50, ki_51, ki_60, ki_63, ki_64, ki_65, ki_100, ki_158, ki_160, ki_200, ki_212, ki_1000, ki_2000, ki_2001, ki_5000, ki_10000, ki_10001, ki_100000, ki_200000, ki_1000000, ki_2000000, ki_3000000, iO_neg, iO_add, iO_sub, iO_mul, kn_4, kn_8, kn_10, kn_20, kn_24, kn_40, kn_41, kn_50, kn_60, kn_158, kn_160, kn_200, kn_212, kn_2001, tn_lt, fn_lt, tn_le, fn_le, tn_eq, fn_eq, x_lt, x_le, x_eq, x_ix, x_nat, t_lt, f_lt, t_le, f_le, t_eq, f_eq, eq_self, and_self, true_and, and_true, false_and, and_false, if_true, if_false, Int.toNat_natCast, bI_s, bL_s, bA_s, bA_n, bV_s, mq_s, mq_n, en_le, bl_0, bl_1, u_eq, u_ne, w_eq, w_ne, v_eq, v_ne, ↓hp_cc_26, ↓hp_g_26_0, ↓hp_p_26_0, ↓hp_g_26_1, ↓hp_p_26_1, ↓hp_g_26_2, ↓hp_p_26_2, ↓hp_g_26_3, ↓hp_g_26_4, ↓hp_g_26_5, ↓hp_g_26_6, ↓hp_g_26_7, ↓hp_g_26_8, ↓hp_g_26_9, ↓hp_g_26_10, ↓hp_g_26_11, ↓hp_g_26_12, ↓hp_g_26_13, ↓hp_g_26_14, ↓hp_g_26_15, ↓hp_p_26_15, ↓hp_g_26_16, ↓hp_g_26_17, ↓hp_g_26_18, ↓hp_p_26_18, ↓hp_g_26_19, ↓hp_p_26_19, ↓hp_g_26_20, ↓hp_g_26_21, ↓hp_p_26_21, ↓hp_g_26_22, ↓hp_g_26_23, ↓hp_g_26_24, ↓hp_g_26_25, ↓hp_g_26_26, ↓hp_g_26_27, ↓hp_g_26_28, ↓hp_g_26_29, ↓hp_g_26_30, ↓hp_p_26_30, ↓hp_g_26_31, ↓hp_g_26_32, ↓hp_p_26_32, ↓hp_a_27, ↓hp_s_27, ↓hp_l_27, ↓hp_a_28, ↓hp_s_28, ↓hp_l_28, ↓hp_a_29, ↓hp_s_29, ↓hp_l_29, ↓hp_a_30, ↓hp_s_30, ↓hp_l_30, ↓hp_a_31, ↓hp_s_31, ↓hp_l_31, ↓hp_a_32, ↓hp_s_32, ↓hp_l_32, ↓hp_a_33, ↓hp_s_33, ↓hp_l_33, ↓hp_a_34, ↓hp_s_34, ↓hp_l_34, ↓hp_a_35, ↓hp_s_35, ↓hp_l_35, ↓hp_a_36, ↓hp_s_36, ↓hp_l_36, ↓hp_a_37, ↓hp_s_37, ↓hp_l_37, ↓hp_a_38, ↓hp_s_38, ↓hp_l_38, ↓hp_a_39, ↓hp_s_39, ↓hp_a_40, ↓hp_s_40, ↓hp_a_41, ↓hp_s_41, ↓hp_l_41, ↓hp_a_42, ↓hp_s_42, ↓hp_l_42, ↓hp_a_43, ↓hp_s_43, ↓hp_l_43, ↓hp_a_44, ↓hp_s_44, ↓hp_l_44, ↓hp_a_45, ↓hp_s_45, ↓hp_l_45, ↓hp_a_46, ↓hp_s_46, ↓hp_l_46, ↓hp_a_47, ↓hp_s_47, ↓hp_l_47, ↓hp_a_48, ↓hp_s_48, ↓hp_l_48, ↓hp_a_49, ↓hp_s_49, ↓hp_l_49, ↓hp_a_50, ↓hp_s_50, ↓hp_l_50, t13, e1, t13b]
    · have enx : nxo (ords l n) n i = ords l n 0 := if_neg c
      have t13b := h13 0 (by omega)
      have e0 : (0 : Int).toNat = 0 := rfl
      rw [enx]
      generalize ords l n 0 = N at *
      clear h13 hpm q1 q2 hi hnx enx
      simp (disch := (first | assumption | (unfold i32; omega) | (unfold i64; omega) | omega)) only [↓reduceIte, ki_0, ki_1, ki_2, ki_3, ki_4, ki_5, ki_6, ki_7, ki_8, ki_9, ki_10, ki_11, ki_12, ki_13, ki_14, ki_15, ki_20, ki_21, ki_30, ki_31, ki_40, ki_41, ki_50, ki_51, ki_60, ki_63, ki_64, ki_65, ki_100, ki_158, ki_160, ki_200, ki_212, ki_1000, ki_2000, ki_2001, ki_5000, ki_10000, ki_10001, ki_100000, ki_200000, ki_1000000, ki_2000000, ki_3000000, iO_neg, iO_add, iO_sub, iO_mul, kn_4, kn_8, kn_10, kn_20, kn_24, kn_40, kn_41, kn_50, kn_60, kn_158, kn_160, kn_200, kn_212, kn_2001, tn_lt, fn_lt, tn_le, fn_le, tn_eq, fn_eq, x_lt, x_le, x_eq, x_ix, x_nat, t_lt, f_lt, t_le, f_le, t_eq, f_eq, eq_self, and_self, true_and, and_true, false_and, and_false, if_true, if_false, Int.toNat_natCast, bI_s, bL_s, bA_s, bA_n, bV_s, mq_s, mq_n, en_le, bl_0, bl_1, u_eq, u_ne, w_eq, w_ne, v_eq, v_ne, ↓hp_cc_26, ↓hp_g_26_0, ↓hp_p_26_0, ↓hp_g_26_1, ↓hp_p_26_1, ↓hp_g_26_2, ↓hp_p_26_2, ↓hp_g_26_3, ↓hp_g_26_4, ↓hp_g_26_5, ↓hp_g_26_6, ↓hp_g_26_7, ↓hp_g_26_8, ↓hp_g_26_9, ↓hp_g_26_10, ↓hp_g_26_11, ↓hp_g_26_12, ↓hp_g_26_13, ↓hp_g_26_14, ↓hp_g_26_15, ↓hp_p_26_15, ↓hp_g_26_16, ↓hp_g_26_17, ↓hp_g_26_18, ↓hp_p_26_18, ↓hp_g_26_19, ↓hp_p_26_19, ↓hp_g_26_20, ↓hp_g_26_21, ↓hp_p_26_21, ↓hp_g_26_22, ↓hp_g_26_23, ↓hp_g_26_24, ↓hp_g_26_25, ↓hp_g_26_26, ↓hp_g_26_27, ↓hp_g_26_28, ↓hp_g_26_29, ↓hp_g_26_30, ↓hp_p_26_30, ↓hp_g_26_31, ↓hp_g_26_32, ↓hp_p_26_32, ↓hp_a_27, ↓hp_s_27, ↓hp_l_27, ↓hp_a_28, ↓hp_s_28, ↓hp_l_28, ↓hp_a_29, ↓hp_s_29, ↓hp_l_29, ↓hp_a_30, ↓hp_s_30, ↓hp_l_30, ↓hp_a_31, ↓hp_s_31, ↓hp_l_31, ↓hp_a_32, ↓hp_s_32, ↓hp_l_32, ↓hp_a_33, ↓hp_s_33, ↓hp_l_33, ↓hp_a_34, ↓hp_s_34, ↓hp_l_34, ↓hp_a_35, ↓hp_s_35, ↓hp_l_35, ↓hp_a_36, ↓hp_s_36, ↓hp_l_36, ↓hp_a_37, ↓hp_s_37, ↓hp_l_37, ↓hp_a_38, ↓hp_s_38, ↓hp_l_38, ↓hp_a_39, ↓hp_s_39, ↓hp_a_40, ↓hp_s_40, ↓hp_a_41, ↓hp_s_41, ↓hp_l_41, ↓hp_a_42, ↓hp_s_42, ↓hp_l_42, ↓hp_a_43, ↓hp_s_43, ↓hp_l_43, ↓hp_a_44, ↓hp_s_44, ↓hp_l_44, ↓hp_a_45, ↓hp_s_45, ↓hp_l_45, ↓hp_a_46, ↓hp_s_46, ↓hp_l_46, ↓hp_a_47, ↓hp_s_47, ↓hp_l_47, ↓hp_a_48, ↓hp_s_48, ↓hp_l_48, ↓hp_a_49, ↓hp_s_49, ↓hp_l_49, ↓hp_a_50, ↓hp_s_50, ↓hp_l_50, t13, e0, t13b]
  | succ j ih =>
    intro i hi
    have t13 := h13 i (by omega)
    have hne : ords l n i ≠ a := fun e => by
      have := hpm.2.1 i (inv (ords l n) a n) (by omega) q1 (by rw [q2]; exact e)
      omega
    have b1 := hpm.1 i (by omega)
    rw [← ih (i + 1) (by omega), eb_X12_follows_3]
    generalize ords l n i = N at *
    clear h13 hpm q2 ih
    simp (disch := (first | assumption | (unfold i32; omega) | (unfold i64; omega) | omega)) only [↓reduceIte, ki_0, ki_1, ki_2, ki_3, ki_4, ki_5, ki_6, ki_7, ki_8, ki_9, ki_10, ki_11, ki_12, ki_13, ki_14, ki_15, ki_20, ki_21, ki_30, ki_31, ki_40, ki_41, ki_50, ki_51, ki_60, ki_63, ki_64, ki_65, ki_100, ki_158, ki_160, ki_200, ki_212, ki_1000, ki_2000, ki_2001, ki_5000, ki_10000, ki_10001, ki_100000, ki_200000, ki_1000000, ki_2000000, ki_3000000, iO_neg, iO_add, iO_sub, iO_mul, kn_4, kn_8, kn_10, kn_20, kn_24, kn_40, kn_41, kn_50, kn_60, kn_158, kn_160, kn_200, kn_212, kn_2001, tn_lt, fn_lt, tn_le, fn_le, tn_eq, fn_eq, x_lt, x_le, x_eq, x_ix, x_nat, t_lt, f_lt, t_le, f_le, t_eq, f_eq, eq_self, and_self, true_and, and_true, false_and, and_false, if_true, if_false, Int.toNat_natCast, bI_s, bL_s, bA_s, bA_n, bV_s, mq_s, mq_n, en_le, bl_0, bl_1, u_eq, u_ne, w_eq, w_ne, v_eq, v_ne, ↓hp_cc_26, ↓hp_g_26_0, ↓hp_p_26_0, ↓hp_g_26_1, ↓hp_p_26_1, ↓hp_g_26_2, ↓hp_p_26_2, ↓hp_g_26_3, ↓hp_g_26_4, ↓hp_g_26_5, ↓hp_g_26_6, ↓hp_g_26_7, ↓hp_g_26_8, ↓hp_g_26_9, ↓hp_g_26_10, ↓hp_g_26_11, ↓hp_g_26_12, ↓hp_g_26_13, ↓hp_g_26_14, ↓hp_g_26_15, ↓hp_p_26_15, ↓hp_g_26_16, ↓hp_g_26_17, ↓hp_g_26_18, ↓hp_p_26_18, ↓hp_g_26_19, ↓hp_p_26_19, ↓hp_g_26_20, ↓hp_g_26_21, ↓hp_p_26_21, ↓hp_g_26_22, ↓hp_g_26_23, ↓hp_g_26_24, ↓hp_g_26_25, ↓hp_g_26_26, ↓hp_g_26_27, ↓hp_g_26_28, ↓hp_g_26_29, ↓hp_g_26_30, ↓hp_p_26_30, ↓hp_g_26_31, ↓hp_g_26_32, ↓hp_p_26_32, ↓hp_a_27, ↓hp_s_27, ↓hp_l_27, ↓hp_a_28, ↓hp_s_28, ↓hp_l_28, ↓hp_a_29, ↓hp_s_29, ↓hp_l_29, ↓hp_a_30, ↓hp_s_30, ↓hp_l_30, ↓hp_a_31, ↓hp_s_31, ↓hp_l_31, ↓hp_a_32, ↓hp_s_32, ↓hp_l_32, ↓hp_a_33, ↓hp_s_33, ↓hp_l_33, ↓hp_a_34, ↓hp_s_34, ↓hp_l_34, ↓hp_a_35, ↓hp_s_35, ↓hp_l_35, ↓hp_a_36, ↓hp_s_36, ↓hp_l_36, ↓hp_a_37, ↓hp_s_37, ↓hp_l_37, ↓hp_a_38, ↓hp_s_38, ↓hp_l_38, ↓hp_a_39, ↓hp_s_39, ↓hp_a_40, ↓hp_s_40, ↓hp_a_41, ↓hp_s_41, ↓hp_l_41, ↓hp_a_42, ↓hp_s_42, ↓hp_l_42, ↓hp_a_43, ↓hp_s_43, ↓hp_l_43, ↓hp_a_44, ↓hp_s_44, ↓hp_l_44, ↓hp_a_45, ↓hp_s_45, ↓hp_l_45, ↓hp_a_46, ↓hp_s_46, ↓hp_l_46, ↓hp_a_47, ↓hp_s_47, ↓hp_l_47, ↓hp_a_48, ↓hp_s_48, ↓hp_l_48, ↓hp_a_49, ↓hp_s_49, ↓hp_l_49, ↓hp_a_50, ↓hp_s_50, ↓hp_l_50, t13]
    try rfl
end GPM
