/-! THE MODEL's quotients -/
section MQT
variable {sc : en_S} {n : Nat} {XI : Nat → Int32} {XA : Nat → Nat → Int32} {XP : Nat → Nat → Option Nat} {XC : Value} {MI : Nat → Int32} {MA : Nat → Nat → Int32} {D0 : en_H}
/-- lowest terms, and on -/
theorem m_q9 {x y w D : Int} {mo : Int32} {ML : Nat → Nat → Int64} (hx : -4000000000000 < x) (hx2 : x < 4000000000000) (hy : -4000000000000 < y) (hy2 : y < 4000000000000) (hw : 0 < w) (hw2 : w < 4000000000000) : ∃ g x2 y2 w2 : Int, 0 < g ∧ g = ((Int.gcd (Int.gcd x y : Nat) w : Nat) : Int) ∧ x = x2 * g ∧ y = y2 * g ∧ w = w2 * g ∧ b_X12_quotientsOf_9 sc (n + 1) 26 (lO D) mo (lO x) (lO y) (lO w) (hp XI XA XP XC MI MA ML D0) = b_X12_quotientsOf_1 sc (n + 1) 26 (lO x2) (lO y2) (lO w2) (lO D) mo (hp XI XA XP XC MI MA ML D0) := by
  have g1 : ((Int.gcd (Int.gcd x y : Nat) w : Nat) : Int) ∣ ((Int.gcd x y : Nat) : Int) := Int.gcd_dvd_left _ _
  have g2 : ((Int.gcd (Int.gcd x y : Nat) w : Nat) : Int) ∣ w := Int.gcd_dvd_right _ _
  have g3 : ((Int.gcd x y : Nat) : Int) ∣ x := Int.gcd_dvd_left _ _
  have g4 : ((Int.gcd x y : Nat) : Int) ∣ y := Int.gcd_dvd_right _ _
  obtain ⟨x2, h1⟩ := Int.dvd_trans g1 g3
  obtain ⟨y2, h2⟩ := Int.dvd_trans g1 g4
  obtain ⟨w2, h3⟩ := g2
  have hxy : ((Int.gcd x y : Nat) : Int) < 4000000000001 := by
    have h0 : Int.gcd x y = Nat.gcd x.natAbs y.natAbs := rfl
    rcases Nat.eq_zero_or_pos x.natAbs with z | z
    · rw [h0, z, Nat.gcd_zero_left]; omega
    · have := Nat.gcd_le_left y.natAbs z
      rw [h0]; omega
  have c1 := m_common (sc := sc) (n := n) (a := x) (b := y) (z := hp XI XA XP XC MI MA ML D0) (by omega) (by omega) (by omega) (by omega)
  have c2 := m_common (sc := sc) (n := n) (a := ((Int.gcd x y : Nat) : Int)) (b := w) (z := hp XI XA XP XC MI MA ML D0) (by omega) (by omega) (by omega) (by omega)
  have hg : 0 < ((Int.gcd (Int.gcd x y : Nat) w : Nat) : Int) := by
    rcases Nat.eq_zero_or_pos (Int.gcd (Int.gcd x y : Nat) w) with h | h
    · rw [h] at h3
      have : w = 0 := by rw [h3]; exact Int.zero_mul _
      omega
    · omega
  generalize hG : ((Int.gcd (Int.gcd x y : Nat) w : Nat) : Int) = G at *
  have hw3 : 0 < w2 := Int.pos_of_mul_pos_right (show 0 < G * w2 by omega) (by omega)
  have hgw : G ≤ w := by
    have := mul_le_mul' (a := G) (b := G) (c := 1) (d := w2) (by omega) (by omega) (by omega) (by omega)
    omega
  have hg0 : ¬ (lO G = 0) := by
    rw [kl_0, lO_eq (by unfold i64; omega) (by unfold i64; omega)]
    omega
  have dv : ∀ X X2 : Int, X = G * X2 → -4000000000000 < X → X < 4000000000000 → lO X / lO G = lO X2 := by
    intro X X2 hX hb1 hb2
    have e : X.tdiv G = X2 := by rw [hX]; exact Int.mul_tdiv_cancel_left _ (by omega)
    have b := dv_bd (g := G) (a := X2) (A := X) (K := 4000000000000) (by omega) hX (by omega) (by omega)
    rw [lO_div (by unfold i64; omega) (by unfold i64; omega) (by rw [e]; unfold i64; omega), e]
  refine ⟨G, x2, y2, w2, hg, rfl, by rw [h1, Int.mul_comm], by rw [h2, Int.mul_comm], by rw [h3, Int.mul_comm], ?_⟩
  rw [eb_X12_quotientsOf_9, c1, bL_s, c2, bL_s]
  simp only [if_neg hg0, en_le, dv x x2 h1 hx hx2, dv y y2 h2 hy hy2, dv w w2 h3 (by omega) hw2]
/-- from the quotients on: the way of a root slope -/
theorem m_qroot {e D r : Int} : ∀ (k cnt : Nat) (a b c : Int) (ML : Nat → Nat → Int64), cnt + k = 20 → BND e D r a b c k → ∃ ML', b_X12_quotientsOf_1 sc (n + 2) 26 (lO a) (lO b) (lO c) (lO D) 1 (hp XI XA XP XC (va_up MI 4 (iO (cnt : Nat))) MA ML D0) = some (none, hp XI XA XP XC (va_up MI 4 (iO ((cnt + (ql k a b c D).length : Nat) : Int))) MA ML' D0) ∧ (∀ i, i < cnt → ML' 0 i = ML 0 i) ∧ (∀ (i : Nat) (x : Int), (ql k a b c D)[i]? = some x → ML' 0 (cnt + i) = lO x) ∧ (∀ m, m ≠ 0 → ML' m = ML m) := by
  intro k
  induction k with
  | zero =>
    intro cnt a b c ML hc hB
    obtain rfl : cnt = 20 := by omega
    refine ⟨ML, ?_, fun _ _ => rfl, fun i x h => by simp [ql] at h, fun _ _ => rfl⟩
    rw [eb_X12_quotientsOf_1]
    simp (disch := (first | assumption | (unfold i32; omega) | (unfold i64; omega) | omega)) only [ki_0, ki_1, ki_2, ki_3, ki_4, ki_5, ki_6, ki_7, ki_8, ki_9, ki_10, ki_11, ki_12, ki_13, ki_14, ki_15, ki_20, ki_21, ki_30, ki_31, ki_40, ki_41, ki_50, ki_51, ki_60, ki_63, ki_64, ki_65, ki_100, ki_158, ki_160, ki_200, ki_212, ki_1000, ki_2000, ki_2001, ki_5000, ki_10000, ki_10001, ki_100000, ki_200000, ki_1000000, ki_2000000, ki_3000000, iO_neg, iO_add, iO_sub, iO_mul, kn_4, kn_8, kn_10, kn_20, kn_24, kn_40, kn_41, kn_50, kn_60, kn_158, kn_160, kn_200, kn_212, kn_2001, tn_lt, fn_lt, tn_le, fn_le, tn_eq, fn_eq, x_lt, x_le, x_eq, x_ix, x_nat, t_lt, f_lt, t_le, f_le, t_eq, f_eq, eq_self, and_self, true_and, and_true, false_and, and_false, if_true, if_false, Int.toNat_natCast, bI_s, bL_s, bA_s, bA_n, bV_s, mq_s, mq_n, en_le, bl_0, bl_1, u_eq, u_ne, w_eq, w_ne, v_eq, v_ne, hp_cc_26, hp_g_26_0, hp_p_26_0, hp_g_26_1, hp_p_26_1, hp_g_26_2, hp_p_26_2, hp_g_26_3, hp_g_26_4, hp_g_26_5, hp_g_26_6, hp_g_26_7, hp_g_26_8, hp_g_26_9, hp_g_26_10, hp_g_26_11, hp_g_26_12, hp_g_26_13, hp_g_26_14, hp_g_26_15, hp_p_26_15, hp_g_26_16, hp_g_26_17, hp_g_26_18, hp_p_26_18, hp_g_26_19, hp_p_26_19, hp_g_26_20, hp_g_26_21, hp_p_26_21, hp_g_26_22, hp_g_26_23, hp_g_26_24, hp_g_26_25, hp_g_26_26, hp_g_26_27, hp_g_26_28, hp_g_26_29, hp_g_26_30, hp_p_26_30, hp_g_26_31, hp_g_26_32, hp_p_26_32, hp_a_27, hp_s_27, hp_l_27, hp_a_28, hp_s_28, hp_l_28, hp_a_29, hp_s_29, hp_l_29, hp_a_30, hp_s_30, hp_l_30, hp_a_31, hp_s_31, hp_l_31, hp_a_32, hp_s_32, hp_l_32, hp_a_33, hp_s_33, hp_l_33, hp_a_34, hp_s_34, hp_l_34, hp_a_35, hp_s_35, hp_l_35, hp_a_36, hp_s_36, hp_l_36, hp_a_37, hp_s_37, hp_l_37, hp_a_38, hp_s_38, hp_l_38, hp_a_39, hp_s_39, hp_a_40, hp_s_40, hp_a_41, hp_s_41, hp_l_41, hp_a_42, hp_s_42, hp_l_42, hp_a_43, hp_s_43, hp_l_43, hp_a_44, hp_s_44, hp_l_44, hp_a_45, hp_s_45, hp_l_45, hp_a_46, hp_s_46, hp_l_46, hp_a_47, hp_s_47, hp_l_47, hp_a_48, hp_s_48, hp_l_48, hp_a_49, hp_s_49, hp_l_49, hp_a_50, hp_s_50, hp_l_50]
    rfl
  | succ k ih =>
    intro cnt a b c ML hc hB
    obtain ⟨hFB, hb⟩ := hB.fb
    obtain ⟨a1, a2, b1, b2, c1, c2, d1, d2, hns, hnn⟩ := id hFB
    have s2 := sq_bd (x := b) (K := 3000) (by omega) (by omega)
    have s3 := mul_bd (x := b * b) (y := D) (a := 9000000) (b := 50) (by omega) (by omega) (by omega) d2
    have hrem := whl_rem (x := a) (y := b) (d := D) (m := c) (K := 22000) (by omega) (by omega) (by omega) (by omega)
    obtain ⟨w0, w1⟩ := hFB.w
    have wb : whl a b D c ≤ 1400000 := by
      have := mul_le_mul' (a := whl a b D c) (b := whl a b D c) (c := 1) (d := c) w0 (by omega) (by omega) c1
      omega
    have hfl : ∀ z, f_X12_floorOf sc (n + 2) (lO a) (lO b) (lO c) (lO D) z = some (some (.long (lO (whl a b D c))), z) := fun z => m_floor hFB
    rw [ql, if_neg (show ¬ (a - whl a b D c * c = 0 ∧ b = 0) from fun h => hb h.2), if_neg hb]
    have hnext := fun na nb nc g a2 b2 c2 => hB.next (na := na) (nb := nb) (nc := nc) (g := g) (a2 := a2) (b2 := b2) (c2 := c2)
    have hne := nc_ne (e := a - whl a b D c * c) hb (hns hb)
    have t1 := sq_bd (x := a - whl a b D c * c) (K := 1030000) (by omega) (by omega)
    have t2 := mul_bd (x := a - whl a b D c * c) (y := c) (a := 1030000) (b := 1000000) (by omega) (by omega) (by omega) (by omega)
    have t3 := mul_bd (x := b) (y := c) (a := 3000) (b := 1000000) (by omega) (by omega) (by omega) (by omega)
    rw [Int.mul_comm _ c] at t2 t3
    -- up to the lowest terms
    have run : b_X12_quotientsOf_1 sc (n + 2) 26 (lO a) (lO b) (lO c) (lO D) 1 (hp XI XA XP XC (va_up MI 4 (iO (cnt : Nat))) MA ML D0) = b_X12_quotientsOf_2 sc (n + 2) 26 (lO b) (lO c) (lO D) 1 (lO (a - whl a b D c * c)) (hp XI XA XP XC (va_up MI 4 (iO ((cnt : Int) + 1))) MA (va_up ML 0 (vp_updL (ML 0) cnt (lO (whl a b D c)))) D0) := by
      have hb64 : ¬ (lg_cmp (lO b) 0 = 0) := by
        rw [lg_cmp_eq, kl_0, lO_eq (by unfold i64; omega) (by unfold i64; omega)]
        exact hb
      rw [eb_X12_quotientsOf_1]
      generalize whl a b D c = W at *
      have hb64' : ¬ (lg_cmp (lO b) (lO 0) = iO 0) := hb64
      clear hnext hne t1 t2 t3 hnn hns hrem s2 s3 ih hB hFB w1
      simp (disch := (first | assumption | (unfold i32; omega) | (unfold i64; omega) | omega)) only [ki_0, ki_1, ki_2, ki_3, ki_4, ki_5, ki_6, ki_7, ki_8, ki_9, ki_10, ki_11, ki_12, ki_13, ki_14, ki_15, ki_20, ki_21, ki_30, ki_31, ki_40, ki_41, ki_50, ki_51, ki_60, ki_63, ki_64, ki_65, ki_100, ki_158, ki_160, ki_200, ki_212, ki_1000, ki_2000, ki_2001, ki_5000, ki_10000, ki_10001, ki_100000, ki_200000, ki_1000000, ki_2000000, ki_3000000, iO_neg, iO_add, iO_sub, iO_mul, kn_4, kn_8, kn_10, kn_20, kn_24, kn_40, kn_41, kn_50, kn_60, kn_158, kn_160, kn_200, kn_212, kn_2001, tn_lt, fn_lt, tn_le, fn_le, tn_eq, fn_eq, x_lt, x_le, x_eq, x_ix, x_nat, t_lt, f_lt, t_le, f_le, t_eq, f_eq, eq_self, and_self, true_and, and_true, false_and, and_false, if_true, if_false, Int.toNat_natCast, bI_s, bL_s, bA_s, bA_n, bV_s, mq_s, mq_n, en_le, bl_0, bl_1, u_eq, u_ne, w_eq, w_ne, v_eq, v_ne, hp_cc_26, hp_g_26_0, hp_p_26_0, hp_g_26_1, hp_p_26_1, hp_g_26_2, hp_p_26_2, hp_g_26_3, hp_g_26_4, hp_g_26_5, hp_g_26_6, hp_g_26_7, hp_g_26_8, hp_g_26_9, hp_g_26_10, hp_g_26_11, hp_g_26_12, hp_g_26_13, hp_g_26_14, hp_g_26_15, hp_p_26_15, hp_g_26_16, hp_g_26_17, hp_g_26_18, hp_p_26_18, hp_g_26_19, hp_p_26_19, hp_g_26_20, hp_g_26_21, hp_p_26_21, hp_g_26_22, hp_g_26_23, hp_g_26_24, hp_g_26_25, hp_g_26_26, hp_g_26_27, hp_g_26_28, hp_g_26_29, hp_g_26_30, hp_p_26_30, hp_g_26_31, hp_g_26_32, hp_p_26_32, hp_a_27, hp_s_27, hp_l_27, hp_a_28, hp_s_28, hp_l_28, hp_a_29, hp_s_29, hp_l_29, hp_a_30, hp_s_30, hp_l_30, hp_a_31, hp_s_31, hp_l_31, hp_a_32, hp_s_32, hp_l_32, hp_a_33, hp_s_33, hp_l_33, hp_a_34, hp_s_34, hp_l_34, hp_a_35, hp_s_35, hp_l_35, hp_a_36, hp_s_36, hp_l_36, hp_a_37, hp_s_37, hp_l_37, hp_a_38, hp_s_38, hp_l_38, hp_a_39, hp_s_39, hp_a_40, hp_s_40, hp_a_41, hp_s_41, hp_l_41, hp_a_42, hp_s_42, hp_l_42, hp_a_43, hp_s_43, hp_l_43, hp_a_44, hp_s_44, hp_l_44, hp_a_45, hp_s_45, hp_l_45, hp_a_46, hp_s_46, hp_l_46, hp_a_47, hp_s_47, hp_l_47, hp_a_48, hp_s_48, hp_l_48, hp_a_49, hp_s_49, hp_l_49, hp_a_50, hp_s_50, hp_l_50, hfl, lO_mul, lO_sub, up_up, kl_0, if_neg hb64']
      split <;> rfl
    have hbz : ¬ (lg_cmp (lO b) 0 = 0) := by
      rw [lg_cmp_eq, kl_0, lO_eq (by unfold i64; omega) (by unfold i64; omega)]
      exact hb
    generalize hE : a - whl a b D c * c = E at *
    have run2 : b_X12_quotientsOf_2 sc (n + 2) 26 (lO b) (lO c) (lO D) 1 (lO E) (hp XI XA XP XC (va_up MI 4 (iO ((cnt : Int) + 1))) MA (va_up ML 0 (vp_updL (ML 0) cnt (lO (whl a b D c)))) D0) = b_X12_quotientsOf_8 sc (n + 2) 26 (lO D) 1 (lO (c * E)) (lO (-(c * b))) (lO (E * E - b * b * D)) (hp XI XA XP XC (va_up MI 4 (iO ((cnt : Int) + 1))) MA (va_up ML 0 (vp_updL (ML 0) cnt (lO (whl a b D c)))) D0) := by
      rw [eb_X12_quotientsOf_2, if_neg hbz, eb_X12_quotientsOf_4, if_neg hbz, eb_X12_quotientsOf_6, if_neg hbz, lO_mul, lO_neg, lO_mul, lO_mul, lO_mul, lO_mul, lO_sub, Int.neg_mul]
    have fin : ∀ na nb nc : Int, (0 < E * E - b * b * D ∧ na = c * E ∧ nb = -(c * b) ∧ nc = E * E - b * b * D) ∨ (¬ 0 < E * E - b * b * D ∧ na = -(c * E) ∧ nb = c * b ∧ nc = -(E * E - b * b * D)) → ∃ ML', b_X12_quotientsOf_9 sc (n + 2) 26 (lO D) 1 (lO na) (lO nb) (lO nc) (hp XI XA XP XC (va_up MI 4 (iO ((cnt : Int) + 1))) MA (va_up ML 0 (vp_updL (ML 0) cnt (lO (whl a b D c)))) D0) = some (none, hp XI XA XP XC (va_up MI 4 (iO ((cnt + (whl a b D c :: ql k na nb nc D).length : Nat) : Int))) MA ML' D0) ∧ (∀ i, i < cnt → ML' 0 i = ML 0 i) ∧ (∀ (i : Nat) (x : Int), (whl a b D c :: ql k na nb nc D)[i]? = some x → ML' 0 (cnt + i) = lO x) ∧ (∀ m, m ≠ 0 → ML' m = ML m) := by
      intro na nb nc hs
      have hnc : 0 < nc := by rcases hs with ⟨g, -, -, h⟩ | ⟨g, -, -, h⟩ <;> omega
      have hbd : -4000000000000 < na ∧ na < 4000000000000 ∧ -4000000000000 < nb ∧ nb < 4000000000000 ∧ nc < 4000000000000 := by rcases hs with ⟨g, h1, h2, h3⟩ | ⟨g, h1, h2, h3⟩ <;> omega
      obtain ⟨q1, q2, q3, q4, q5⟩ := hbd
      obtain ⟨g, x2, y2, w2, g0, g1, g2, g3, g4, g5⟩ := m_q9 (sc := sc) (n := n + 1) (XI := XI) (XA := XA) (XP := XP) (XC := XC) (MI := va_up MI 4 (iO ((cnt : Int) + 1))) (MA := MA) (D0 := D0) (D := D) (mo := 1) (ML := va_up ML 0 (vp_updL (ML 0) cnt (lO (whl a b D c)))) q1 q2 q3 q4 hnc q5
      have hB2 := hnext na nb nc g x2 y2 w2 hs g0 g1 g2 g3 g4
      obtain ⟨ML', f1, f2, f3, f4⟩ := ih (cnt + 1) x2 y2 w2 (va_up ML 0 (vp_updL (ML 0) cnt (lO (whl a b D c)))) (by omega) hB2
      have hw2 : 0 < w2 := by rw [g4] at hnc; exact Int.pos_of_mul_pos_left hnc (by omega)
      have hsc : ql k na nb nc D = ql k x2 y2 w2 D := by
        rw [g2, g3, g4, Int.mul_comm x2, Int.mul_comm y2, Int.mul_comm w2]
        exact ql_scale g0 hw2 (by omega) (fun _ => hns hb)
      refine ⟨ML', ?_, ?_, ?_, ?_⟩
      · rw [g5, hsc, List.length_cons, show cnt + ((ql k x2 y2 w2 D).length + 1) = cnt + 1 + (ql k x2 y2 w2 D).length by omega]
        exact f1
      · intro i hi
        rw [f2 i (by omega), w_eq rfl, v_ne (by omega)]
      · intro i x hx
        match i, hx with
        | 0, hx => simp at hx; subst hx; rw [Nat.add_zero, f2 cnt (by omega), w_eq rfl, v_eq rfl]
        | i + 1, hx =>
          rw [List.getElem?_cons_succ, hsc] at hx
          rw [← f3 i x hx]
          congr 1
          omega
      · intro m hm
        rw [f4 m hm, w_ne hm]
    rw [run, run2, eb_X12_quotientsOf_8]
    have hge : (0 ≤ lg_cmp (lO (E * E - b * b * D)) 0) = (0 ≤ E * E - b * b * D) := by
      rw [lg_cmp_ge, kl_0]
      exact propext (lO_le (by unfold i64; omega) (by unfold i64; omega))
    simp only [hge]
    by_cases g : 0 < E * E - b * b * D
    · rw [if_pos (show 0 ≤ E * E - b * b * D by omega), if_pos g]
      exact fin _ _ _ (Or.inl ⟨g, rfl, rfl, rfl⟩)
    · rw [if_neg (show ¬ 0 ≤ E * E - b * b * D by omega), if_neg g]
      simp only [en_le, lO_neg]
      rw [show - -(c * b) = c * b by omega]
      exact fin _ _ _ (Or.inr ⟨g, rfl, rfl, rfl⟩)
end MQT
