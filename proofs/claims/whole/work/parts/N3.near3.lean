/-! NEARERS: the model -/
/-- x times the slope is at least y -/
def PS (l : SL4) (x y : Int) : Prop := nn (l.1 * x - y * l.2.2.1) (l.2.1 * x) l.2.2.2
theorem PS_ord {l : SL4} (hS : SL l.1 l.2.1 l.2.2.1 l.2.2.2) : ORD (PS l) := by
  have hd := hS.dpos
  have hc := hS.cpos
  refine ⟨fun x y u v h1 h2 => ?_, fun x y => ?_, fun y => ?_⟩
  · have := nn_add (by omega) h1 h2
    unfold PS
    rw [show l.1 * (x + u) - (y + v) * l.2.2.1 = l.1 * x - y * l.2.2.1 + (l.1 * u - v * l.2.2.1) by grind, show l.2.1 * (x + u) = l.2.1 * x + l.2.1 * u by grind]
    exact this
  · unfold PS
    rw [show l.1 * -x - -y * l.2.2.1 = -(l.1 * x - y * l.2.2.1) by grind, show l.2.1 * -x = -(l.2.1 * x) by grind]
    exact nn_tot hd
  · unfold PS
    rw [Int.mul_zero, Int.mul_zero, Int.zero_sub]
    constructor
    · intro h
      have h2 : 0 ≤ -(y * l.2.2.1) := by
        rcases h with ⟨-, h | h⟩ | ⟨h, -⟩
        · exact h
        · rw [Int.zero_mul, Int.zero_mul] at h
          have := sq_zero h
          omega
        · omega
      rcases Int.lt_or_le 0 y with g | g
      · have := Int.mul_pos g hc
        omega
      · exact g
    · intro h
      have := Int.mul_le_mul_of_nonneg_right h (show 0 ≤ l.2.2.1 by omega)
      rw [Int.zero_mul] at this
      exact Or.inl ⟨Int.le_refl _, Or.inl (by omega)⟩
theorem PS_W {l : SL4} (hS : SL l.1 l.2.1 l.2.2.1 l.2.2.2) {n : Nat} (y : Int) : PS l n y ↔ y ≤ WN l n := whl_iff hS.dpos (hS.hn (N := (n : Int))) hS.cpos
theorem PS_sg {l : SL4} (hS : SL l.1 l.2.1 l.2.2.1 l.2.2.2) (x y : Int) : (0 ≤ sg (l.1 * x - y * l.2.2.1) (l.2.1 * x) l.2.2.2 ↔ PS l x y) ∧ (sg (l.1 * x - y * l.2.2.1) (l.2.1 * x) l.2.2.2 ≤ 0 ↔ PS l (-x) (-y)) := by
  refine ⟨sg_nn hS.dpos, ?_⟩
  have : PS l (-x) (-y) ↔ 0 ≤ sg (-(l.1 * x - y * l.2.2.1)) (-(l.2.1 * x)) l.2.2.2 := by
    rw [sg_nn hS.dpos]
    unfold PS
    rw [show l.1 * -x - -y * l.2.2.1 = -(l.1 * x - y * l.2.2.1) by grind, show l.2.1 * -x = -(l.2.1 * x) by grind]
  rw [this, sg_neg]
  omega
theorem dist_up {l : SL4} (hS : SL l.1 l.2.1 l.2.2.1 l.2.2.2) {n : Nat} (h2 : ¬ PS l (-(2 * (n : Int))) (-(2 * WN l n + 1))) : DIST (PS l) n (-(n : Int)) (-(WN l n + 1)) := by
  have hO := PS_ord hS
  have hW := fun y => PS_W hS (n := n) y
  generalize WN l n = W at *
  have hp : PS l (-(n : Int)) (-(W + 1)) := by
    rcases hO.2.1 (n : Int) (W + 1) with g | g
    · have := (hW _).mp g
      omega
    · exact g
  have h2p : PS l (2 * (n : Int)) (2 * W + 1) := by
    rcases hO.2.1 (2 * (n : Int)) (2 * W + 1) with g | g
    · exact g
    · exact absurd g h2
  refine ⟨hp, ⟨-(n : Int), -(W + 1), Or.inr rfl, hp, ?_, ?_⟩, ?_⟩
  · rw [Int.sub_self, Int.sub_self]; exact hO.zero
  · rw [Int.sub_self, Int.sub_self]; exact hO.zero
  · intro x y hx hxy
    rcases hx with rfl | rfl
    · have hy := (hW y).mp hxy
      have := hO.1 _ _ _ _ h2p ((hO.2.2 (y - W)).mpr (by omega))
      rw [show 2 * (n : Int) + 0 = (n : Int) - -(n : Int) by omega, show 2 * W + 1 + (y - W) = y - -(W + 1) by omega] at this
      exact this
    · rw [Int.sub_self, hO.2.2]
      rcases Int.lt_or_le (-(W + 1)) y with g | g
      · exfalso
        apply h2
        have k1 := hO.mul hxy (a := 2) (by omega)
        have := hO.1 _ _ _ _ k1 ((hO.2.2 (-(2 * W + 1) - 2 * y)).mpr (by omega))
        rw [show 2 * -(n : Int) + 0 = -(2 * (n : Int)) by omega, show 2 * y + (-(2 * W + 1) - 2 * y) = -(2 * W + 1) by omega] at this
        exact this
      · omega
theorem dist_dn {l : SL4} (hS : SL l.1 l.2.1 l.2.2.1 l.2.2.2) {n : Nat} (h2 : PS l (-(2 * (n : Int))) (-(2 * WN l n + 1))) (h1 : ¬ PS l (-(n : Int)) (-WN l n)) : DIST (PS l) n n (WN l n) := by
  have hO := PS_ord hS
  have hW := fun y => PS_W hS (n := n) y
  generalize WN l n = W at *
  have hp : PS l (n : Int) W := (hW W).mpr (Int.le_refl _)
  refine ⟨hp, ⟨(n : Int), W, Or.inl rfl, hp, ?_, ?_⟩, ?_⟩
  · rw [Int.sub_self, Int.sub_self]; exact hO.zero
  · rw [Int.sub_self, Int.sub_self]; exact hO.zero
  · intro x y hx hxy
    rcases hx with rfl | rfl
    · have hy := (hW y).mp hxy
      rw [Int.sub_self, hO.2.2]
      omega
    · have hy : y ≤ -(W + 1) := by
        rcases Int.lt_or_le (-(W + 1)) y with g | g
        · exfalso
          apply h1
          have := hO.1 _ _ _ _ hxy ((hO.2.2 (-W - y)).mpr (by omega))
          rw [Int.add_zero, show y + (-W - y) = -W by omega] at this
          exact this
        · exact g
      have := hO.1 _ _ _ _ h2 ((hO.2.2 (W + 1 + y)).mpr (by omega))
      rw [show -(2 * (n : Int)) + 0 = -(n : Int) - (n : Int) by omega, show -(2 * W + 1) + (W + 1 + y) = y - W by omega] at this
      exact this
theorem dist_0 {l : SL4} (hS : SL l.1 l.2.1 l.2.2.1 l.2.2.2) {n : Nat} (h1 : PS l (-(n : Int)) (-WN l n)) : DIST (PS l) n 0 0 := by
  have hO := PS_ord hS
  have hp : PS l (n : Int) (WN l n) := (PS_W hS _).mpr (Int.le_refl _)
  refine ⟨hO.zero, ⟨(n : Int), WN l n, Or.inl rfl, hp, ?_, ?_⟩, ?_⟩
  · rw [Int.zero_sub, Int.zero_sub]; exact h1
  · rw [Int.sub_zero, Int.sub_zero]; exact hp
  · intro x y _ hxy
    rw [Int.sub_zero, Int.sub_zero]
    exact hxy
section NRM
variable {sc : en_S} {d : Nat} {XI : Nat → Int32} {XA : Nat → Nat → Int32} {XP : Nat → Nat → Option Nat} {XC : Value} {ML : Nat → Nat → Int64} {D : en_H} {k : Nat} {l : SL4}
theorem m_near4 {MI : Nat → Int32} {MA : Nat → Nat → Int32} (hk : k < 8) (hM : MS MA k l.1 l.2.1 l.2.2.1 l.2.2.2) (hS : SL l.1 l.2.1 l.2.2.1 l.2.2.2) {n : Nat} (hn1 : 1 ≤ n) (hn2 : n ≤ 2000) {n0 k0 e0 : Int} (b1 : 0 ≤ n0) (b2 : n0 ≤ 2000) (b3 : 0 ≤ k0) (b4 : k0 ≤ 40001) (b5 : e0 = -1 ∨ e0 = 0 ∨ e0 = 1) {r : Nat} (h6 : MI 6 = iO (r : Int)) (hr : r ≤ 2000) {kk e : Int} (c1 : 0 ≤ kk) (c2 : kk ≤ 40001) (c3 : e = -1 ∨ e = 0 ∨ e = 1) (hside : f_X12_side sc (d + 3) 26 (iO (k : Int)) (lO (n : Int)) (lO kk) 1 (hp XI XA XP XC MI MA ML D) = some (some (.int (iO e)), hp XI XA XP XC MI MA ML D)) :
    ((n = 1 ∨ ¬ PS l (e * (n : Int) - e0 * n0) (e * kk - e0 * k0)) → b_X12_nearersOf_2 sc (d + 3) 26 (iO (k : Int)) (lO n0) (lO k0) (iO e0) (iO (n : Int)) (lO kk) (hp XI XA XP XC MI MA ML D) = b_X12_nearersOf_1 sc (d + 3) 26 (iO (k : Int)) (lO (n : Int)) (lO kk) (iO e) (iO ((n : Int) + 1)) (hp XI XA XP XC (va_up MI 6 (iO ((r : Int) + 1))) (va_up MA 12 (upd (MA 12) r (iO (n : Int)))) ML D))
    ∧ ((n ≠ 1 ∧ PS l (e * (n : Int) - e0 * n0) (e * kk - e0 * k0)) → b_X12_nearersOf_2 sc (d + 3) 26 (iO (k : Int)) (lO n0) (lO k0) (iO e0) (iO (n : Int)) (lO kk) (hp XI XA XP XC MI MA ML D) = b_X12_nearersOf_1 sc (d + 3) 26 (iO (k : Int)) (lO n0) (lO k0) (iO e0) (iO ((n : Int) + 1)) (hp XI XA XP XC MI MA ML D)) := by
  obtain ⟨m0, m1, m2, m3⟩ := hM
  obtain ⟨a1, a2, y1, y2, z1, z2, d1, d2, -⟩ := id hS
  have hsg := PS_sg hS (e * (n : Int) - e0 * n0) (e * kk - e0 * k0)
  have q1 : -2000 ≤ e * (n : Int) ∧ e * (n : Int) ≤ 2000 := by rcases c3 with h | h | h <;> rw [h] <;> omega
  have q2 : -2000 ≤ e0 * n0 ∧ e0 * n0 ≤ 2000 := by rcases b5 with h | h | h <;> rw [h] <;> omega
  have q3 : -40001 ≤ e * kk ∧ e * kk ≤ 40001 := by rcases c3 with h | h | h <;> rw [h] <;> omega
  have q4 : -40001 ≤ e0 * k0 ∧ e0 * k0 ≤ 40001 := by rcases b5 with h | h | h <;> rw [h] <;> omega
  generalize hX : e * (n : Int) - e0 * n0 = X at *
  generalize hY : e * kk - e0 * k0 = Y at *
  have t1 := mul_bd (x := X) (y := l.1 + 1000) (a := 4000) (b := 2000) (by omega) (by omega) (by omega) (by omega)
  have t2 := mul_bd (x := X) (y := l.2.1 + 20) (a := 4000) (b := 40) (by omega) (by omega) (by omega) (by omega)
  have t3 := mul_bd (x := Y) (y := l.2.2.1) (a := 80002) (b := 100) (by omega) (by omega) (by omega) (by omega)
  rw [Int.mul_add] at t1 t2
  have g1 : l.1 * X = X * l.1 := Int.mul_comm _ _
  have g2 : l.2.1 * X = X * l.2.1 := Int.mul_comm _ _
  have s1 := sq_bd (x := l.1 * X - Y * l.2.2.1) (K := 100000000) (by omega) (by omega)
  have s2 := sq_bd (x := l.2.1 * X) (K := 1000000) (by omega) (by omega)
  have s3 := mul_bd (x := l.2.1 * X * (l.2.1 * X)) (y := l.2.2.2) (a := 1000000000000) (b := 50) (by omega) (by omega) (by omega) d2
  have hsn := e_sign (sc := sc) (n := d + 2) (x := l.1 * X - Y * l.2.2.1) (y := l.2.1 * X) (d := l.2.2.2) (z := hp XI XA XP XC MI MA ML D) (by unfold i64; omega) (by unfold i64; omega) (by unfold i64; omega) (by unfold i64; omega)
  have hrg := sg_range (l.1 * X - Y * l.2.2.1) (l.2.1 * X) l.2.2.2
  generalize sg (l.1 * X - Y * l.2.2.1) (l.2.1 * X) l.2.2.2 = sv at *
  clear t1 t2 t3 s1 s2 s3 g1 g2
  have e1 : (n : Int) + 1 = (n : Int) + 1 := rfl
  have rec7 : b_X12_nearersOf_7 sc (d + 3) 26 (iO (k : Int)) (lO n0) (lO k0) (iO e0) (iO (n : Int)) (lO kk) (iO e) (iO 1) (hp XI XA XP XC MI MA ML D) = b_X12_nearersOf_1 sc (d + 3) 26 (iO (k : Int)) (lO (n : Int)) (lO kk) (iO e) (iO ((n : Int) + 1)) (hp XI XA XP XC (va_up MI 6 (iO ((r : Int) + 1))) (va_up MA 12 (upd (MA 12) r (iO (n : Int)))) ML D) := by
    rw [eb_X12_nearersOf_7]
    clear hsg hside hsn
    simp (disch := (first | assumption | (unfold i32; omega) | (unfold i64; omega) | omega)) only [↓reduceIte, ki_0, ki_1, ki_2, ki_3, ki_4, ki_5, ki_6, ki_7, ki_8, ki_9, ki_10, ki_11, ki_12, ki_13, ki_14, ki_15, ki_20, ki_21, ki_30, ki_31, ki_40, ki_41, ki_50, ki_51, ki_60, ki_63, ki_64, ki_65, ki_100, ki_158, ki_160, ki_200, ki_212, ki_1000, ki_2000, ki_2001, ki_5000, ki_10000, ki_10001, ki_100000, ki_200000, ki_1000000, ki_2000000, ki_3000000, iO_neg, iO_add, iO_sub, iO_mul, kn_4, kn_8, kn_10, kn_20, kn_24, kn_40, kn_41, kn_50, kn_60, kn_158, kn_160, kn_200, kn_212, kn_2001, tn_lt, fn_lt, tn_le, fn_le, tn_eq, fn_eq, x_lt, x_le, x_eq, x_ix, x_nat, t_lt, f_lt, t_le, f_le, t_eq, f_eq, eq_self, and_self, true_and, and_true, false_and, and_false, if_true, if_false, Int.toNat_natCast, bI_s, bL_s, bA_s, bA_n, bV_s, mq_s, mq_n, en_le, bl_0, bl_1, u_eq, u_ne, w_eq, w_ne, v_eq, v_ne, ↓hp_cc_26, ↓hp_g_26_0, ↓hp_p_26_0, ↓hp_g_26_1, ↓hp_p_26_1, ↓hp_g_26_2, ↓hp_p_26_2, ↓hp_g_26_3, ↓hp_g_26_4, ↓hp_g_26_5, ↓hp_g_26_6, ↓hp_g_26_7, ↓hp_g_26_8, ↓hp_g_26_9, ↓hp_g_26_10, ↓hp_g_26_11, ↓hp_g_26_12, ↓hp_g_26_13, ↓hp_g_26_14, ↓hp_g_26_15, ↓hp_p_26_15, ↓hp_g_26_16, ↓hp_g_26_17, ↓hp_g_26_18, ↓hp_p_26_18, ↓hp_g_26_19, ↓hp_p_26_19, ↓hp_g_26_20, ↓hp_g_26_21, ↓hp_p_26_21, ↓hp_g_26_22, ↓hp_g_26_23, ↓hp_g_26_24, ↓hp_g_26_25, ↓hp_g_26_26, ↓hp_g_26_27, ↓hp_g_26_28, ↓hp_g_26_29, ↓hp_g_26_30, ↓hp_p_26_30, ↓hp_g_26_31, ↓hp_g_26_32, ↓hp_p_26_32, ↓hp_a_27, ↓hp_s_27, ↓hp_l_27, ↓hp_a_28, ↓hp_s_28, ↓hp_l_28, ↓hp_a_29, ↓hp_s_29, ↓hp_l_29, ↓hp_a_30, ↓hp_s_30, ↓hp_l_30, ↓hp_a_31, ↓hp_s_31, ↓hp_l_31, ↓hp_a_32, ↓hp_s_32, ↓hp_l_32, ↓hp_a_33, ↓hp_s_33, ↓hp_l_33, ↓hp_a_34, ↓hp_s_34, ↓hp_l_34, ↓hp_a_35, ↓hp_s_35, ↓hp_l_35, ↓hp_a_36, ↓hp_s_36, ↓hp_l_36, ↓hp_a_37, ↓hp_s_37, ↓hp_l_37, ↓hp_a_38, ↓hp_s_38, ↓hp_l_38, ↓hp_a_39, ↓hp_s_39, ↓hp_a_40, ↓hp_s_40, ↓hp_a_41, ↓hp_s_41, ↓hp_l_41, ↓hp_a_42, ↓hp_s_42, ↓hp_l_42, ↓hp_a_43, ↓hp_s_43, ↓hp_l_43, ↓hp_a_44, ↓hp_s_44, ↓hp_l_44, ↓hp_a_45, ↓hp_s_45, ↓hp_l_45, ↓hp_a_46, ↓hp_s_46, ↓hp_l_46, ↓hp_a_47, ↓hp_s_47, ↓hp_l_47, ↓hp_a_48, ↓hp_s_48, ↓hp_l_48, ↓hp_a_49, ↓hp_s_49, ↓hp_l_49, ↓hp_a_50, ↓hp_s_50, ↓hp_l_50, h6, iO_wide]
  have skp7 : b_X12_nearersOf_7 sc (d + 3) 26 (iO (k : Int)) (lO n0) (lO k0) (iO e0) (iO (n : Int)) (lO kk) (iO e) (iO 0) (hp XI XA XP XC MI MA ML D) = b_X12_nearersOf_1 sc (d + 3) 26 (iO (k : Int)) (lO n0) (lO k0) (iO e0) (iO ((n : Int) + 1)) (hp XI XA XP XC MI MA ML D) := by
    rw [eb_X12_nearersOf_7]
    clear hsg hside hsn
    simp (disch := (first | assumption | (unfold i32; omega) | (unfold i64; omega) | omega)) only [↓reduceIte, ki_0, ki_1, ki_2, ki_3, ki_4, ki_5, ki_6, ki_7, ki_8, ki_9, ki_10, ki_11, ki_12, ki_13, ki_14, ki_15, ki_20, ki_21, ki_30, ki_31, ki_40, ki_41, ki_50, ki_51, ki_60, ki_63, ki_64, ki_65, ki_100, ki_158, ki_160, ki_200, ki_212, ki_1000, ki_2000, ki_2001, ki_5000, ki_10000, ki_10001, ki_100000, ki_200000, ki_1000000, ki_2000000, ki_3000000, iO_neg, iO_add, iO_sub, iO_mul, kn_4, kn_8, kn_10, kn_20, kn_24, kn_40, kn_41, kn_50, kn_60, kn_158, kn_160, kn_200, kn_212, kn_2001, tn_lt, fn_lt, tn_le, fn_le, tn_eq, fn_eq, x_lt, x_le, x_eq, x_ix, x_nat, t_lt, f_lt, t_le, f_le, t_eq, f_eq, eq_self, and_self, true_and, and_true, false_and, and_false, if_true, if_false, Int.toNat_natCast, bI_s, bL_s, bA_s, bA_n, bV_s, mq_s, mq_n, en_le, bl_0, bl_1, u_eq, u_ne, w_eq, w_ne, v_eq, v_ne, ↓hp_cc_26, ↓hp_g_26_0, ↓hp_p_26_0, ↓hp_g_26_1, ↓hp_p_26_1, ↓hp_g_26_2, ↓hp_p_26_2, ↓hp_g_26_3, ↓hp_g_26_4, ↓hp_g_26_5, ↓hp_g_26_6, ↓hp_g_26_7, ↓hp_g_26_8, ↓hp_g_26_9, ↓hp_g_26_10, ↓hp_g_26_11, ↓hp_g_26_12, ↓hp_g_26_13, ↓hp_g_26_14, ↓hp_g_26_15, ↓hp_p_26_15, ↓hp_g_26_16, ↓hp_g_26_17, ↓hp_g_26_18, ↓hp_p_26_18, ↓hp_g_26_19, ↓hp_p_26_19, ↓hp_g_26_20, ↓hp_g_26_21, ↓hp_p_26_21, ↓hp_g_26_22, ↓hp_g_26_23, ↓hp_g_26_24, ↓hp_g_26_25, ↓hp_g_26_26, ↓hp_g_26_27, ↓hp_g_26_28, ↓hp_g_26_29, ↓hp_g_26_30, ↓hp_p_26_30, ↓hp_g_26_31, ↓hp_g_26_32, ↓hp_p_26_32, ↓hp_a_27, ↓hp_s_27, ↓hp_l_27, ↓hp_a_28, ↓hp_s_28, ↓hp_l_28, ↓hp_a_29, ↓hp_s_29, ↓hp_l_29, ↓hp_a_30, ↓hp_s_30, ↓hp_l_30, ↓hp_a_31, ↓hp_s_31, ↓hp_l_31, ↓hp_a_32, ↓hp_s_32, ↓hp_l_32, ↓hp_a_33, ↓hp_s_33, ↓hp_l_33, ↓hp_a_34, ↓hp_s_34, ↓hp_l_34, ↓hp_a_35, ↓hp_s_35, ↓hp_l_35, ↓hp_a_36, ↓hp_s_36, ↓hp_l_36, ↓hp_a_37, ↓hp_s_37, ↓hp_l_37, ↓hp_a_38, ↓hp_s_38, ↓hp_l_38, ↓hp_a_39, ↓hp_s_39, ↓hp_a_40, ↓hp_s_40, ↓hp_a_41, ↓hp_s_41, ↓hp_l_41, ↓hp_a_42, ↓hp_s_42, ↓hp_l_42, ↓hp_a_43, ↓hp_s_43, ↓hp_l_43, ↓hp_a_44, ↓hp_s_44, ↓hp_l_44, ↓hp_a_45, ↓hp_s_45, ↓hp_l_45, ↓hp_a_46, ↓hp_s_46, ↓hp_l_46, ↓hp_a_47, ↓hp_s_47, ↓hp_l_47, ↓hp_a_48, ↓hp_s_48, ↓hp_l_48, ↓hp_a_49, ↓hp_s_49, ↓hp_l_49, ↓hp_a_50, ↓hp_s_50, ↓hp_l_50]
  have be : i32 e := by rcases c3 with h | h | h <;> rw [h] <;> (unfold i32; omega)
  have be0 : i32 e0 := by rcases b5 with h | h | h <;> rw [h] <;> (unfold i32; omega)
  have hi32 : i32 (e * (n : Int)) := by unfold i32; omega
  constructor
  · intro h
    rw [← rec7, eb_X12_nearersOf_2, iO_wide (by unfold i32; omega)]
    by_cases g : n = 1
    · subst g
      clear hsg hsn rec7 skp7
      have hside : f_X12_side sc (d + 3) 26 (iO (k : Int)) (lO ((1 : Nat) : Int)) (lO kk) 1 (hp XI XA XP XC MI MA ML D) = _ := hside
      have e1 : ((1 : Nat) : Int) = 1 := rfl
      rw [hp_cc_26, if_pos rfl, hside, bI_s, if_pos (show iO ((1 : Nat) : Int) = 1 from rfl), eb_X12_nearersOf_4, if_neg (show ¬ (1 : Int32) = 0 by decide)]
      rfl
    · have hn : ¬ PS l X Y := h.resolve_left g
      have hsv : sv < 0 := by
        rcases Int.lt_or_le sv 0 with q | q
        · exact q
        · exact absurd (hsg.1.mp q) hn
      have hi : i32 sv := by unfold i32; omega
      have en : (n : Int) ≠ 1 := by omega
      clear hsg rec7 skp7 hrg h hn g
      simp (disch := (first | assumption | (unfold i32; omega) | (unfold i64; omega) | omega)) only [↓reduceIte, ki_0, ki_1, ki_2, ki_3, ki_4, ki_5, ki_6, ki_7, ki_8, ki_9, ki_10, ki_11, ki_12, ki_13, ki_14, ki_15, ki_20, ki_21, ki_30, ki_31, ki_40, ki_41, ki_50, ki_51, ki_60, ki_63, ki_64, ki_65, ki_100, ki_158, ki_160, ki_200, ki_212, ki_1000, ki_2000, ki_2001, ki_5000, ki_10000, ki_10001, ki_100000, ki_200000, ki_1000000, ki_2000000, ki_3000000, iO_neg, iO_add, iO_sub, iO_mul, kn_4, kn_8, kn_10, kn_20, kn_24, kn_40, kn_41, kn_50, kn_60, kn_158, kn_160, kn_200, kn_212, kn_2001, tn_lt, fn_lt, tn_le, fn_le, tn_eq, fn_eq, x_lt, x_le, x_eq, x_ix, x_nat, t_lt, f_lt, t_le, f_le, t_eq, f_eq, eq_self, and_self, true_and, and_true, false_and, and_false, if_true, if_false, Int.toNat_natCast, bI_s, bL_s, bA_s, bA_n, bV_s, mq_s, mq_n, en_le, bl_0, bl_1, u_eq, u_ne, w_eq, w_ne, v_eq, v_ne, ↓hp_cc_26, ↓hp_g_26_0, ↓hp_p_26_0, ↓hp_g_26_1, ↓hp_p_26_1, ↓hp_g_26_2, ↓hp_p_26_2, ↓hp_g_26_3, ↓hp_g_26_4, ↓hp_g_26_5, ↓hp_g_26_6, ↓hp_g_26_7, ↓hp_g_26_8, ↓hp_g_26_9, ↓hp_g_26_10, ↓hp_g_26_11, ↓hp_g_26_12, ↓hp_g_26_13, ↓hp_g_26_14, ↓hp_g_26_15, ↓hp_p_26_15, ↓hp_g_26_16, ↓hp_g_26_17, ↓hp_g_26_18, ↓hp_p_26_18, ↓hp_g_26_19, ↓hp_p_26_19, ↓hp_g_26_20, ↓hp_g_26_21, ↓hp_p_26_21, ↓hp_g_26_22, ↓hp_g_26_23, ↓hp_g_26_24, ↓hp_g_26_25, ↓hp_g_26_26, ↓hp_g_26_27, ↓hp_g_26_28, ↓hp_g_26_29, ↓hp_g_26_30, ↓hp_p_26_30, ↓hp_g_26_31, ↓hp_g_26_32, ↓hp_p_26_32, ↓hp_a_27, ↓hp_s_27, ↓hp_l_27, ↓hp_a_28, ↓hp_s_28, ↓hp_l_28, ↓hp_a_29, ↓hp_s_29, ↓hp_l_29, ↓hp_a_30, ↓hp_s_30, ↓hp_l_30, ↓hp_a_31, ↓hp_s_31, ↓hp_l_31, ↓hp_a_32, ↓hp_s_32, ↓hp_l_32, ↓hp_a_33, ↓hp_s_33, ↓hp_l_33, ↓hp_a_34, ↓hp_s_34, ↓hp_l_34, ↓hp_a_35, ↓hp_s_35, ↓hp_l_35, ↓hp_a_36, ↓hp_s_36, ↓hp_l_36, ↓hp_a_37, ↓hp_s_37, ↓hp_l_37, ↓hp_a_38, ↓hp_s_38, ↓hp_l_38, ↓hp_a_39, ↓hp_s_39, ↓hp_a_40, ↓hp_s_40, ↓hp_a_41, ↓hp_s_41, ↓hp_l_41, ↓hp_a_42, ↓hp_s_42, ↓hp_l_42, ↓hp_a_43, ↓hp_s_43, ↓hp_l_43, ↓hp_a_44, ↓hp_s_44, ↓hp_l_44, ↓hp_a_45, ↓hp_s_45, ↓hp_l_45, ↓hp_a_46, ↓hp_s_46, ↓hp_l_46, ↓hp_a_47, ↓hp_s_47, ↓hp_l_47, ↓hp_a_48, ↓hp_s_48, ↓hp_l_48, ↓hp_a_49, ↓hp_s_49, ↓hp_l_49, ↓hp_a_50, ↓hp_s_50, ↓hp_l_50, hside, eb_X12_nearersOf_4, iO_wide, lO_mul, lO_sub, hX, hY, m0, m1, m2, m3, hsn]
  · intro ⟨g, hp0⟩
    have hsv : 0 ≤ sv := hsg.1.mpr hp0
    have hi : i32 sv := by unfold i32; omega
    have en : (n : Int) ≠ 1 := by omega
    rw [← skp7, eb_X12_nearersOf_2, iO_wide (by unfold i32; omega)]
    clear hsg rec7 skp7 hrg hp0 g
    simp (disch := (first | assumption | (unfold i32; omega) | (unfold i64; omega) | omega)) only [↓reduceIte, ki_0, ki_1, ki_2, ki_3, ki_4, ki_5, ki_6, ki_7, ki_8, ki_9, ki_10, ki_11, ki_12, ki_13, ki_14, ki_15, ki_20, ki_21, ki_30, ki_31, ki_40, ki_41, ki_50, ki_51, ki_60, ki_63, ki_64, ki_65, ki_100, ki_158, ki_160, ki_200, ki_212, ki_1000, ki_2000, ki_2001, ki_5000, ki_10000, ki_10001, ki_100000, ki_200000, ki_1000000, ki_2000000, ki_3000000, iO_neg, iO_add, iO_sub, iO_mul, kn_4, kn_8, kn_10, kn_20, kn_24, kn_40, kn_41, kn_50, kn_60, kn_158, kn_160, kn_200, kn_212, kn_2001, tn_lt, fn_lt, tn_le, fn_le, tn_eq, fn_eq, x_lt, x_le, x_eq, x_ix, x_nat, t_lt, f_lt, t_le, f_le, t_eq, f_eq, eq_self, and_self, true_and, and_true, false_and, and_false, if_true, if_false, Int.toNat_natCast, bI_s, bL_s, bA_s, bA_n, bV_s, mq_s, mq_n, en_le, bl_0, bl_1, u_eq, u_ne, w_eq, w_ne, v_eq, v_ne, ↓hp_cc_26, ↓hp_g_26_0, ↓hp_p_26_0, ↓hp_g_26_1, ↓hp_p_26_1, ↓hp_g_26_2, ↓hp_p_26_2, ↓hp_g_26_3, ↓hp_g_26_4, ↓hp_g_26_5, ↓hp_g_26_6, ↓hp_g_26_7, ↓hp_g_26_8, ↓hp_g_26_9, ↓hp_g_26_10, ↓hp_g_26_11, ↓hp_g_26_12, ↓hp_g_26_13, ↓hp_g_26_14, ↓hp_g_26_15, ↓hp_p_26_15, ↓hp_g_26_16, ↓hp_g_26_17, ↓hp_g_26_18, ↓hp_p_26_18, ↓hp_g_26_19, ↓hp_p_26_19, ↓hp_g_26_20, ↓hp_g_26_21, ↓hp_p_26_21, ↓hp_g_26_22, ↓hp_g_26_23, ↓hp_g_26_24, ↓hp_g_26_25, ↓hp_g_26_26, ↓hp_g_26_27, ↓hp_g_26_28, ↓hp_g_26_29, ↓hp_g_26_30, ↓hp_p_26_30, ↓hp_g_26_31, ↓hp_g_26_32, ↓hp_p_26_32, ↓hp_a_27, ↓hp_s_27, ↓hp_l_27, ↓hp_a_28, ↓hp_s_28, ↓hp_l_28, ↓hp_a_29, ↓hp_s_29, ↓hp_l_29, ↓hp_a_30, ↓hp_s_30, ↓hp_l_30, ↓hp_a_31, ↓hp_s_31, ↓hp_l_31, ↓hp_a_32, ↓hp_s_32, ↓hp_l_32, ↓hp_a_33, ↓hp_s_33, ↓hp_l_33, ↓hp_a_34, ↓hp_s_34, ↓hp_l_34, ↓hp_a_35, ↓hp_s_35, ↓hp_l_35, ↓hp_a_36, ↓hp_s_36, ↓hp_l_36, ↓hp_a_37, ↓hp_s_37, ↓hp_l_37, ↓hp_a_38, ↓hp_s_38, ↓hp_l_38, ↓hp_a_39, ↓hp_s_39, ↓hp_a_40, ↓hp_s_40, ↓hp_a_41, ↓hp_s_41, ↓hp_l_41, ↓hp_a_42, ↓hp_s_42, ↓hp_l_42, ↓hp_a_43, ↓hp_s_43, ↓hp_l_43, ↓hp_a_44, ↓hp_s_44, ↓hp_l_44, ↓hp_a_45, ↓hp_s_45, ↓hp_l_45, ↓hp_a_46, ↓hp_s_46, ↓hp_l_46, ↓hp_a_47, ↓hp_s_47, ↓hp_l_47, ↓hp_a_48, ↓hp_s_48, ↓hp_l_48, ↓hp_a_49, ↓hp_s_49, ↓hp_l_49, ↓hp_a_50, ↓hp_s_50, ↓hp_l_50, hside, eb_X12_nearersOf_4, iO_wide, lO_mul, lO_sub, hX, hY, m0, m1, m2, m3, hsn]
theorem m_near_step {MI : Nat → Int32} {MA : Nat → Nat → Int32} (hk : k < 8) (hM : MS MA k l.1 l.2.1 l.2.2.1 l.2.2.2) (hS : SL l.1 l.2.1 l.2.2.1 l.2.2.2) {n : Nat} (hn1 : 1 ≤ n) (hn2 : n ≤ 2000) {n0 k0 e0 : Int} (b1 : 0 ≤ n0) (b2 : n0 ≤ 2000) (b3 : 0 ≤ k0) (b4 : k0 ≤ 40001) (b5 : e0 = -1 ∨ e0 = 0 ∨ e0 = 1) {r : Nat} (h6 : MI 6 = iO (r : Int)) (hr : r ≤ 2000) :
    ∃ kk e : Int, DIST (PS l) n (e * (n : Int)) (e * kk) ∧ 0 ≤ kk ∧ kk ≤ 40001 ∧ (e = -1 ∨ e = 0 ∨ e = 1) ∧ ((n = 1 ∨ ¬ PS l (e * (n : Int) - e0 * n0) (e * kk - e0 * k0)) → b_X12_nearersOf_1 sc (d + 3) 26 (iO (k : Int)) (lO n0) (lO k0) (iO e0) (iO (n : Int)) (hp XI XA XP XC MI MA ML D) = b_X12_nearersOf_1 sc (d + 3) 26 (iO (k : Int)) (lO (n : Int)) (lO kk) (iO e) (iO ((n : Int) + 1)) (hp XI XA XP XC (va_up MI 6 (iO ((r : Int) + 1))) (va_up MA 12 (upd (MA 12) r (iO (n : Int)))) ML D))
    ∧ ((n ≠ 1 ∧ PS l (e * (n : Int) - e0 * n0) (e * kk - e0 * k0)) → b_X12_nearersOf_1 sc (d + 3) 26 (iO (k : Int)) (lO n0) (lO k0) (iO e0) (iO (n : Int)) (hp XI XA XP XC MI MA ML D) = b_X12_nearersOf_1 sc (d + 3) 26 (iO (k : Int)) (lO n0) (lO k0) (iO e0) (iO ((n : Int) + 1)) (hp XI XA XP XC MI MA ML D)) := by
  obtain ⟨a1, a2, y1, y2, z1, z2, d1, d2, -⟩ := id hS
  have hW0 : 0 ≤ WN l n := hS.w0 (N := (n : Int)) (by omega)
  have hW1 : WN l n ≤ 20 * (n : Int) := hS.w20 (N := (n : Int)) (by omega)
  have hw := e_mwhole (sc := sc) (n := d) (XI := XI) (XA := XA) (XP := XP) (XC := XC) (MI := MI) (ML := ML) (D0 := D) hk hM hS (N := (n : Int)) (by omega) (by omega)
  have hw : f_X12_wholeOf sc (d + 3) 26 (iO (k : Int)) (iO (n : Int)) (hp XI XA XP XC MI MA ML D) = some (some (.int (iO (WN l n))), hp XI XA XP XC MI MA ML D) := hw
  -- sides
  have t1 := mul_bd (x := (n : Int)) (y := l.1 + 1000) (a := 2000) (b := 2000) (by omega) (by omega) (by omega) (by omega)
  have t2 := mul_bd (x := (n : Int)) (y := l.2.1 + 20) (a := 2000) (b := 40) (by omega) (by omega) (by omega) (by omega)
  rw [Int.mul_add] at t1 t2
  have sd : ∀ (q w : Int), (q = 1 ∨ q = 2) → 0 ≤ w → w ≤ 80003 → f_X12_side sc (d + 3) 26 (iO (k : Int)) (lO (n : Int)) (lO w) (lO q) (hp XI XA XP XC MI MA ML D) = some (some (.int (iO (sg (l.1 * (q * (n : Int)) - w * l.2.2.1) (l.2.1 * (q * (n : Int))) l.2.2.2))), hp XI XA XP XC MI MA ML D) := by
    intro q w hq hw0 hw1
    have t3 := mul_bd (x := w) (y := l.2.2.1) (a := 80003) (b := 100) (by omega) (by omega) (by omega) (by omega)
    have f1 : q * l.1 * (n : Int) = l.1 * (q * (n : Int)) := by grind
    have f2 : q * l.2.1 * (n : Int) = l.2.1 * (q * (n : Int)) := by grind
    have u1 : -16000000 ≤ l.1 * (q * (n : Int)) ∧ l.1 * (q * (n : Int)) ≤ 16000000 := by
      rcases hq with rfl | rfl
      · rw [Int.one_mul, Int.mul_comm]; omega
      · rw [show l.1 * (2 * (n : Int)) = 2 * ((n : Int) * l.1) by grind]; omega
    have u2 : -400000 ≤ l.2.1 * (q * (n : Int)) ∧ l.2.1 * (q * (n : Int)) ≤ 400000 := by
      rcases hq with rfl | rfl
      · rw [Int.one_mul, Int.mul_comm]; omega
      · rw [show l.2.1 * (2 * (n : Int)) = 2 * ((n : Int) * l.2.1) by grind]; omega
    have s1 := sq_bd (x := l.1 * (q * (n : Int)) - w * l.2.2.1) (K := 100000000) (by omega) (by omega)
    have s2 := sq_bd (x := l.2.1 * (q * (n : Int))) (K := 1000000) (by omega) (by omega)
    have s3 := mul_bd (x := l.2.1 * (q * (n : Int)) * (l.2.1 * (q * (n : Int)))) (y := l.2.2.2) (a := 1000000000000) (b := 50) (by omega) (by omega) (by omega) d2
    have h := e_side (sc := sc) (n := d + 1) (XI := XI) (XA := XA) (XP := XP) (XC := XC) (MI := MI) (ML := ML) (D0 := D) hk hM hS (N := (n : Int)) (m := w) (q := q) (by rw [f1]; unfold i64; omega) (by rw [f2]; unfold i64; omega) (by rw [f1]; unfold i64; omega) (by rw [f2]; unfold i64; omega)
    rw [f1, f2] at h
    exact h
  have hs2 := sd 2 (2 * WN l n + 1) (Or.inr rfl) (by omega) (by omega)
  obtain ⟨p1, p2⟩ := PS_sg hS (2 * (n : Int)) (2 * WN l n + 1)
  have rg2 := sg_range (l.1 * (2 * (n : Int)) - (2 * WN l n + 1) * l.2.2.1) (l.2.1 * (2 * (n : Int))) l.2.2.2
  have first : b_X12_nearersOf_1 sc (d + 3) 26 (iO (k : Int)) (lO n0) (lO k0) (iO e0) (iO (n : Int)) (hp XI XA XP XC MI MA ML D) = b_X12_nearersOf_2 sc (d + 3) 26 (iO (k : Int)) (lO n0) (lO k0) (iO e0) (iO (n : Int)) (lO (if sg (l.1 * (2 * (n : Int)) - (2 * WN l n + 1) * l.2.2.1) (l.2.1 * (2 * (n : Int))) l.2.2.2 ≤ 0 then WN l n else WN l n + 1)) (hp XI XA XP XC MI MA ML D) := by
    rw [eb_X12_nearersOf_1, if_neg (show ¬ 2000 < iO (n : Int) from nlt (a := 2000) (b := (n : Int)) (by unfold i32; omega) (by unfold i32; omega) (by omega)), hp_cc_26, if_pos rfl, hw, bI_s, en_le, hp_cc_26, if_pos rfl, iO_wide (by unfold i32; omega), iO_wide (by unfold i32; omega), show (2 : Int64) * lO (WN l n) + 1 = lO (2 * WN l n + 1) by rw [kl_2, kl_1, lO_mul, lO_add], show (2 : Int64) = lO 2 from rfl, hs2, bI_s]
    generalize sg (l.1 * (2 * (n : Int)) - (2 * WN l n + 1) * l.2.2.1) (l.2.1 * (2 * (n : Int))) l.2.2.2 = sv at *
    by_cases g : sv ≤ 0
    · rw [if_pos g, if_pos (show iO sv ≤ 0 from ple (a := sv) (b := 0) (by unfold i32; omega) (by unfold i32; omega) g)]
    · rw [if_neg g, if_neg (show ¬ iO sv ≤ 0 from nle (a := sv) (b := 0) (by unfold i32; omega) (by unfold i32; omega) (by omega)), en_le, kl_1, lO_add]
  rw [first]
  by_cases g : sg (l.1 * (2 * (n : Int)) - (2 * WN l n + 1) * l.2.2.1) (l.2.1 * (2 * (n : Int))) l.2.2.2 ≤ 0
  · rw [if_pos g]
    have h2 := p2.mp g
    have hs1 := sd 1 (WN l n) (Or.inl rfl) (by omega) (by omega)
    rw [Int.one_mul] at hs1
    obtain ⟨r1, r2⟩ := PS_sg hS (n : Int) (WN l n)
    have hge := r1.mpr ((PS_W hS _).mpr (Int.le_refl _))
    have rg1 := sg_range (l.1 * (n : Int) - WN l n * l.2.2.1) (l.2.1 * (n : Int)) l.2.2.2
    generalize sg (l.1 * (n : Int) - WN l n * l.2.2.1) (l.2.1 * (n : Int)) l.2.2.2 = e at *
    refine ⟨WN l n, e, ?_, by omega, by omega, rg1, m_near4 hk hM hS hn1 hn2 b1 b2 b3 b4 b5 h6 hr (by omega) (by omega) rg1 hs1⟩
    by_cases ge : e = 0
    · rw [ge, Int.zero_mul, Int.zero_mul]
      exact dist_0 hS (r2.mp (by omega))
    · have : e = 1 := by omega
      rw [this, Int.one_mul, Int.one_mul]
      exact dist_dn hS h2 (fun q => by have := r2.mpr q; omega)
  · rw [if_neg g]
    have h2 : ¬ PS l (-(2 * (n : Int))) (-(2 * WN l n + 1)) := fun q => g (p2.mpr q)
    have hs1 := sd 1 (WN l n + 1) (Or.inl rfl) (by omega) (by omega)
    rw [Int.one_mul] at hs1
    obtain ⟨r1, r2⟩ := PS_sg hS (n : Int) (WN l n + 1)
    have rg1 := sg_range (l.1 * (n : Int) - (WN l n + 1) * l.2.2.1) (l.2.1 * (n : Int)) l.2.2.2
    have hlt : sg (l.1 * (n : Int) - (WN l n + 1) * l.2.2.1) (l.2.1 * (n : Int)) l.2.2.2 < 0 := by
      rcases Int.lt_or_le (sg (l.1 * (n : Int) - (WN l n + 1) * l.2.2.1) (l.2.1 * (n : Int)) l.2.2.2) 0 with q | q
      · exact q
      · have := (PS_W hS _).mp (r1.mp q)
        omega
    generalize sg (l.1 * (n : Int) - (WN l n + 1) * l.2.2.1) (l.2.1 * (n : Int)) l.2.2.2 = e at *
    have he : e = -1 := by omega
    refine ⟨WN l n + 1, e, ?_, by omega, by omega, rg1, m_near4 hk hM hS hn1 hn2 b1 b2 b3 b4 b5 h6 hr (by omega) (by omega) rg1 hs1⟩
    rw [he, show -1 * (n : Int) = -(n : Int) by omega, show -1 * (WN l n + 1) = -(WN l n + 1) by omega]
    exact dist_up hS h2
end NRM
