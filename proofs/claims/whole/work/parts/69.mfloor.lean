/-! THE MODEL's floorOf; what its numbers on the way are like -/
theorem up_up {α : Type} (f : Nat → α) (k : Nat) (a b : α) : va_up (va_up f k a) k b = va_up f k b := by
  funext j
  unfold va_up
  split <;> rfl
section MFL
variable {sc : en_S} {n : Nat} {z : en_H} {a b c d : Int}
/-- numbers for which floorOf does not overflow -/
def FB (a b c d : Int) : Prop := -1300000 ≤ a ∧ a ≤ 1300000 ∧ -3000 ≤ b ∧ b ≤ 3000 ∧ 1 ≤ c ∧ c ≤ 1000000 ∧ 2 ≤ d ∧ d ≤ 50 ∧ (b ≠ 0 → nsq d) ∧ nn a b d
theorem FB.hn (h : FB a b c d) : 0 ≤ b ∨ nsq d := by
  by_cases e : b = 0
  · left; omega
  · exact Or.inr (h.2.2.2.2.2.2.2.2.1 e)
theorem FB.w (h : FB a b c d) : 0 ≤ whl a b d c ∧ whl a b d c * c ≤ 1400000 := by
  obtain ⟨a1, a2, b1, b2, c1, c2, d1, d2, hns, hnn⟩ := id h
  constructor
  · rw [← whl_iff (by omega) h.hn (by omega), Int.zero_mul, Int.sub_zero]
    exact hnn
  · have s2 := sq_bd (x := b) (K := 3000) (by omega) (by omega)
    have s3 := mul_bd (x := b * b) (y := d) (a := 9000000) (b := 50) (by omega) (by omega) (by omega) d2
    have := whl_rem (x := a) (y := b) (d := d) (m := c) (K := 22000) (by omega) (by omega) (by omega) (by omega)
    omega
theorem FB.sg (h : FB a b c d) {k : Int} (h1 : 0 ≤ k) (h2 : k * c ≤ 4000000) : f_X12_sign sc (n + 1) (lO (a - k * c)) (lO b) (lO d) z = some (some (.int (iO (sg (a - k * c) b d))), z) ∧ (0 ≤ sg (a - k * c) b d ↔ k ≤ whl a b d c) := by
  obtain ⟨a1, a2, b1, b2, c1, c2, d1, d2, hns, hnn⟩ := id h
  have k0 := Int.mul_nonneg h1 (show 0 ≤ c by omega)
  have s1 := sq_bd (x := a - k * c) (K := 6000000) (by omega) (by omega)
  have s2 := sq_bd (x := b) (K := 3000) (by omega) (by omega)
  have s3 := mul_bd (x := b * b) (y := d) (a := 9000000) (b := 50) (by omega) (by omega) (by omega) d2
  exact ⟨e_sign (by unfold i64; omega) (by unfold i64; omega) (by unfold i64; omega) (by unfold i64; omega), (sg_nn (by omega)).trans (whl_iff (by omega) h.hn (by omega))⟩
theorem m_floor3 (h : FB a b c d) : ∀ (j : Nat) (hi lo : Int), 0 ≤ lo → lo ≤ whl a b d c → whl a b d c < hi → hi - lo ≤ j → (hi = 1 ∨ hi ≤ 2 * whl a b d c) → b_X12_floorOf_3 sc (n + 1) (lO a) (lO b) (lO c) (lO d) (lO hi) (lO lo) z = some (some (.long (lO (whl a b d c))), z) := by
  obtain ⟨w0, w1⟩ := h.w
  have wb : whl a b d c ≤ 1400000 := by
    have := mul_le_mul' (a := whl a b d c) (b := whl a b d c) (c := 1) (d := c) w0 (by omega) (by omega) h.2.2.2.2.1
    omega
  intro j
  induction j with
  | zero => intro hi lo h0 h1 h2 h3 h4; omega
  | succ j ih =>
    intro hi lo h0 h1 h2 h3 h4
    rw [eb_X12_floorOf_3]
    by_cases g : hi ≤ lo + 1
    · have e : whl a b d c = lo := by omega
      rw [e]
      simp (disch := (first | assumption | (unfold i32; omega) | (unfold i64; omega) | omega)) only [ki_0, ki_1, ki_2, ki_3, ki_4, ki_5, ki_6, ki_7, ki_8, ki_9, ki_10, ki_11, ki_12, ki_13, ki_14, ki_15, ki_20, ki_21, ki_30, ki_31, ki_40, ki_41, ki_50, ki_51, ki_60, ki_63, ki_64, ki_65, ki_100, ki_158, ki_160, ki_200, ki_212, ki_1000, ki_2000, ki_2001, ki_5000, ki_10000, ki_10001, ki_100000, ki_200000, ki_1000000, ki_2000000, ki_3000000, iO_neg, iO_add, iO_sub, iO_mul, kn_4, kn_8, kn_10, kn_20, kn_24, kn_40, kn_41, kn_50, kn_60, kn_158, kn_160, kn_200, kn_212, kn_2001, tn_lt, fn_lt, tn_le, fn_le, tn_eq, fn_eq, x_lt, x_le, x_eq, x_ix, x_nat, t_lt, f_lt, t_le, f_le, t_eq, f_eq, eq_self, and_self, true_and, and_true, false_and, and_false, if_true, if_false, Int.toNat_natCast, bI_s, bL_s, bA_s, bA_n, bV_s, mq_s, mq_n, en_le, bl_0, bl_1, u_eq, u_ne, w_eq, w_ne, v_eq, v_ne, lc_lt, lc_le, lc_gt, lc_ge, lc_eq, y_lt, y_le, y_eq, kl_1, lO_add]
    · have ed : lO (lo + hi) / lO 2 = lO ((lo + hi) / 2) := by
        have e : (lo + hi).tdiv 2 = (lo + hi) / 2 := Int.tdiv_eq_ediv_of_nonneg (by omega)
        rw [lO_div (by unfold i64; omega) (by unfold i64; omega) (by rw [e]; unfold i64; omega), e]
      have hkc : (lo + hi) / 2 * c ≤ 4000000 := by
        have h5 : (lo + hi) / 2 ≤ 2 * whl a b d c := by omega
        have := Int.mul_le_mul_of_nonneg_right h5 (show 0 ≤ c by have := h.2.2.2.2.1; omega)
        rw [Int.mul_assoc] at this
        omega
      obtain ⟨q1, q2⟩ := h.sg (sc := sc) (n := n) (z := z) (k := (lo + hi) / 2) (by omega) hkc
      have r := sg_range (a - (lo + hi) / 2 * c) b d
      generalize sg (a - (lo + hi) / 2 * c) b d = x at *
      have hx : i32 x := by unfold i32; omega
      simp (disch := (first | assumption | (unfold i32; omega) | (unfold i64; omega) | omega)) only [ki_0, ki_1, ki_2, ki_3, ki_4, ki_5, ki_6, ki_7, ki_8, ki_9, ki_10, ki_11, ki_12, ki_13, ki_14, ki_15, ki_20, ki_21, ki_30, ki_31, ki_40, ki_41, ki_50, ki_51, ki_60, ki_63, ki_64, ki_65, ki_100, ki_158, ki_160, ki_200, ki_212, ki_1000, ki_2000, ki_2001, ki_5000, ki_10000, ki_10001, ki_100000, ki_200000, ki_1000000, ki_2000000, ki_3000000, iO_neg, iO_add, iO_sub, iO_mul, kn_4, kn_8, kn_10, kn_20, kn_24, kn_40, kn_41, kn_50, kn_60, kn_158, kn_160, kn_200, kn_212, kn_2001, tn_lt, fn_lt, tn_le, fn_le, tn_eq, fn_eq, x_lt, x_le, x_eq, x_ix, x_nat, t_lt, f_lt, t_le, f_le, t_eq, f_eq, eq_self, and_self, true_and, and_true, false_and, and_false, if_true, if_false, Int.toNat_natCast, bI_s, bL_s, bA_s, bA_n, bV_s, mq_s, mq_n, en_le, bl_0, bl_1, u_eq, u_ne, w_eq, w_ne, v_eq, v_ne, lc_lt, lc_le, lc_gt, lc_ge, lc_eq, y_lt, y_le, y_eq, kl_1, kl_2, lO_add, ed, lO_mul, lO_sub, q1]
      by_cases g2 : x < 0
      · simp (disch := (first | assumption | (unfold i32; omega) | (unfold i64; omega) | omega)) only [ki_0, ki_1, ki_2, ki_3, ki_4, ki_5, ki_6, ki_7, ki_8, ki_9, ki_10, ki_11, ki_12, ki_13, ki_14, ki_15, ki_20, ki_21, ki_30, ki_31, ki_40, ki_41, ki_50, ki_51, ki_60, ki_63, ki_64, ki_65, ki_100, ki_158, ki_160, ki_200, ki_212, ki_1000, ki_2000, ki_2001, ki_5000, ki_10000, ki_10001, ki_100000, ki_200000, ki_1000000, ki_2000000, ki_3000000, iO_neg, iO_add, iO_sub, iO_mul, kn_4, kn_8, kn_10, kn_20, kn_24, kn_40, kn_41, kn_50, kn_60, kn_158, kn_160, kn_200, kn_212, kn_2001, tn_lt, fn_lt, tn_le, fn_le, tn_eq, fn_eq, x_lt, x_le, x_eq, x_ix, x_nat, t_lt, f_lt, t_le, f_le, t_eq, f_eq, eq_self, and_self, true_and, and_true, false_and, and_false, if_true, if_false, Int.toNat_natCast, bI_s, bL_s, bA_s, bA_n, bV_s, mq_s, mq_n, en_le, bl_0, bl_1, u_eq, u_ne, w_eq, w_ne, v_eq, v_ne]
        exact ih _ _ h0 h1 (by omega) (by omega) (by omega)
      · simp (disch := (first | assumption | (unfold i32; omega) | (unfold i64; omega) | omega)) only [ki_0, ki_1, ki_2, ki_3, ki_4, ki_5, ki_6, ki_7, ki_8, ki_9, ki_10, ki_11, ki_12, ki_13, ki_14, ki_15, ki_20, ki_21, ki_30, ki_31, ki_40, ki_41, ki_50, ki_51, ki_60, ki_63, ki_64, ki_65, ki_100, ki_158, ki_160, ki_200, ki_212, ki_1000, ki_2000, ki_2001, ki_5000, ki_10000, ki_10001, ki_100000, ki_200000, ki_1000000, ki_2000000, ki_3000000, iO_neg, iO_add, iO_sub, iO_mul, kn_4, kn_8, kn_10, kn_20, kn_24, kn_40, kn_41, kn_50, kn_60, kn_158, kn_160, kn_200, kn_212, kn_2001, tn_lt, fn_lt, tn_le, fn_le, tn_eq, fn_eq, x_lt, x_le, x_eq, x_ix, x_nat, t_lt, f_lt, t_le, f_le, t_eq, f_eq, eq_self, and_self, true_and, and_true, false_and, and_false, if_true, if_false, Int.toNat_natCast, bI_s, bL_s, bA_s, bA_n, bV_s, mq_s, mq_n, en_le, bl_0, bl_1, u_eq, u_ne, w_eq, w_ne, v_eq, v_ne]
        exact ih _ _ (by omega) (by omega) h2 (by omega) h4
theorem m_floor1 (h : FB a b c d) : ∀ (j : Nat) (hi : Int), 1 ≤ hi → whl a b d c - hi < j → (hi = 1 ∨ hi ≤ 2 * whl a b d c) → b_X12_floorOf_1 sc (n + 1) (lO a) (lO b) (lO c) (lO d) (lO hi) z = some (some (.long (lO (whl a b d c))), z) := by
  obtain ⟨w0, w1⟩ := h.w
  intro j
  induction j with
  | zero =>
    intro hi h1 h2 h3
    have hkc : hi * c ≤ 4000000 := by
      rcases h3 with e | e
      · have := h.2.2.2.2.2.1; subst e; omega
      · have := Int.mul_le_mul_of_nonneg_right e (show 0 ≤ c by have := h.2.2.2.2.1; omega)
        rw [Int.mul_assoc] at this
        omega
    obtain ⟨q1, q2⟩ := h.sg (sc := sc) (n := n) (z := z) (k := hi) (by omega) hkc
    have r := sg_range (a - hi * c) b d
    rw [eb_X12_floorOf_1, lO_mul, lO_sub, q1]
    generalize sg (a - hi * c) b d = x at *
    have hx : i32 x := by unfold i32; omega
    have g2 : x < 0 := by omega
    simp (disch := (first | assumption | (unfold i32; omega) | (unfold i64; omega) | omega)) only [ki_0, ki_1, ki_2, ki_3, ki_4, ki_5, ki_6, ki_7, ki_8, ki_9, ki_10, ki_11, ki_12, ki_13, ki_14, ki_15, ki_20, ki_21, ki_30, ki_31, ki_40, ki_41, ki_50, ki_51, ki_60, ki_63, ki_64, ki_65, ki_100, ki_158, ki_160, ki_200, ki_212, ki_1000, ki_2000, ki_2001, ki_5000, ki_10000, ki_10001, ki_100000, ki_200000, ki_1000000, ki_2000000, ki_3000000, iO_neg, iO_add, iO_sub, iO_mul, kn_4, kn_8, kn_10, kn_20, kn_24, kn_40, kn_41, kn_50, kn_60, kn_158, kn_160, kn_200, kn_212, kn_2001, tn_lt, fn_lt, tn_le, fn_le, tn_eq, fn_eq, x_lt, x_le, x_eq, x_ix, x_nat, t_lt, f_lt, t_le, f_le, t_eq, f_eq, eq_self, and_self, true_and, and_true, false_and, and_false, if_true, if_false, Int.toNat_natCast, bI_s, bL_s, bA_s, bA_n, bV_s, mq_s, mq_n, en_le, bl_0, bl_1, u_eq, u_ne, w_eq, w_ne, v_eq, v_ne]
    exact m_floor3 h hi.toNat hi 0 (by omega) w0 (by omega) (by omega) h3
  | succ j ih =>
    intro hi h1 h2 h3
    have hkc : hi * c ≤ 4000000 := by
      rcases h3 with e | e
      · have := h.2.2.2.2.2.1; subst e; omega
      · have := Int.mul_le_mul_of_nonneg_right e (show 0 ≤ c by have := h.2.2.2.2.1; omega)
        rw [Int.mul_assoc] at this
        omega
    obtain ⟨q1, q2⟩ := h.sg (sc := sc) (n := n) (z := z) (k := hi) (by omega) hkc
    have r := sg_range (a - hi * c) b d
    rw [eb_X12_floorOf_1, lO_mul, lO_sub, q1]
    generalize sg (a - hi * c) b d = x at *
    have hx : i32 x := by unfold i32; omega
    by_cases g2 : x < 0
    · simp (disch := (first | assumption | (unfold i32; omega) | (unfold i64; omega) | omega)) only [ki_0, ki_1, ki_2, ki_3, ki_4, ki_5, ki_6, ki_7, ki_8, ki_9, ki_10, ki_11, ki_12, ki_13, ki_14, ki_15, ki_20, ki_21, ki_30, ki_31, ki_40, ki_41, ki_50, ki_51, ki_60, ki_63, ki_64, ki_65, ki_100, ki_158, ki_160, ki_200, ki_212, ki_1000, ki_2000, ki_2001, ki_5000, ki_10000, ki_10001, ki_100000, ki_200000, ki_1000000, ki_2000000, ki_3000000, iO_neg, iO_add, iO_sub, iO_mul, kn_4, kn_8, kn_10, kn_20, kn_24, kn_40, kn_41, kn_50, kn_60, kn_158, kn_160, kn_200, kn_212, kn_2001, tn_lt, fn_lt, tn_le, fn_le, tn_eq, fn_eq, x_lt, x_le, x_eq, x_ix, x_nat, t_lt, f_lt, t_le, f_le, t_eq, f_eq, eq_self, and_self, true_and, and_true, false_and, and_false, if_true, if_false, Int.toNat_natCast, bI_s, bL_s, bA_s, bA_n, bV_s, mq_s, mq_n, en_le, bl_0, bl_1, u_eq, u_ne, w_eq, w_ne, v_eq, v_ne]
      exact m_floor3 h hi.toNat hi 0 (by omega) w0 (by omega) (by omega) h3
    · simp (disch := (first | assumption | (unfold i32; omega) | (unfold i64; omega) | omega)) only [ki_0, ki_1, ki_2, ki_3, ki_4, ki_5, ki_6, ki_7, ki_8, ki_9, ki_10, ki_11, ki_12, ki_13, ki_14, ki_15, ki_20, ki_21, ki_30, ki_31, ki_40, ki_41, ki_50, ki_51, ki_60, ki_63, ki_64, ki_65, ki_100, ki_158, ki_160, ki_200, ki_212, ki_1000, ki_2000, ki_2001, ki_5000, ki_10000, ki_10001, ki_100000, ki_200000, ki_1000000, ki_2000000, ki_3000000, iO_neg, iO_add, iO_sub, iO_mul, kn_4, kn_8, kn_10, kn_20, kn_24, kn_40, kn_41, kn_50, kn_60, kn_158, kn_160, kn_200, kn_212, kn_2001, tn_lt, fn_lt, tn_le, fn_le, tn_eq, fn_eq, x_lt, x_le, x_eq, x_ix, x_nat, t_lt, f_lt, t_le, f_le, t_eq, f_eq, eq_self, and_self, true_and, and_true, false_and, and_false, if_true, if_false, Int.toNat_natCast, bI_s, bL_s, bA_s, bA_n, bV_s, mq_s, mq_n, en_le, bl_0, bl_1, u_eq, u_ne, w_eq, w_ne, v_eq, v_ne, kl_2, lO_mul]
      exact ih (2 * hi) (by omega) (by omega) (Or.inr (by omega))
theorem m_floor (h : FB a b c d) : f_X12_floorOf sc (n + 2) (lO a) (lO b) (lO c) (lO d) z = some (some (.long (lO (whl a b d c))), z) := by
  rw [e_X12_floorOf]
  exact m_floor1 h (whl a b d c).toNat.succ 1 (by omega) (by have := h.w.1; omega) (Or.inl rfl)
end MFL
/-- coprime, three numbers -/
theorem dvd3 {a b c q : Int} (hg : Int.gcd (Int.gcd a b : Nat) c = 1) (h1 : c ∣ a * q) (h2 : c ∣ b * q) : c ∣ q := by
  have h3 : c ∣ ((Int.gcd (a * q) (b * q) : Nat) : Int) := Int.dvd_coe_gcd h1 h2
  rw [Int.gcd_mul_right] at h3
  have h4 : c.natAbs ∣ Int.gcd a b * q.natAbs := Int.natAbs_dvd_natAbs.mpr h3
  have h5 : Nat.gcd (Int.gcd a b) c.natAbs = 1 := hg
  have h6 : c.natAbs ∣ q.natAbs := Nat.Coprime.dvd_of_dvd_mul_left (Nat.coprime_comm.mp h5) h4
  exact Int.natAbs_dvd_natAbs.mp h6
/-- a root slope's numbers on the way of the model -/
def BND (e D r a b c : Int) (k : Nat) : Prop := 0 < e ∧ e ≤ 2000 ∧ 2 ≤ D ∧ D ≤ 50 ∧ nsq D ∧ 0 ≤ r ∧ r ≤ 20000 ∧ r * r ≤ e * e * D ∧ e * e * D < (r + 1) * (r + 1) ∧ 0 < c ∧ nn a b D ∧ ∃ P Q K, PQ (e * e * D) P Q K ∧ a * Q = P * c ∧ b * Q = e * c ∧ c ∣ Q ∧ 2 * r + 1 ≤ K ∧ K + 40000 * k ≤ 1000000 ∧ -1200000 ≤ P ∧ P ≤ 1200000
theorem abs_le_of {x q p c : Int} (hq : q ≠ 0) (hc : 0 < c) (h : x * q = p * c) (hd : c ∣ q) {M : Int} (h1 : -M ≤ p) (h2 : p ≤ M) : -M ≤ x ∧ x ≤ M := by
  obtain ⟨t, rfl⟩ := hd
  have ht : t ≠ 0 := fun e => hq (by rw [e, Int.mul_zero])
  have e : x * t = p := by
    have : (x * t - p) * c = 0 := by grind
    rcases Int.mul_eq_zero.mp this with g | g <;> omega
  rcases Int.lt_or_gt_of_ne ht with g | g
  · have := dv_bd (g := -t) (a := x) (A := -p) (K := M) (by omega) (by rw [← e]; grind) (by omega) (by omega)
    exact this
  · exact dv_bd (g := t) (a := x) (A := p) (K := M) (by omega) (by rw [← e]; grind) h1 h2
theorem BND.fb {e D r a b c : Int} {k : Nat} (h : BND e D r a b c k) : FB a b c D ∧ b ≠ 0 := by
  obtain ⟨e1, e2, d1, d2, hns, r0, r1, r2, r3, hc, hnn, P, Q, K, hPQ, hP, hQ, hd, hK, hK2, p1, p2⟩ := h
  have ba := abs_le_of hPQ.1 hc hP hd p1 p2
  have bb := abs_le_of hPQ.1 hc hQ hd (M := 2000) (by omega) (by omega)
  have hb : b ≠ 0 := by
    intro g
    rw [g, Int.zero_mul] at hQ
    have := Int.mul_pos e1 hc
    omega
  have hcQ : c ≤ 1000000 := by
    obtain ⟨q0, -, q1, q2⟩ := hPQ
    obtain ⟨t, ht⟩ := hd
    have ht0 : t ≠ 0 := fun e => q0 (by rw [ht, e, Int.mul_zero])
    rcases Int.lt_or_gt_of_ne ht0 with g | g
    · have := mul_le_mul' (a := c) (b := c) (c := 1) (d := -t) (by omega) (by omega) (by omega) (by omega)
      rw [Int.mul_neg] at this
      omega
    · have := mul_le_mul' (a := c) (b := c) (c := 1) (d := t) (by omega) (by omega) (by omega) (by omega)
      omega
  exact ⟨⟨by omega, by omega, by omega, by omega, by omega, hcQ, d1, d2, fun _ => hns, hnn⟩, hb⟩
theorem gcd3_one {a b c g : Int} (hg0 : 0 < g) (hg : g = ((Int.gcd (Int.gcd (a * g) (b * g) : Nat) (c * g) : Nat) : Int)) : Int.gcd (Int.gcd a b : Nat) c = 1 := by
  rw [Int.gcd_mul_right, Int.natCast_mul, show ((g.natAbs : Nat) : Int) = g by omega, Int.gcd_mul_right] at hg
  have h2 : Int.gcd (Int.gcd a b : Nat) c * g.natAbs = g.natAbs := by omega
  have h3 : 0 < g.natAbs := by omega
  exact Nat.eq_of_mul_eq_mul_right h3 (by omega)
theorem canc {x q p y g : Int} (hg : 0 < g) (h : x * g * q = y * g * p) : x * q = p * y := by
  have : (x * q - p * y) * g = 0 := by grind
  rcases Int.mul_eq_zero.mp this with z | z <;> omega
theorem BND.next {e D r a b c : Int} {k : Nat} (h : BND e D r a b c (k + 1)) {na nb nc g a2 b2 c2 : Int} (hs : (0 < (a - whl a b D c * c) * (a - whl a b D c * c) - b * b * D ∧ na = c * (a - whl a b D c * c) ∧ nb = -(c * b) ∧ nc = (a - whl a b D c * c) * (a - whl a b D c * c) - b * b * D) ∨ (¬ 0 < (a - whl a b D c * c) * (a - whl a b D c * c) - b * b * D ∧ na = -(c * (a - whl a b D c * c)) ∧ nb = c * b ∧ nc = -((a - whl a b D c * c) * (a - whl a b D c * c) - b * b * D))) (hg0 : 0 < g) (hg : g = ((Int.gcd (Int.gcd na nb : Nat) nc : Nat) : Int)) (h1 : na = a2 * g) (h2 : nb = b2 * g) (h3 : nc = c2 * g) : BND e D r a2 b2 c2 k := by
  obtain ⟨hFB, hb⟩ := h.fb
  obtain ⟨e1, e2, d1, d2, hns, r0, r1, r2, r3, hc, hnn, P, Q, K, hPQ, hP, hQ, hd, hK, hK2, p1, p2⟩ := h
  have hne : ∀ x : Int, e * e * D - x * x ≠ 0 := fun x h => nc_ne (e := x) (b := e) (d := D) (by omega) hns (by omega)
  obtain ⟨P1, Q1, a1, a3, a4, a5, a6⟩ := pq_next r0 r2 r3 hne hK hPQ
  obtain ⟨f1, f2⟩ := fl_pos e1 r0 r2 r3
  -- the same whole
  have hw : whl a b D c = pqw r P Q := by
    unfold pqw
    by_cases g : 0 < Q
    · rw [if_pos g]
      have q : EQN a b c 1 P e Q := ⟨hc, g, by omega, hP, by rw [Int.mul_one]; exact hQ⟩
      have := q.hw1 (d := D) (by omega) (fun _ => hns) (fun _ => by rw [Int.mul_one, Int.mul_one]; exact hns)
      rw [Int.mul_one, Int.mul_one] at this
      rw [this]
      unfold whl
      rw [f1]
    · rw [if_neg g]
      have q : EQN a b c 1 (-P) (-e) (-Q) := ⟨hc, by have := hPQ.1; omega, by omega, by rw [Int.mul_neg, Int.neg_mul, hP], by rw [Int.mul_one, Int.mul_neg, Int.neg_mul, hQ]⟩
      have := q.hw1 (d := D) (by omega) (fun _ => hns) (fun _ => by rw [Int.mul_one, Int.mul_one]; exact hns)
      rw [Int.mul_one, Int.mul_one] at this
      rw [this]
      unfold whl
      rw [f2]
      congr 1
      omega
  rw [hw] at hs
  have q0 := hPQ.1
  have w1 := pqw_1 r0 r2 r3 hPQ.1 a1 a3 a4.1
  generalize hW : pqw r P Q = w at *
  have hE : (a - w * c) * Q = -P1 * c := by rw [a1]; grind
  generalize a - w * c = E at *
  have n1 := nc_ne (e := E) hb hns
  have hN : (E * E - b * b * D) * Q = -(Q1 * (c * c)) := by
    have : ((E * E - b * b * D) * Q + Q1 * (c * c)) * Q = 0 := by grind
    rcases Int.mul_eq_zero.mp this with y | y
    · omega
    · exact absurd y q0
  generalize E * E - b * b * D = N at *
  have x1 : c * E * Q1 = N * P1 := by
    have : (c * E * Q1 - N * P1) * Q = 0 := by grind
    rcases Int.mul_eq_zero.mp this with y | y
    · omega
    · exact absurd y q0
  have x2 : -(c * b) * Q1 = N * e := by
    have : (-(c * b) * Q1 - N * e) * Q = 0 := by grind
    rcases Int.mul_eq_zero.mp this with y | y
    · omega
    · exact absurd y q0
  have hnc : 0 < nc ∧ na * Q1 = nc * P1 ∧ nb * Q1 = nc * e := by
    rcases hs with ⟨g1, rfl, rfl, rfl⟩ | ⟨g1, rfl, rfl, rfl⟩
    · exact ⟨g1, x1, x2⟩
    · refine ⟨by omega, by rw [Int.neg_mul, Int.neg_mul, x1], by rw [Int.neg_mul] at x2 ⊢; omega⟩
  obtain ⟨y1, y2, y3⟩ := hnc
  have c2p : 0 < c2 := by
    rw [h3] at y1
    exact Int.pos_of_mul_pos_left y1 (by omega)
  have z1 : a2 * Q1 = P1 * c2 := canc hg0 (by rw [← h1, ← h3]; exact y2)
  have z2 : b2 * Q1 = e * c2 := canc hg0 (by rw [← h2, ← h3]; exact y3)
  have hone : Int.gcd (Int.gcd a2 b2 : Nat) c2 = 1 := gcd3_one hg0 (by rw [h1, h2, h3] at hg; exact hg)
  have hdv : c2 ∣ Q1 := dvd3 hone ⟨P1, by rw [z1, Int.mul_comm]⟩ ⟨e, by rw [z2, Int.mul_comm]⟩
  have hnn2 : nn a2 b2 D := by
    unfold pqw at w1
    by_cases g1 : 0 < Q1
    · rw [if_pos g1, Int.le_ediv_iff_mul_le g1] at w1
      have : nn P1 e D := (nn_fl (by omega) (Or.inl (by omega))).mpr (by rw [f1]; omega)
      have := (nn_scale c2p).mpr this
      rw [Int.mul_comm c2 P1, Int.mul_comm c2 e, ← z1, ← z2, Int.mul_comm a2, Int.mul_comm b2] at this
      exact (nn_scale g1).mp this
    · rw [if_neg g1, Int.le_ediv_iff_mul_le (by have := a4.1; omega)] at w1
      have : nn (-P1) (-e) D := (nn_fl (by omega) (Or.inr hns)).mpr (by rw [f2]; have := a4.1; omega)
      have := (nn_scale c2p).mpr this
      rw [show c2 * -P1 = -Q1 * a2 by rw [Int.mul_neg, Int.mul_comm c2, ← z1, Int.neg_mul, Int.mul_comm a2], show c2 * -e = -Q1 * b2 by rw [Int.mul_neg, Int.mul_comm c2, ← z2, Int.neg_mul, Int.mul_comm b2]] at this
      exact (nn_scale (by have := a4.1; omega)).mp this
  exact ⟨e1, e2, d1, d2, hns, r0, r1, r2, r3, c2p, hnn2, P1, Q1, K + 2 * r, a4, z1, z2, hdv, by omega, by omega, by omega, by omega⟩
