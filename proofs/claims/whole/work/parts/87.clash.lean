/-! THE CLASH: the class finds it; isEven, clash: both sides -/
section FCL
variable {sc : en_S} {d : Nat} {XA : Nat → Nat → Int32} {XP : Nat → Nat → Option Nat} {XC : Value} {MI : Nat → Int32} {MA : Nat → Nat → Int32} {ML : Nat → Nat → Int64} {D : en_H} {fr n : Nat} {f : Nat → Int}
theorem x_places2 (hn : n ≤ 40) (hs : ∀ t, t ≤ n → XA 1 t = XA 1 0 + iO (ssum f fr t)) (hb : ∀ a k, a + k ≤ n → 0 ≤ ssum f (fr + a) k ∧ ssum f (fr + a) k ≤ 10000) {k a : Nat} (hk : 1 ≤ k) (hak : a + k ≤ n) (XI : Nat → Int32) (h11 : XI 11 = iO (n : Nat)) : ∀ (j b : Nat), b + k + j = n + 1 → a < b →
    (match cl3 (fun a k => ssum f (fr + a) k) k a j b with
    | some c => ∃ b' : Nat, c = 10000 * (k : Int) + 100 * (a : Int) + (b' : Int) ∧ b' ≤ 40 ∧ b_X8_findClashPlaces_2 sc (d + 1) 7 (iO (k : Nat)) (iO (a : Nat)) (iO (b : Nat)) (hp XI XA XP XC MI MA ML D) = some (some (.int (iO 1)), hp (va_up (va_up XI 5 (iO (a : Nat))) 6 (iO (b' : Nat))) XA XP XC MI MA ML D)
    | none => b_X8_findClashPlaces_2 sc (d + 1) 7 (iO (k : Nat)) (iO (a : Nat)) (iO (b : Nat)) (hp XI XA XP XC MI MA ML D) = b_X8_findClashPlaces_1 sc (d + 1) 7 (iO (k : Nat)) (iO ((a + 1 : Nat) : Int)) (hp XI XA XP XC MI MA ML D)) := by
  intro j
  induction j with
  | zero =>
    intro b h1 h2
    show b_X8_findClashPlaces_2 sc (d + 1) 7 (iO (k : Nat)) (iO (a : Nat)) (iO (b : Nat)) (hp XI XA XP XC MI MA ML D) = _
    rw [eb_X8_findClashPlaces_2]
    clear hs hb
    simp (disch := (first | assumption | (unfold i32; omega) | (unfold i64; omega) | omega)) only [↓reduceIte, ki_0, ki_1, ki_2, ki_3, ki_4, ki_5, ki_6, ki_7, ki_8, ki_9, ki_10, ki_11, ki_12, ki_13, ki_14, ki_15, ki_20, ki_21, ki_30, ki_31, ki_40, ki_41, ki_50, ki_51, ki_60, ki_63, ki_64, ki_65, ki_100, ki_158, ki_160, ki_200, ki_212, ki_1000, ki_2000, ki_2001, ki_5000, ki_10000, ki_10001, ki_100000, ki_200000, ki_1000000, ki_2000000, ki_3000000, iO_neg, iO_add, iO_sub, iO_mul, kn_4, kn_8, kn_10, kn_20, kn_24, kn_40, kn_41, kn_50, kn_60, kn_158, kn_160, kn_200, kn_212, kn_2001, tn_lt, fn_lt, tn_le, fn_le, tn_eq, fn_eq, x_lt, x_le, x_eq, x_ix, x_nat, t_lt, f_lt, t_le, f_le, t_eq, f_eq, eq_self, and_self, true_and, and_true, false_and, and_false, if_true, if_false, Int.toNat_natCast, bI_s, bL_s, bA_s, bA_n, bV_s, mq_s, mq_n, en_le, bl_0, bl_1, u_eq, u_ne, w_eq, w_ne, v_eq, v_ne, hp_cc_7, hp_g_7_0, hp_p_7_0, hp_g_7_1, hp_p_7_1, hp_g_7_2, hp_p_7_2, hp_g_7_3, hp_p_7_3, hp_g_7_4, hp_p_7_4, hp_g_7_5, hp_p_7_5, hp_g_7_6, hp_p_7_6, hp_g_7_7, hp_g_7_8, hp_p_7_8, hp_g_7_9, hp_p_7_9, hp_g_7_10, hp_p_7_10, hp_a_8, hp_s_8, hp_l_8, h11]
    rfl
  | succ j ih =>
    intro b h1 h2
    have ih' := ih (b + 1) (by omega) (by omega)
    have s1 := x_sumFrom (sc := sc) (d := d) (XI := XI) (XP := XP) (XC := XC) (MI := MI) (MA := MA) (ML := ML) (D := D) hn hs (a := a) (k := k) hak
    have s2 := x_sumFrom (sc := sc) (d := d) (XI := XI) (XP := XP) (XC := XC) (MI := MI) (MA := MA) (ML := ML) (D := D) hn hs (a := b) (k := k) (by omega)
    obtain ⟨u1, u2⟩ := hb a k (by omega)
    obtain ⟨u3, u4⟩ := hb b k (by omega)
    rw [cl3]
    have hdef : (1 < (fun a k => ssum f (fr + a) k) a k - (fun a k => ssum f (fr + a) k) b k ∨ (fun a k => ssum f (fr + a) k) a k - (fun a k => ssum f (fr + a) k) b k < -1) = (1 < ssum f (fr + a) k - ssum f (fr + b) k ∨ ssum f (fr + a) k - ssum f (fr + b) k < -1) := rfl
    by_cases g : 1 < ssum f (fr + a) k - ssum f (fr + b) k ∨ ssum f (fr + a) k - ssum f (fr + b) k < -1
    · rw [if_pos (hdef ▸ g)]
      refine ⟨b, rfl, by omega, ?_⟩
      rw [eb_X8_findClashPlaces_2]
      clear ih ih' hs hb hdef
      generalize ssum f (fr + a) k = x at *
      generalize ssum f (fr + b) k = y at *
      have g2 : 1 < (if 0 ≤ x - y then x - y else -(x - y)) := by split <;> omega
      have g3 : (if 0 ≤ x - y then x - y else -(x - y)) ≤ 10000 := by split <;> omega
      generalize hw : (if 0 ≤ x - y then x - y else -(x - y)) = w at *
      have habs := fun z => e_absI (sc := sc) (n := d) (a := x - y) (z := z) (by unfold i32; omega)
      rw [hw] at habs
      clear g hw
      simp (disch := (first | assumption | (unfold i32; omega) | (unfold i64; omega) | omega)) only [↓reduceIte, ki_0, ki_1, ki_2, ki_3, ki_4, ki_5, ki_6, ki_7, ki_8, ki_9, ki_10, ki_11, ki_12, ki_13, ki_14, ki_15, ki_20, ki_21, ki_30, ki_31, ki_40, ki_41, ki_50, ki_51, ki_60, ki_63, ki_64, ki_65, ki_100, ki_158, ki_160, ki_200, ki_212, ki_1000, ki_2000, ki_2001, ki_5000, ki_10000, ki_10001, ki_100000, ki_200000, ki_1000000, ki_2000000, ki_3000000, iO_neg, iO_add, iO_sub, iO_mul, kn_4, kn_8, kn_10, kn_20, kn_24, kn_40, kn_41, kn_50, kn_60, kn_158, kn_160, kn_200, kn_212, kn_2001, tn_lt, fn_lt, tn_le, fn_le, tn_eq, fn_eq, x_lt, x_le, x_eq, x_ix, x_nat, t_lt, f_lt, t_le, f_le, t_eq, f_eq, eq_self, and_self, true_and, and_true, false_and, and_false, if_true, if_false, Int.toNat_natCast, bI_s, bL_s, bA_s, bA_n, bV_s, mq_s, mq_n, en_le, bl_0, bl_1, u_eq, u_ne, w_eq, w_ne, v_eq, v_ne, hp_cc_7, hp_g_7_0, hp_p_7_0, hp_g_7_1, hp_p_7_1, hp_g_7_2, hp_p_7_2, hp_g_7_3, hp_p_7_3, hp_g_7_4, hp_p_7_4, hp_g_7_5, hp_p_7_5, hp_g_7_6, hp_p_7_6, hp_g_7_7, hp_g_7_8, hp_p_7_8, hp_g_7_9, hp_p_7_9, hp_g_7_10, hp_p_7_10, hp_a_8, hp_s_8, hp_l_8, h11, s1, s2, habs]
    · rw [if_neg (hdef ▸ g)]
      have e : b_X8_findClashPlaces_2 sc (d + 1) 7 (iO (k : Nat)) (iO (a : Nat)) (iO (b : Nat)) (hp XI XA XP XC MI MA ML D) = b_X8_findClashPlaces_2 sc (d + 1) 7 (iO (k : Nat)) (iO (a : Nat)) (iO ((b + 1 : Nat) : Int)) (hp XI XA XP XC MI MA ML D) := by
        rw [eb_X8_findClashPlaces_2]
        clear ih ih' hs hb hdef
        generalize ssum f (fr + a) k = x at *
        generalize ssum f (fr + b) k = y at *
        have g2 : (if 0 ≤ x - y then x - y else -(x - y)) ≤ 1 := by split <;> omega
        have g3 : 0 ≤ (if 0 ≤ x - y then x - y else -(x - y)) := by split <;> omega
        generalize hw : (if 0 ≤ x - y then x - y else -(x - y)) = w at *
        have habs := fun z => e_absI (sc := sc) (n := d) (a := x - y) (z := z) (by unfold i32; omega)
        rw [hw] at habs
        clear g hw
        simp (disch := (first | assumption | (unfold i32; omega) | (unfold i64; omega) | omega)) only [↓reduceIte, ki_0, ki_1, ki_2, ki_3, ki_4, ki_5, ki_6, ki_7, ki_8, ki_9, ki_10, ki_11, ki_12, ki_13, ki_14, ki_15, ki_20, ki_21, ki_30, ki_31, ki_40, ki_41, ki_50, ki_51, ki_60, ki_63, ki_64, ki_65, ki_100, ki_158, ki_160, ki_200, ki_212, ki_1000, ki_2000, ki_2001, ki_5000, ki_10000, ki_10001, ki_100000, ki_200000, ki_1000000, ki_2000000, ki_3000000, iO_neg, iO_add, iO_sub, iO_mul, kn_4, kn_8, kn_10, kn_20, kn_24, kn_40, kn_41, kn_50, kn_60, kn_158, kn_160, kn_200, kn_212, kn_2001, tn_lt, fn_lt, tn_le, fn_le, tn_eq, fn_eq, x_lt, x_le, x_eq, x_ix, x_nat, t_lt, f_lt, t_le, f_le, t_eq, f_eq, eq_self, and_self, true_and, and_true, false_and, and_false, if_true, if_false, Int.toNat_natCast, bI_s, bL_s, bA_s, bA_n, bV_s, mq_s, mq_n, en_le, bl_0, bl_1, u_eq, u_ne, w_eq, w_ne, v_eq, v_ne, hp_cc_7, hp_g_7_0, hp_p_7_0, hp_g_7_1, hp_p_7_1, hp_g_7_2, hp_p_7_2, hp_g_7_3, hp_p_7_3, hp_g_7_4, hp_p_7_4, hp_g_7_5, hp_p_7_5, hp_g_7_6, hp_p_7_6, hp_g_7_7, hp_g_7_8, hp_p_7_8, hp_g_7_9, hp_p_7_9, hp_g_7_10, hp_p_7_10, hp_a_8, hp_s_8, hp_l_8, h11, s1, s2, habs]
        rfl
      rw [e]
      exact ih'
theorem x_places1 (hn : n ≤ 40) (hs : ∀ t, t ≤ n → XA 1 t = XA 1 0 + iO (ssum f fr t)) (hb : ∀ a k, a + k ≤ n → 0 ≤ ssum f (fr + a) k ∧ ssum f (fr + a) k ≤ 10000) {k : Nat} (hk : 1 ≤ k) (XI : Nat → Int32) (h11 : XI 11 = iO (n : Nat)) : ∀ (j a : Nat), a + k + j = n + 1 →
    (match cl2 (fun a k => ssum f (fr + a) k) n k j a with
    | some c => ∃ a' b' : Nat, c = 10000 * (k : Int) + 100 * (a' : Int) + (b' : Int) ∧ a' ≤ 40 ∧ b' ≤ 40 ∧ b_X8_findClashPlaces_1 sc (d + 1) 7 (iO (k : Nat)) (iO (a : Nat)) (hp XI XA XP XC MI MA ML D) = some (some (.int (iO 1)), hp (va_up (va_up XI 5 (iO (a' : Nat))) 6 (iO (b' : Nat))) XA XP XC MI MA ML D)
    | none => b_X8_findClashPlaces_1 sc (d + 1) 7 (iO (k : Nat)) (iO (a : Nat)) (hp XI XA XP XC MI MA ML D) = some (some (.int (iO 0)), hp XI XA XP XC MI MA ML D)) := by
  intro j
  induction j with
  | zero =>
    intro a ha
    show b_X8_findClashPlaces_1 sc (d + 1) 7 (iO (k : Nat)) (iO (a : Nat)) (hp XI XA XP XC MI MA ML D) = _
    rw [eb_X8_findClashPlaces_1]
    clear hs hb
    simp (disch := (first | assumption | (unfold i32; omega) | (unfold i64; omega) | omega)) only [↓reduceIte, ki_0, ki_1, ki_2, ki_3, ki_4, ki_5, ki_6, ki_7, ki_8, ki_9, ki_10, ki_11, ki_12, ki_13, ki_14, ki_15, ki_20, ki_21, ki_30, ki_31, ki_40, ki_41, ki_50, ki_51, ki_60, ki_63, ki_64, ki_65, ki_100, ki_158, ki_160, ki_200, ki_212, ki_1000, ki_2000, ki_2001, ki_5000, ki_10000, ki_10001, ki_100000, ki_200000, ki_1000000, ki_2000000, ki_3000000, iO_neg, iO_add, iO_sub, iO_mul, kn_4, kn_8, kn_10, kn_20, kn_24, kn_40, kn_41, kn_50, kn_60, kn_158, kn_160, kn_200, kn_212, kn_2001, tn_lt, fn_lt, tn_le, fn_le, tn_eq, fn_eq, x_lt, x_le, x_eq, x_ix, x_nat, t_lt, f_lt, t_le, f_le, t_eq, f_eq, eq_self, and_self, true_and, and_true, false_and, and_false, if_true, if_false, Int.toNat_natCast, bI_s, bL_s, bA_s, bA_n, bV_s, mq_s, mq_n, en_le, bl_0, bl_1, u_eq, u_ne, w_eq, w_ne, v_eq, v_ne, hp_cc_7, hp_g_7_0, hp_p_7_0, hp_g_7_1, hp_p_7_1, hp_g_7_2, hp_p_7_2, hp_g_7_3, hp_p_7_3, hp_g_7_4, hp_p_7_4, hp_g_7_5, hp_p_7_5, hp_g_7_6, hp_p_7_6, hp_g_7_7, hp_g_7_8, hp_p_7_8, hp_g_7_9, hp_p_7_9, hp_g_7_10, hp_p_7_10, hp_a_8, hp_s_8, hp_l_8, h11]
  | succ j ih =>
    intro a ha
    have ih' := ih (a + 1) (by omega)
    have h2 := x_places2 (sc := sc) (d := d) (XP := XP) (XC := XC) (MI := MI) (MA := MA) (ML := ML) (D := D) hn hs hb hk (a := a) (by omega) XI h11 (n - k - a) (a + 1) (by omega) (by omega)
    have e : b_X8_findClashPlaces_1 sc (d + 1) 7 (iO (k : Nat)) (iO (a : Nat)) (hp XI XA XP XC MI MA ML D) = b_X8_findClashPlaces_2 sc (d + 1) 7 (iO (k : Nat)) (iO (a : Nat)) (iO ((a + 1 : Nat) : Int)) (hp XI XA XP XC MI MA ML D) := by
      rw [eb_X8_findClashPlaces_1]
      clear hs hb ih ih' h2
      simp (disch := (first | assumption | (unfold i32; omega) | (unfold i64; omega) | omega)) only [↓reduceIte, ki_0, ki_1, ki_2, ki_3, ki_4, ki_5, ki_6, ki_7, ki_8, ki_9, ki_10, ki_11, ki_12, ki_13, ki_14, ki_15, ki_20, ki_21, ki_30, ki_31, ki_40, ki_41, ki_50, ki_51, ki_60, ki_63, ki_64, ki_65, ki_100, ki_158, ki_160, ki_200, ki_212, ki_1000, ki_2000, ki_2001, ki_5000, ki_10000, ki_10001, ki_100000, ki_200000, ki_1000000, ki_2000000, ki_3000000, iO_neg, iO_add, iO_sub, iO_mul, kn_4, kn_8, kn_10, kn_20, kn_24, kn_40, kn_41, kn_50, kn_60, kn_158, kn_160, kn_200, kn_212, kn_2001, tn_lt, fn_lt, tn_le, fn_le, tn_eq, fn_eq, x_lt, x_le, x_eq, x_ix, x_nat, t_lt, f_lt, t_le, f_le, t_eq, f_eq, eq_self, and_self, true_and, and_true, false_and, and_false, if_true, if_false, Int.toNat_natCast, bI_s, bL_s, bA_s, bA_n, bV_s, mq_s, mq_n, en_le, bl_0, bl_1, u_eq, u_ne, w_eq, w_ne, v_eq, v_ne, hp_cc_7, hp_g_7_0, hp_p_7_0, hp_g_7_1, hp_p_7_1, hp_g_7_2, hp_p_7_2, hp_g_7_3, hp_p_7_3, hp_g_7_4, hp_p_7_4, hp_g_7_5, hp_p_7_5, hp_g_7_6, hp_p_7_6, hp_g_7_7, hp_g_7_8, hp_p_7_8, hp_g_7_9, hp_p_7_9, hp_g_7_10, hp_p_7_10, hp_a_8, hp_s_8, hp_l_8, h11]
      rfl
    rw [e, cl2]
    cases hc : cl3 (fun a k => ssum f (fr + a) k) k a (n - k - a) (a + 1) with
    | some c =>
      rw [hc] at h2
      obtain ⟨b', q1, q2, q3⟩ := h2
      exact ⟨a, b', q1, by omega, q2, q3⟩
    | none =>
      rw [hc] at h2
      have h2 : b_X8_findClashPlaces_2 sc (d + 1) 7 (iO (k : Nat)) (iO (a : Nat)) (iO ((a + 1 : Nat) : Int)) (hp XI XA XP XC MI MA ML D) = _ := h2
      rw [h2]
      exact ih'
theorem x_findClash (hn : n ≤ 40) (hs : ∀ t, t ≤ n → XA 1 t = XA 1 0 + iO (ssum f fr t)) (hb : ∀ a k, a + k ≤ n → 0 ≤ ssum f (fr + a) k ∧ ssum f (fr + a) k ≤ 10000) : ∀ (j k : Nat) (XI : Nat → Int32), XI 11 = iO (n : Nat) → k + j = n + 1 → 1 ≤ k →
    (match cl1 (fun a k => ssum f (fr + a) k) n j k with
    | some c => ∃ (k' a' b' : Nat) (XI' : Nat → Int32), c = 10000 * (k' : Int) + 100 * (a' : Int) + (b' : Int) ∧ k' ≤ 40 ∧ a' ≤ 40 ∧ b' ≤ 40 ∧ b_X8_findClash_1 sc (d + 2) 7 (iO (k : Nat)) (hp XI XA XP XC MI MA ML D) = some (some (.int (iO 1)), hp XI' XA XP XC MI MA ML D) ∧ XI' 4 = iO (k' : Nat) ∧ XI' 5 = iO (a' : Nat) ∧ XI' 6 = iO (b' : Nat) ∧ (∀ s, s < 4 ∨ 15 ≤ s → XI' s = XI s)
    | none => ∃ (XI' : Nat → Int32), b_X8_findClash_1 sc (d + 2) 7 (iO (k : Nat)) (hp XI XA XP XC MI MA ML D) = some (some (.int (iO 0)), hp XI' XA XP XC MI MA ML D) ∧ (∀ s, s < 4 ∨ 15 ≤ s → XI' s = XI s)) := by
  intro j
  induction j with
  | zero =>
    intro k XI h11 h1 h2
    show ∃ (XI' : Nat → Int32), b_X8_findClash_1 sc (d + 2) 7 (iO (k : Nat)) (hp XI XA XP XC MI MA ML D) = _ ∧ _
    refine ⟨XI, ?_, fun _ _ => rfl⟩
    rw [eb_X8_findClash_1]
    clear hs hb
    simp (disch := (first | assumption | (unfold i32; omega) | (unfold i64; omega) | omega)) only [↓reduceIte, ki_0, ki_1, ki_2, ki_3, ki_4, ki_5, ki_6, ki_7, ki_8, ki_9, ki_10, ki_11, ki_12, ki_13, ki_14, ki_15, ki_20, ki_21, ki_30, ki_31, ki_40, ki_41, ki_50, ki_51, ki_60, ki_63, ki_64, ki_65, ki_100, ki_158, ki_160, ki_200, ki_212, ki_1000, ki_2000, ki_2001, ki_5000, ki_10000, ki_10001, ki_100000, ki_200000, ki_1000000, ki_2000000, ki_3000000, iO_neg, iO_add, iO_sub, iO_mul, kn_4, kn_8, kn_10, kn_20, kn_24, kn_40, kn_41, kn_50, kn_60, kn_158, kn_160, kn_200, kn_212, kn_2001, tn_lt, fn_lt, tn_le, fn_le, tn_eq, fn_eq, x_lt, x_le, x_eq, x_ix, x_nat, t_lt, f_lt, t_le, f_le, t_eq, f_eq, eq_self, and_self, true_and, and_true, false_and, and_false, if_true, if_false, Int.toNat_natCast, bI_s, bL_s, bA_s, bA_n, bV_s, mq_s, mq_n, en_le, bl_0, bl_1, u_eq, u_ne, w_eq, w_ne, v_eq, v_ne, hp_cc_7, hp_g_7_0, hp_p_7_0, hp_g_7_1, hp_p_7_1, hp_g_7_2, hp_p_7_2, hp_g_7_3, hp_p_7_3, hp_g_7_4, hp_p_7_4, hp_g_7_5, hp_p_7_5, hp_g_7_6, hp_p_7_6, hp_g_7_7, hp_g_7_8, hp_p_7_8, hp_g_7_9, hp_p_7_9, hp_g_7_10, hp_p_7_10, hp_a_8, hp_s_8, hp_l_8, h11]
  | succ j ih =>
    intro k XI h11 h1 h2
    obtain ⟨XI1, e1, e2, e3, e4⟩ := x_cmp (sc := sc) (d := d) (XP := XP) (XC := XC) (MI := MI) (MA := MA) (ML := ML) (D := D) hn hs hb h2 (by omega) XI h11
    have h11' : XI1 11 = iO (n : Nat) := by rw [e4 11 (by omega) (by omega)]; exact h11
    have hiff := cl2_iff (t := fun a k => ssum f (fr + a) k) (n := n) (k := k) (by omega)
    obtain ⟨x, x1, x2⟩ := mns_at (t := fun a k => ssum f (fr + a) k) (k := k) (n - k)
    obtain ⟨y, y1, y2⟩ := mxs_at (t := fun a k => ssum f (fr + a) k) (k := k) (n - k)
    have v1 := hb x k (by omega)
    have v2 := hb y k (by omega)
    have x2 : mns (fun a k => ssum f (fr + a) k) k (n - k) = ssum f (fr + x) k := x2
    have y2 : mxs (fun a k => ssum f (fr + a) k) k (n - k) = ssum f (fr + y) k := y2
    rw [← x2] at v1
    rw [← y2] at v2
    generalize mns (fun a k => ssum f (fr + a) k) k (n - k) = P at *
    generalize mxs (fun a k => ssum f (fr + a) k) k (n - k) = Q at *
    rw [cl1]
    cases hc : cl2 (fun a k => ssum f (fr + a) k) n k (n + 1 - k) 0 with
    | none =>
      have hle : Q - P ≤ 1 := hiff.mp hc
      have ih' := ih (k + 1) XI1 h11' (by omega) (by omega)
      have e : b_X8_findClash_1 sc (d + 2) 7 (iO (k : Nat)) (hp XI XA XP XC MI MA ML D) = b_X8_findClash_1 sc (d + 2) 7 (iO ((k + 1 : Nat) : Int)) (hp XI1 XA XP XC MI MA ML D) := by
        rw [eb_X8_findClash_1]
        clear hs hb ih ih' hiff hc x2 y2 e4
        simp (disch := (first | assumption | (unfold i32; omega) | (unfold i64; omega) | omega)) only [↓reduceIte, ki_0, ki_1, ki_2, ki_3, ki_4, ki_5, ki_6, ki_7, ki_8, ki_9, ki_10, ki_11, ki_12, ki_13, ki_14, ki_15, ki_20, ki_21, ki_30, ki_31, ki_40, ki_41, ki_50, ki_51, ki_60, ki_63, ki_64, ki_65, ki_100, ki_158, ki_160, ki_200, ki_212, ki_1000, ki_2000, ki_2001, ki_5000, ki_10000, ki_10001, ki_100000, ki_200000, ki_1000000, ki_2000000, ki_3000000, iO_neg, iO_add, iO_sub, iO_mul, kn_4, kn_8, kn_10, kn_20, kn_24, kn_40, kn_41, kn_50, kn_60, kn_158, kn_160, kn_200, kn_212, kn_2001, tn_lt, fn_lt, tn_le, fn_le, tn_eq, fn_eq, x_lt, x_le, x_eq, x_ix, x_nat, t_lt, f_lt, t_le, f_le, t_eq, f_eq, eq_self, and_self, true_and, and_true, false_and, and_false, if_true, if_false, Int.toNat_natCast, bI_s, bL_s, bA_s, bA_n, bV_s, mq_s, mq_n, en_le, bl_0, bl_1, u_eq, u_ne, w_eq, w_ne, v_eq, v_ne, hp_cc_7, hp_g_7_0, hp_p_7_0, hp_g_7_1, hp_p_7_1, hp_g_7_2, hp_p_7_2, hp_g_7_3, hp_p_7_3, hp_g_7_4, hp_p_7_4, hp_g_7_5, hp_p_7_5, hp_g_7_6, hp_p_7_6, hp_g_7_7, hp_g_7_8, hp_p_7_8, hp_g_7_9, hp_p_7_9, hp_g_7_10, hp_p_7_10, hp_a_8, hp_s_8, hp_l_8, h11, e1, e2, e3]
        rfl
      rw [e]
      show (match cl1 (fun a k => ssum f (fr + a) k) n j (k + 1) with
        | some c => _
        | none => _)
      cases hd : cl1 (fun a k => ssum f (fr + a) k) n j (k + 1) with
      | none =>
        rw [hd] at ih'
        obtain ⟨XI', q1, q2⟩ := ih'
        exact ⟨XI', q1, fun s hs => by rw [q2 s hs, e4 s (by omega) (by omega)]⟩
      | some c =>
        rw [hd] at ih'
        obtain ⟨k', a', b', XI', q1, q2, q3, q4, q5, q6, q7, q8, q9⟩ := ih'
        exact ⟨k', a', b', XI', q1, q2, q3, q4, q5, q6, q7, q8, fun s hs => by rw [q9 s hs, e4 s (by omega) (by omega)]⟩
    | some c =>
      have hgt : 1 < Q - P := by
        rcases Int.lt_or_le 1 (Q - P) with g | g
        · exact g
        · rw [hiff.mpr g] at hc; cases hc
      have hp1 := x_places1 (sc := sc) (d := d) (XP := XP) (XC := XC) (MI := MI) (MA := MA) (ML := ML) (D := D) hn hs hb h2 (va_up XI1 4 (iO (k : Nat))) h11' (n + 1 - k) 0 (by omega)
      rw [hc] at hp1
      obtain ⟨a', b', q1, q2, q3, q4⟩ := hp1
      refine ⟨k, a', b', va_up (va_up (va_up XI1 4 (iO (k : Nat))) 5 (iO (a' : Nat))) 6 (iO (b' : Nat)), q1, by omega, q2, q3, ?_, rfl, rfl, rfl, fun s hs => by rw [w_ne (by omega), w_ne (by omega), w_ne (by omega), e4 s (by omega) (by omega)]⟩
      have q5 : f_X8_findClashPlaces sc (d + 2) 7 (iO (k : Nat)) (hp (va_up XI1 4 (iO (k : Nat))) XA XP XC MI MA ML D) = some (some (.int (iO 1)), hp (va_up (va_up (va_up XI1 4 (iO (k : Nat))) 5 (iO (a' : Nat))) 6 (iO (b' : Nat))) XA XP XC MI MA ML D) := by
        rw [e_X8_findClashPlaces]
        exact q4
      rw [eb_X8_findClash_1]
      clear hs hb ih hiff hc x2 y2 e4 q4 q1
      simp (disch := (first | assumption | (unfold i32; omega) | (unfold i64; omega) | omega)) only [↓reduceIte, ki_0, ki_1, ki_2, ki_3, ki_4, ki_5, ki_6, ki_7, ki_8, ki_9, ki_10, ki_11, ki_12, ki_13, ki_14, ki_15, ki_20, ki_21, ki_30, ki_31, ki_40, ki_41, ki_50, ki_51, ki_60, ki_63, ki_64, ki_65, ki_100, ki_158, ki_160, ki_200, ki_212, ki_1000, ki_2000, ki_2001, ki_5000, ki_10000, ki_10001, ki_100000, ki_200000, ki_1000000, ki_2000000, ki_3000000, iO_neg, iO_add, iO_sub, iO_mul, kn_4, kn_8, kn_10, kn_20, kn_24, kn_40, kn_41, kn_50, kn_60, kn_158, kn_160, kn_200, kn_212, kn_2001, tn_lt, fn_lt, tn_le, fn_le, tn_eq, fn_eq, x_lt, x_le, x_eq, x_ix, x_nat, t_lt, f_lt, t_le, f_le, t_eq, f_eq, eq_self, and_self, true_and, and_true, false_and, and_false, if_true, if_false, Int.toNat_natCast, bI_s, bL_s, bA_s, bA_n, bV_s, mq_s, mq_n, en_le, bl_0, bl_1, u_eq, u_ne, w_eq, w_ne, v_eq, v_ne, hp_cc_7, hp_g_7_0, hp_p_7_0, hp_g_7_1, hp_p_7_1, hp_g_7_2, hp_p_7_2, hp_g_7_3, hp_p_7_3, hp_g_7_4, hp_p_7_4, hp_g_7_5, hp_p_7_5, hp_g_7_6, hp_p_7_6, hp_g_7_7, hp_g_7_8, hp_p_7_8, hp_g_7_9, hp_p_7_9, hp_g_7_10, hp_p_7_10, hp_a_8, hp_s_8, hp_l_8, h11, e1, e2, e3, q5]
end FCL
theorem cl3_dig {t : Nat → Nat → Int} {k a : Nat} {c : Int} : ∀ (j b : Nat), cl3 t k a j b = some c → ∃ b' : Nat, b ≤ b' ∧ b' < b + j ∧ c = 10000 * (k : Int) + 100 * (a : Int) + (b' : Int)
  | 0, b, h => nomatch h
  | j + 1, b, h => by
    rw [cl3] at h
    split at h
    · exact ⟨b, by omega, by omega, (Option.some.inj h).symm⟩
    · obtain ⟨b', h1, h2, h3⟩ := cl3_dig j (b + 1) h
      exact ⟨b', by omega, by omega, h3⟩
theorem cl2_dig {t : Nat → Nat → Int} {n k : Nat} {c : Int} : ∀ (j a : Nat), cl2 t n k j a = some c → ∃ a' b' : Nat, a ≤ a' ∧ a' < a + j ∧ b' ≤ n + a' ∧ (a' < n → b' ≤ n) ∧ c = 10000 * (k : Int) + 100 * (a' : Int) + (b' : Int)
  | 0, a, h => nomatch h
  | j + 1, a, h => by
    rw [cl2] at h
    cases hc : cl3 t k a (n - k - a) (a + 1) with
    | some c' =>
      rw [hc] at h
      obtain rfl : c' = c := Option.some.inj h
      obtain ⟨b', h1, h2, h3⟩ := cl3_dig _ _ hc
      exact ⟨a, b', by omega, by omega, by omega, by omega, h3⟩
    | none =>
      rw [hc] at h
      obtain ⟨a', b', h1, h2, h3⟩ := cl2_dig j (a + 1) h
      exact ⟨a', b', by omega, by omega, h3⟩
theorem cl1_dig {t : Nat → Nat → Int} {n : Nat} {c : Int} (hn : n ≤ 40) : ∀ (j k : Nat), k + j = n + 1 → 1 ≤ k → cl1 t n j k = some c → ∃ k' a' b' : Nat, k' ≤ 40 ∧ a' ≤ 40 ∧ b' ≤ 80 ∧ c = 10000 * (k' : Int) + 100 * (a' : Int) + (b' : Int)
  | 0, k, _, _, h => nomatch h
  | j + 1, k, e1, e2, h => by
    rw [cl1] at h
    cases hc : cl2 t n k (n + 1 - k) 0 with
    | some c' =>
      rw [hc] at h
      obtain rfl : c' = c := Option.some.inj h
      obtain ⟨a', b', h1, h2, h3, h4, h5⟩ := cl2_dig _ _ hc
      exact ⟨k, a', b', by omega, by omega, by omega, h5⟩
    | none =>
      rw [hc] at h
      exact cl1_dig hn j (k + 1) (by omega) (by omega) h
def p_clash (S : ST5) (r a m w : Int) : Int := match rowq S r with
  | none => -1
  | some q => if 0 ≤ w ∧ w ≤ 2 ∧ 1 ≤ m ∧ m ≤ 40 ∧ 0 ≤ a ∧ a + m ≤ (q.2.2.1 : Nat) then (match cl1 (fun x k => ssum q.2.2.2 (a.toNat + x) k) m.toNat m.toNat 1 with
    | none => -1
    | some c => if w = 0 then c / 10000 else if w = 1 then a + (c / 100 - c / 100 / 100 * 100) else a + (c - c / 100 * 100)) else -1
theorem iO_divp {a b : Int} (ha : 0 ≤ a) (ha2 : i32 a) (hb : 0 < b) (hb2 : i32 b) : iO a / iO b = iO (a / b) := by
  have e : a.tdiv b = a / b := Int.tdiv_eq_ediv_of_nonneg ha
  have h1 := Int.ediv_nonneg ha (Int.le_of_lt hb)
  have h2 := Int.ediv_le_self b ha
  obtain ⟨a1, a2⟩ := ha2
  rw [iO_div ⟨a1, a2⟩ hb2 (by rw [e]; unfold i32; omega), e]
section CLA
variable {sc : en_S} {n : Nat} {S : ST5}
theorem mc_clash (hS : OK5 S) {r a m w : Int} (hr : i32 r) (ha : i32 a) (hm : i32 m) (hw : i32 w) : MC S S (p_clash S r a m w) (fun z => f_X12_clash sc (n + 40) 26 (iO r) (iO a) (iO m) (iO w) z) := by
  apply mc_ask
  intro XI XA XP XC MI MA ML D hV
  have h10 := hS.2.1
  obtain ⟨w1, w2⟩ := id hw
  show f_X12_clash sc (n + 40) 26 (iO r) (iO a) (iO m) (iO w) _ = _
  rw [e_X12_clash]
  unfold p_clash
  cases hq : rowq S r with
  | none =>
    have := rowq_none hq
    rw [hp_cc_26, if_pos rfl, e_X12_isStretch, hp_cc_26, if_pos rfl, e_misRow hV hS hr, if_neg (by omega)]
    rfl
  | some q =>
    obtain ⟨k, rfl, hk, hq2⟩ := rowq_some hq
    obtain ⟨c1, c2, c3, c4⟩ := hV.2.2.2.2.2.1 k q hq2
    have hR := hS.2.2.2.1 q (List.mem_of_getElem? hq2)
    have hsz : q.2.2.1 ≤ 10001 := hR.2.2.2.2.1
    have hva := hR.2.2.2.2.2.1
    rw [hp_cc_26, if_pos rfl, m_isStretch (n := n + 36) hV hS hq2 ha hm]
    dsimp only
    by_cases g : 1 ≤ m ∧ m ≤ 40 ∧ 0 ≤ a ∧ a + m ≤ (q.2.2.1 : Nat)
    · rw [if_pos g]
      by_cases gw : 0 ≤ w ∧ w ≤ 2
      · rw [if_pos (show 0 ≤ w ∧ w ≤ 2 ∧ 1 ≤ m ∧ m ≤ 40 ∧ 0 ≤ a ∧ a + m ≤ (q.2.2.1 : Nat) from ⟨gw.1, gw.2, g⟩)]
        obtain ⟨g1, g2, g3, g4⟩ := g
        obtain ⟨gw1, gw2⟩ := gw
        obtain ⟨y, rfl⟩ : ∃ y : Nat, m = y := ⟨m.toNat, by omega⟩
        obtain ⟨x, rfl⟩ : ∃ x : Nat, a = x := ⟨a.toNat, by omega⟩
        have hc := m_clashOf (sc := sc) (d := n + 37) (XI := XI) (XA := XA) (XP := XP) (XC := XC) (MI := MI) (MA := MA) (ML := ML) (D := D) (r := k) (fr := x) (n := y) (f := q.2.2.2) (by omega) (by omega) (by omega) (fun i hi => c4 i (by omega)) (by
          intro a' k' h'
          obtain ⟨b1, b2⟩ := ssum_b (f := q.2.2.2) (a := x + a') k' (fun i hi => hva i (by omega))
          omega)
        rw [Int.toNat_natCast, Int.toNat_natCast]
        cases hcl : cl1 (fun a k => ssum q.2.2.2 (x + a) k) y y 1 with
        | none =>
          rw [hcl] at hc
          have hc : _ = some (some (Value.int (iO (-1))), hp XI XA XP XC MI MA ML D) := hc
          clear hV c4 hva
          simp (disch := (first | assumption | (unfold i32; omega) | (unfold i64; omega) | omega)) only [↓reduceIte, ki_0, ki_1, ki_2, ki_3, ki_4, ki_5, ki_6, ki_7, ki_8, ki_9, ki_10, ki_11, ki_12, ki_13, ki_14, ki_15, ki_20, ki_21, ki_30, ki_31, ki_40, ki_41, ki_50, ki_51, ki_60, ki_63, ki_64, ki_65, ki_100, ki_158, ki_160, ki_200, ki_212, ki_1000, ki_2000, ki_2001, ki_5000, ki_10000, ki_10001, ki_100000, ki_200000, ki_1000000, ki_2000000, ki_3000000, iO_neg, iO_add, iO_sub, iO_mul, kn_4, kn_8, kn_10, kn_20, kn_24, kn_40, kn_41, kn_50, kn_60, kn_158, kn_160, kn_200, kn_212, kn_2001, tn_lt, fn_lt, tn_le, fn_le, tn_eq, fn_eq, x_lt, x_le, x_eq, x_ix, x_nat, t_lt, f_lt, t_le, f_le, t_eq, f_eq, eq_self, and_self, true_and, and_true, false_and, and_false, if_true, if_false, Int.toNat_natCast, bI_s, bL_s, bA_s, bA_n, bV_s, mq_s, mq_n, en_le, bl_0, bl_1, u_eq, u_ne, w_eq, w_ne, v_eq, v_ne, hp_cc_26, hp_g_26_0, hp_p_26_0, hp_g_26_1, hp_p_26_1, hp_g_26_2, hp_p_26_2, hp_g_26_3, hp_g_26_4, hp_g_26_5, hp_g_26_6, hp_g_26_7, hp_g_26_8, hp_g_26_9, hp_g_26_10, hp_g_26_11, hp_g_26_12, hp_g_26_13, hp_g_26_14, hp_g_26_15, hp_p_26_15, hp_g_26_16, hp_g_26_17, hp_g_26_18, hp_p_26_18, hp_g_26_19, hp_p_26_19, hp_g_26_20, hp_g_26_21, hp_p_26_21, hp_g_26_22, hp_g_26_23, hp_g_26_24, hp_g_26_25, hp_g_26_26, hp_g_26_27, hp_g_26_28, hp_g_26_29, hp_g_26_30, hp_p_26_30, hp_g_26_31, hp_g_26_32, hp_p_26_32, hp_a_27, hp_s_27, hp_l_27, hp_a_28, hp_s_28, hp_l_28, hp_a_29, hp_s_29, hp_l_29, hp_a_30, hp_s_30, hp_l_30, hp_a_31, hp_s_31, hp_l_31, hp_a_32, hp_s_32, hp_l_32, hp_a_33, hp_s_33, hp_l_33, hp_a_34, hp_s_34, hp_l_34, hp_a_35, hp_s_35, hp_l_35, hp_a_36, hp_s_36, hp_l_36, hp_a_37, hp_s_37, hp_l_37, hp_a_38, hp_s_38, hp_l_38, hp_a_39, hp_s_39, hp_a_40, hp_s_40, hp_a_41, hp_s_41, hp_l_41, hp_a_42, hp_s_42, hp_l_42, hp_a_43, hp_s_43, hp_l_43, hp_a_44, hp_s_44, hp_l_44, hp_a_45, hp_s_45, hp_l_45, hp_a_46, hp_s_46, hp_l_46, hp_a_47, hp_s_47, hp_l_47, hp_a_48, hp_s_48, hp_l_48, hp_a_49, hp_s_49, hp_l_49, hp_a_50, hp_s_50, hp_l_50, e_X12_in, hc]
        | some c =>
          have q1 := cl1_pos _ _ hcl
          have q2 := cl1_ub (by omega) _ _ (by omega) hcl
          rw [hcl] at hc
          have hc : _ = some (some (Value.int (iO c)), hp XI XA XP XC MI MA ML D) := hc
          have d1 : iO c / iO 10000 = iO (c / 10000) := iO_divp (by omega) (by unfold i32; omega) (by omega) (by unfold i32; omega)
          have d2 : iO c / iO 100 = iO (c / 100) := iO_divp (by omega) (by unfold i32; omega) (by omega) (by unfold i32; omega)
          have d3 : iO (c / 100) / iO 100 = iO (c / 100 / 100) := iO_divp (by omega) (by unfold i32; omega) (by omega) (by unfold i32; omega)
          clear hV c4 hva
          obtain rfl | rfl | rfl : w = 0 ∨ w = 1 ∨ w = 2 := by omega
          · simp (disch := (first | assumption | (unfold i32; omega) | (unfold i64; omega) | omega)) only [↓reduceIte, ki_0, ki_1, ki_2, ki_3, ki_4, ki_5, ki_6, ki_7, ki_8, ki_9, ki_10, ki_11, ki_12, ki_13, ki_14, ki_15, ki_20, ki_21, ki_30, ki_31, ki_40, ki_41, ki_50, ki_51, ki_60, ki_63, ki_64, ki_65, ki_100, ki_158, ki_160, ki_200, ki_212, ki_1000, ki_2000, ki_2001, ki_5000, ki_10000, ki_10001, ki_100000, ki_200000, ki_1000000, ki_2000000, ki_3000000, iO_neg, iO_add, iO_sub, iO_mul, kn_4, kn_8, kn_10, kn_20, kn_24, kn_40, kn_41, kn_50, kn_60, kn_158, kn_160, kn_200, kn_212, kn_2001, tn_lt, fn_lt, tn_le, fn_le, tn_eq, fn_eq, x_lt, x_le, x_eq, x_ix, x_nat, t_lt, f_lt, t_le, f_le, t_eq, f_eq, eq_self, and_self, true_and, and_true, false_and, and_false, if_true, if_false, Int.toNat_natCast, bI_s, bL_s, bA_s, bA_n, bV_s, mq_s, mq_n, en_le, bl_0, bl_1, u_eq, u_ne, w_eq, w_ne, v_eq, v_ne, hp_cc_26, hp_g_26_0, hp_p_26_0, hp_g_26_1, hp_p_26_1, hp_g_26_2, hp_p_26_2, hp_g_26_3, hp_g_26_4, hp_g_26_5, hp_g_26_6, hp_g_26_7, hp_g_26_8, hp_g_26_9, hp_g_26_10, hp_g_26_11, hp_g_26_12, hp_g_26_13, hp_g_26_14, hp_g_26_15, hp_p_26_15, hp_g_26_16, hp_g_26_17, hp_g_26_18, hp_p_26_18, hp_g_26_19, hp_p_26_19, hp_g_26_20, hp_g_26_21, hp_p_26_21, hp_g_26_22, hp_g_26_23, hp_g_26_24, hp_g_26_25, hp_g_26_26, hp_g_26_27, hp_g_26_28, hp_g_26_29, hp_g_26_30, hp_p_26_30, hp_g_26_31, hp_g_26_32, hp_p_26_32, hp_a_27, hp_s_27, hp_l_27, hp_a_28, hp_s_28, hp_l_28, hp_a_29, hp_s_29, hp_l_29, hp_a_30, hp_s_30, hp_l_30, hp_a_31, hp_s_31, hp_l_31, hp_a_32, hp_s_32, hp_l_32, hp_a_33, hp_s_33, hp_l_33, hp_a_34, hp_s_34, hp_l_34, hp_a_35, hp_s_35, hp_l_35, hp_a_36, hp_s_36, hp_l_36, hp_a_37, hp_s_37, hp_l_37, hp_a_38, hp_s_38, hp_l_38, hp_a_39, hp_s_39, hp_a_40, hp_s_40, hp_a_41, hp_s_41, hp_l_41, hp_a_42, hp_s_42, hp_l_42, hp_a_43, hp_s_43, hp_l_43, hp_a_44, hp_s_44, hp_l_44, hp_a_45, hp_s_45, hp_l_45, hp_a_46, hp_s_46, hp_l_46, hp_a_47, hp_s_47, hp_l_47, hp_a_48, hp_s_48, hp_l_48, hp_a_49, hp_s_49, hp_l_49, hp_a_50, hp_s_50, hp_l_50, e_X12_in, hc, d1]
          · simp (disch := (first | assumption | (unfold i32; omega) | (unfold i64; omega) | omega)) only [↓reduceIte, ki_0, ki_1, ki_2, ki_3, ki_4, ki_5, ki_6, ki_7, ki_8, ki_9, ki_10, ki_11, ki_12, ki_13, ki_14, ki_15, ki_20, ki_21, ki_30, ki_31, ki_40, ki_41, ki_50, ki_51, ki_60, ki_63, ki_64, ki_65, ki_100, ki_158, ki_160, ki_200, ki_212, ki_1000, ki_2000, ki_2001, ki_5000, ki_10000, ki_10001, ki_100000, ki_200000, ki_1000000, ki_2000000, ki_3000000, iO_neg, iO_add, iO_sub, iO_mul, kn_4, kn_8, kn_10, kn_20, kn_24, kn_40, kn_41, kn_50, kn_60, kn_158, kn_160, kn_200, kn_212, kn_2001, tn_lt, fn_lt, tn_le, fn_le, tn_eq, fn_eq, x_lt, x_le, x_eq, x_ix, x_nat, t_lt, f_lt, t_le, f_le, t_eq, f_eq, eq_self, and_self, true_and, and_true, false_and, and_false, if_true, if_false, Int.toNat_natCast, bI_s, bL_s, bA_s, bA_n, bV_s, mq_s, mq_n, en_le, bl_0, bl_1, u_eq, u_ne, w_eq, w_ne, v_eq, v_ne, hp_cc_26, hp_g_26_0, hp_p_26_0, hp_g_26_1, hp_p_26_1, hp_g_26_2, hp_p_26_2, hp_g_26_3, hp_g_26_4, hp_g_26_5, hp_g_26_6, hp_g_26_7, hp_g_26_8, hp_g_26_9, hp_g_26_10, hp_g_26_11, hp_g_26_12, hp_g_26_13, hp_g_26_14, hp_g_26_15, hp_p_26_15, hp_g_26_16, hp_g_26_17, hp_g_26_18, hp_p_26_18, hp_g_26_19, hp_p_26_19, hp_g_26_20, hp_g_26_21, hp_p_26_21, hp_g_26_22, hp_g_26_23, hp_g_26_24, hp_g_26_25, hp_g_26_26, hp_g_26_27, hp_g_26_28, hp_g_26_29, hp_g_26_30, hp_p_26_30, hp_g_26_31, hp_g_26_32, hp_p_26_32, hp_a_27, hp_s_27, hp_l_27, hp_a_28, hp_s_28, hp_l_28, hp_a_29, hp_s_29, hp_l_29, hp_a_30, hp_s_30, hp_l_30, hp_a_31, hp_s_31, hp_l_31, hp_a_32, hp_s_32, hp_l_32, hp_a_33, hp_s_33, hp_l_33, hp_a_34, hp_s_34, hp_l_34, hp_a_35, hp_s_35, hp_l_35, hp_a_36, hp_s_36, hp_l_36, hp_a_37, hp_s_37, hp_l_37, hp_a_38, hp_s_38, hp_l_38, hp_a_39, hp_s_39, hp_a_40, hp_s_40, hp_a_41, hp_s_41, hp_l_41, hp_a_42, hp_s_42, hp_l_42, hp_a_43, hp_s_43, hp_l_43, hp_a_44, hp_s_44, hp_l_44, hp_a_45, hp_s_45, hp_l_45, hp_a_46, hp_s_46, hp_l_46, hp_a_47, hp_s_47, hp_l_47, hp_a_48, hp_s_48, hp_l_48, hp_a_49, hp_s_49, hp_l_49, hp_a_50, hp_s_50, hp_l_50, e_X12_in, hc, d2, d3]
          · simp (disch := (first | assumption | (unfold i32; omega) | (unfold i64; omega) | omega)) only [↓reduceIte, ki_0, ki_1, ki_2, ki_3, ki_4, ki_5, ki_6, ki_7, ki_8, ki_9, ki_10, ki_11, ki_12, ki_13, ki_14, ki_15, ki_20, ki_21, ki_30, ki_31, ki_40, ki_41, ki_50, ki_51, ki_60, ki_63, ki_64, ki_65, ki_100, ki_158, ki_160, ki_200, ki_212, ki_1000, ki_2000, ki_2001, ki_5000, ki_10000, ki_10001, ki_100000, ki_200000, ki_1000000, ki_2000000, ki_3000000, iO_neg, iO_add, iO_sub, iO_mul, kn_4, kn_8, kn_10, kn_20, kn_24, kn_40, kn_41, kn_50, kn_60, kn_158, kn_160, kn_200, kn_212, kn_2001, tn_lt, fn_lt, tn_le, fn_le, tn_eq, fn_eq, x_lt, x_le, x_eq, x_ix, x_nat, t_lt, f_lt, t_le, f_le, t_eq, f_eq, eq_self, and_self, true_and, and_true, false_and, and_false, if_true, if_false, Int.toNat_natCast, bI_s, bL_s, bA_s, bA_n, bV_s, mq_s, mq_n, en_le, bl_0, bl_1, u_eq, u_ne, w_eq, w_ne, v_eq, v_ne, hp_cc_26, hp_g_26_0, hp_p_26_0, hp_g_26_1, hp_p_26_1, hp_g_26_2, hp_p_26_2, hp_g_26_3, hp_g_26_4, hp_g_26_5, hp_g_26_6, hp_g_26_7, hp_g_26_8, hp_g_26_9, hp_g_26_10, hp_g_26_11, hp_g_26_12, hp_g_26_13, hp_g_26_14, hp_g_26_15, hp_p_26_15, hp_g_26_16, hp_g_26_17, hp_g_26_18, hp_p_26_18, hp_g_26_19, hp_p_26_19, hp_g_26_20, hp_g_26_21, hp_p_26_21, hp_g_26_22, hp_g_26_23, hp_g_26_24, hp_g_26_25, hp_g_26_26, hp_g_26_27, hp_g_26_28, hp_g_26_29, hp_g_26_30, hp_p_26_30, hp_g_26_31, hp_g_26_32, hp_p_26_32, hp_a_27, hp_s_27, hp_l_27, hp_a_28, hp_s_28, hp_l_28, hp_a_29, hp_s_29, hp_l_29, hp_a_30, hp_s_30, hp_l_30, hp_a_31, hp_s_31, hp_l_31, hp_a_32, hp_s_32, hp_l_32, hp_a_33, hp_s_33, hp_l_33, hp_a_34, hp_s_34, hp_l_34, hp_a_35, hp_s_35, hp_l_35, hp_a_36, hp_s_36, hp_l_36, hp_a_37, hp_s_37, hp_l_37, hp_a_38, hp_s_38, hp_l_38, hp_a_39, hp_s_39, hp_a_40, hp_s_40, hp_a_41, hp_s_41, hp_l_41, hp_a_42, hp_s_42, hp_l_42, hp_a_43, hp_s_43, hp_l_43, hp_a_44, hp_s_44, hp_l_44, hp_a_45, hp_s_45, hp_l_45, hp_a_46, hp_s_46, hp_l_46, hp_a_47, hp_s_47, hp_l_47, hp_a_48, hp_s_48, hp_l_48, hp_a_49, hp_s_49, hp_l_49, hp_a_50, hp_s_50, hp_l_50, e_X12_in, hc, d2]
      · rw [if_neg (show ¬ (0 ≤ w ∧ w ≤ 2 ∧ 1 ≤ m ∧ m ≤ 40 ∧ 0 ≤ a ∧ a + m ≤ (q.2.2.1 : Nat)) by omega)]
        clear hV c4 hva g
        rcases Int.lt_or_le w 0 with g5 | g5
        · clear gw; simp (disch := (first | assumption | (unfold i32; omega) | (unfold i64; omega) | omega)) only [↓reduceIte, ki_0, ki_1, ki_2, ki_3, ki_4, ki_5, ki_6, ki_7, ki_8, ki_9, ki_10, ki_11, ki_12, ki_13, ki_14, ki_15, ki_20, ki_21, ki_30, ki_31, ki_40, ki_41, ki_50, ki_51, ki_60, ki_63, ki_64, ki_65, ki_100, ki_158, ki_160, ki_200, ki_212, ki_1000, ki_2000, ki_2001, ki_5000, ki_10000, ki_10001, ki_100000, ki_200000, ki_1000000, ki_2000000, ki_3000000, iO_neg, iO_add, iO_sub, iO_mul, kn_4, kn_8, kn_10, kn_20, kn_24, kn_40, kn_41, kn_50, kn_60, kn_158, kn_160, kn_200, kn_212, kn_2001, tn_lt, fn_lt, tn_le, fn_le, tn_eq, fn_eq, x_lt, x_le, x_eq, x_ix, x_nat, t_lt, f_lt, t_le, f_le, t_eq, f_eq, eq_self, and_self, true_and, and_true, false_and, and_false, if_true, if_false, Int.toNat_natCast, bI_s, bL_s, bA_s, bA_n, bV_s, mq_s, mq_n, en_le, bl_0, bl_1, u_eq, u_ne, w_eq, w_ne, v_eq, v_ne, hp_cc_26, hp_g_26_0, hp_p_26_0, hp_g_26_1, hp_p_26_1, hp_g_26_2, hp_p_26_2, hp_g_26_3, hp_g_26_4, hp_g_26_5, hp_g_26_6, hp_g_26_7, hp_g_26_8, hp_g_26_9, hp_g_26_10, hp_g_26_11, hp_g_26_12, hp_g_26_13, hp_g_26_14, hp_g_26_15, hp_p_26_15, hp_g_26_16, hp_g_26_17, hp_g_26_18, hp_p_26_18, hp_g_26_19, hp_p_26_19, hp_g_26_20, hp_g_26_21, hp_p_26_21, hp_g_26_22, hp_g_26_23, hp_g_26_24, hp_g_26_25, hp_g_26_26, hp_g_26_27, hp_g_26_28, hp_g_26_29, hp_g_26_30, hp_p_26_30, hp_g_26_31, hp_g_26_32, hp_p_26_32, hp_a_27, hp_s_27, hp_l_27, hp_a_28, hp_s_28, hp_l_28, hp_a_29, hp_s_29, hp_l_29, hp_a_30, hp_s_30, hp_l_30, hp_a_31, hp_s_31, hp_l_31, hp_a_32, hp_s_32, hp_l_32, hp_a_33, hp_s_33, hp_l_33, hp_a_34, hp_s_34, hp_l_34, hp_a_35, hp_s_35, hp_l_35, hp_a_36, hp_s_36, hp_l_36, hp_a_37, hp_s_37, hp_l_37, hp_a_38, hp_s_38, hp_l_38, hp_a_39, hp_s_39, hp_a_40, hp_s_40, hp_a_41, hp_s_41, hp_l_41, hp_a_42, hp_s_42, hp_l_42, hp_a_43, hp_s_43, hp_l_43, hp_a_44, hp_s_44, hp_l_44, hp_a_45, hp_s_45, hp_l_45, hp_a_46, hp_s_46, hp_l_46, hp_a_47, hp_s_47, hp_l_47, hp_a_48, hp_s_48, hp_l_48, hp_a_49, hp_s_49, hp_l_49, hp_a_50, hp_s_50, hp_l_50, e_X12_in]
        · have g6 : 2 < w := by omega
          clear gw; simp (disch := (first | assumption | (unfold i32; omega) | (unfold i64; omega) | omega)) only [↓reduceIte, ki_0, ki_1, ki_2, ki_3, ki_4, ki_5, ki_6, ki_7, ki_8, ki_9, ki_10, ki_11, ki_12, ki_13, ki_14, ki_15, ki_20, ki_21, ki_30, ki_31, ki_40, ki_41, ki_50, ki_51, ki_60, ki_63, ki_64, ki_65, ki_100, ki_158, ki_160, ki_200, ki_212, ki_1000, ki_2000, ki_2001, ki_5000, ki_10000, ki_10001, ki_100000, ki_200000, ki_1000000, ki_2000000, ki_3000000, iO_neg, iO_add, iO_sub, iO_mul, kn_4, kn_8, kn_10, kn_20, kn_24, kn_40, kn_41, kn_50, kn_60, kn_158, kn_160, kn_200, kn_212, kn_2001, tn_lt, fn_lt, tn_le, fn_le, tn_eq, fn_eq, x_lt, x_le, x_eq, x_ix, x_nat, t_lt, f_lt, t_le, f_le, t_eq, f_eq, eq_self, and_self, true_and, and_true, false_and, and_false, if_true, if_false, Int.toNat_natCast, bI_s, bL_s, bA_s, bA_n, bV_s, mq_s, mq_n, en_le, bl_0, bl_1, u_eq, u_ne, w_eq, w_ne, v_eq, v_ne, hp_cc_26, hp_g_26_0, hp_p_26_0, hp_g_26_1, hp_p_26_1, hp_g_26_2, hp_p_26_2, hp_g_26_3, hp_g_26_4, hp_g_26_5, hp_g_26_6, hp_g_26_7, hp_g_26_8, hp_g_26_9, hp_g_26_10, hp_g_26_11, hp_g_26_12, hp_g_26_13, hp_g_26_14, hp_g_26_15, hp_p_26_15, hp_g_26_16, hp_g_26_17, hp_g_26_18, hp_p_26_18, hp_g_26_19, hp_p_26_19, hp_g_26_20, hp_g_26_21, hp_p_26_21, hp_g_26_22, hp_g_26_23, hp_g_26_24, hp_g_26_25, hp_g_26_26, hp_g_26_27, hp_g_26_28, hp_g_26_29, hp_g_26_30, hp_p_26_30, hp_g_26_31, hp_g_26_32, hp_p_26_32, hp_a_27, hp_s_27, hp_l_27, hp_a_28, hp_s_28, hp_l_28, hp_a_29, hp_s_29, hp_l_29, hp_a_30, hp_s_30, hp_l_30, hp_a_31, hp_s_31, hp_l_31, hp_a_32, hp_s_32, hp_l_32, hp_a_33, hp_s_33, hp_l_33, hp_a_34, hp_s_34, hp_l_34, hp_a_35, hp_s_35, hp_l_35, hp_a_36, hp_s_36, hp_l_36, hp_a_37, hp_s_37, hp_l_37, hp_a_38, hp_s_38, hp_l_38, hp_a_39, hp_s_39, hp_a_40, hp_s_40, hp_a_41, hp_s_41, hp_l_41, hp_a_42, hp_s_42, hp_l_42, hp_a_43, hp_s_43, hp_l_43, hp_a_44, hp_s_44, hp_l_44, hp_a_45, hp_s_45, hp_l_45, hp_a_46, hp_s_46, hp_l_46, hp_a_47, hp_s_47, hp_l_47, hp_a_48, hp_s_48, hp_l_48, hp_a_49, hp_s_49, hp_l_49, hp_a_50, hp_s_50, hp_l_50, e_X12_in]
    · rw [if_neg g, if_neg (show ¬ (0 ≤ w ∧ w ≤ 2 ∧ 1 ≤ m ∧ m ≤ 40 ∧ 0 ≤ a ∧ a + m ≤ (q.2.2.1 : Nat)) by omega)]
      rfl
theorem cs_isEven (hS : OK5 S) {r a m : Int} (hr : i32 r) (ha : i32 a) (hm : i32 m) : CS S S (p_isEven S r a m) (fun z => f_X11_isEven sc (n + 40) 1 (iO r) (iO a) (iO m) z) := by
  unfold p_isEven
  cases hq : rowq S r with
  | none =>
    apply cs_ask
    intro XI XA XP XC MI MA ML D Γ hV
    show f_X11_isEven sc (n + 40) 1 (iO r) (iO a) (iO m) _ = _
    rw [e_X11_isEven]
    simp (disch := (first | assumption | (unfold i32; omega) | (unfold i64; omega) | omega)) only [↓reduceIte, ki_0, ki_1, ki_2, ki_3, ki_4, ki_5, ki_6, ki_7, ki_8, ki_9, ki_10, ki_11, ki_12, ki_13, ki_14, ki_15, ki_20, ki_21, ki_30, ki_31, ki_40, ki_41, ki_50, ki_51, ki_60, ki_63, ki_64, ki_65, ki_100, ki_158, ki_160, ki_200, ki_212, ki_1000, ki_2000, ki_2001, ki_5000, ki_10000, ki_10001, ki_100000, ki_200000, ki_1000000, ki_2000000, ki_3000000, iO_neg, iO_add, iO_sub, iO_mul, kn_4, kn_8, kn_10, kn_20, kn_24, kn_40, kn_41, kn_50, kn_60, kn_158, kn_160, kn_200, kn_212, kn_2001, tn_lt, fn_lt, tn_le, fn_le, tn_eq, fn_eq, x_lt, x_le, x_eq, x_ix, x_nat, t_lt, f_lt, t_le, f_le, t_eq, f_eq, eq_self, and_self, true_and, and_true, false_and, and_false, if_true, if_false, Int.toNat_natCast, bI_s, bL_s, bA_s, bA_n, bV_s, mq_s, mq_n, en_le, bl_0, bl_1, u_eq, u_ne, w_eq, w_ne, v_eq, v_ne, hp_cc_1, hp_g_1_0, hp_g_1_1, hp_g_1_2, hp_g_1_3, hp_g_1_4, hp_g_1_5, hp_g_1_6, hp_g_1_7, hp_g_1_8, hp_p_1_8, hp_g_1_9, hp_p_1_9, hp_g_1_10, hp_p_1_10, hp_a_2, hp_n_2, hp_a_3, hp_n_3, hp_a_4, hp_cc_7, hp_g_7_0, hp_p_7_0, hp_g_7_1, hp_p_7_1, hp_g_7_2, hp_p_7_2, hp_g_7_3, hp_p_7_3, hp_g_7_4, hp_p_7_4, hp_g_7_5, hp_p_7_5, hp_g_7_6, hp_p_7_6, hp_g_7_7, hp_g_7_8, hp_p_7_8, hp_g_7_9, hp_p_7_9, hp_g_7_10, hp_p_7_10, hp_a_8, hp_s_8, hp_l_8, x_rowAt0 hV hS hr hq, e_X8_read_N1]
  | some q =>
    intro XI XA XP XC MI MA ML D Γ hV
    dsimp only
    obtain ⟨k, rfl, hk, hq2⟩ := rowq_some hq
    have hR := hS.2.2.2.1 q (List.mem_of_getElem? hq2)
    have hsz : q.2.2.1 ≤ 10001 := hR.2.2.2.2.1
    have hva := hR.2.2.2.2.2.1
    obtain ⟨p, g, c1, c2, c3, c4, c5, c6, c7, c8, c9⟩ := hV.2.2.2.2.2.1 k q hq2
    have h9 := (hV.2.2.2.2.2.2.2.2 p g c2).1
    obtain ⟨XI1, XA1, D1, f1, f2, f3, f4, f5, f6⟩ := x_read (sc := sc) c2 h9 n XI XA XP XC MI MA ML D hV.2.2.2.2.2.2.2.2 ha hm
    rw [c7, c8] at f6
    rw [c7] at f1
    have hrow := x_rowAt1 (sc := sc) (n := n + 38) (XC := XC) (MI := MI) (MA := MA) (ML := ML) hV hS hq2 c1
    have hV1 : CV S Γ XI1 XA1 XP D1 := (hV.step f2 f3.2.2.1).scr (fun i hi => f4 i (by omega)) (fun i hi => f5 i (by omega))
    have hGR : GR D D1 := ⟨by rw [f3.1]; omega, by rw [f3.2.1]; omega⟩
    by_cases gg : 1 ≤ m ∧ m ≤ 40 ∧ 0 ≤ a ∧ a + m ≤ (q.2.2.1 : Nat)
    · rw [if_pos gg] at f1
      obtain ⟨u1, u2⟩ := f6 gg
      rw [if_pos gg]
      obtain ⟨g1, g2, g3, g4⟩ := gg
      obtain ⟨y, rfl⟩ : ∃ y : Nat, m = y := ⟨m.toNat, by omega⟩
      obtain ⟨x, rfl⟩ : ∃ x : Nat, a = x := ⟨a.toNat, by omega⟩
      rw [Int.toNat_natCast] at u2
      rw [Int.toNat_natCast] at u2
      rw [Int.toNat_natCast, Int.toNat_natCast]
      have hfc := x_findClash (sc := sc) (d := n + 36) (XP := XP) (XC := XC) (MI := MI) (MA := MA) (ML := ML) (D := D1) (fr := x) (n := y) (f := q.2.2.2) (by omega) u2 (by
        intro a' k' h'
        obtain ⟨b1, b2⟩ := ssum_b (f := q.2.2.2) (a := x + a') k' (fun i hi => hva i (by omega))
        omega) y 1 XI1 u1 (by omega) (by omega)
      clear hV f6 u2 hva
      cases hcl : cl1 (fun a k => ssum q.2.2.2 (x + a) k) y y 1 with
      | none =>
        rw [hcl] at hfc
        obtain ⟨XI2, e1, e2⟩ := hfc
        have e1 : b_X8_findClash_1 sc (n + 38) 7 (iO 1) (hp XI1 XA1 XP XC MI MA ML D1) = _ := e1
        refine ⟨XI2, XA1, XP, XC, D1, Γ, ?_, hV1.scr e2 (fun _ _ => rfl), hGR⟩
        show f_X11_isEven sc (n + 40) 1 (iO (k : Int)) (iO (x : Int)) (iO (y : Int)) _ = _
        rw [e_X11_isEven]
        simp (disch := (first | assumption | (unfold i32; omega) | (unfold i64; omega) | omega)) only [↓reduceIte, ki_0, ki_1, ki_2, ki_3, ki_4, ki_5, ki_6, ki_7, ki_8, ki_9, ki_10, ki_11, ki_12, ki_13, ki_14, ki_15, ki_20, ki_21, ki_30, ki_31, ki_40, ki_41, ki_50, ki_51, ki_60, ki_63, ki_64, ki_65, ki_100, ki_158, ki_160, ki_200, ki_212, ki_1000, ki_2000, ki_2001, ki_5000, ki_10000, ki_10001, ki_100000, ki_200000, ki_1000000, ki_2000000, ki_3000000, iO_neg, iO_add, iO_sub, iO_mul, kn_4, kn_8, kn_10, kn_20, kn_24, kn_40, kn_41, kn_50, kn_60, kn_158, kn_160, kn_200, kn_212, kn_2001, tn_lt, fn_lt, tn_le, fn_le, tn_eq, fn_eq, x_lt, x_le, x_eq, x_ix, x_nat, t_lt, f_lt, t_le, f_le, t_eq, f_eq, eq_self, and_self, true_and, and_true, false_and, and_false, if_true, if_false, Int.toNat_natCast, bI_s, bL_s, bA_s, bA_n, bV_s, mq_s, mq_n, en_le, bl_0, bl_1, u_eq, u_ne, w_eq, w_ne, v_eq, v_ne, hp_cc_1, hp_g_1_0, hp_g_1_1, hp_g_1_2, hp_g_1_3, hp_g_1_4, hp_g_1_5, hp_g_1_6, hp_g_1_7, hp_g_1_8, hp_p_1_8, hp_g_1_9, hp_p_1_9, hp_g_1_10, hp_p_1_10, hp_a_2, hp_n_2, hp_a_3, hp_n_3, hp_a_4, hp_cc_7, hp_g_7_0, hp_p_7_0, hp_g_7_1, hp_p_7_1, hp_g_7_2, hp_p_7_2, hp_g_7_3, hp_p_7_3, hp_g_7_4, hp_p_7_4, hp_g_7_5, hp_p_7_5, hp_g_7_6, hp_p_7_6, hp_g_7_7, hp_g_7_8, hp_p_7_8, hp_g_7_9, hp_p_7_9, hp_g_7_10, hp_p_7_10, hp_a_8, hp_s_8, hp_l_8, hrow, f1, e_X8_findClash, e1]
      | some c =>
        rw [hcl] at hfc
        obtain ⟨k', a', b', XI2, -, -, -, -, e1, -, -, -, e2⟩ := hfc
        have e1 : b_X8_findClash_1 sc (n + 38) 7 (iO 1) (hp XI1 XA1 XP XC MI MA ML D1) = _ := e1
        refine ⟨XI2, XA1, XP, XC, D1, Γ, ?_, hV1.scr e2 (fun _ _ => rfl), hGR⟩
        show f_X11_isEven sc (n + 40) 1 (iO (k : Int)) (iO (x : Int)) (iO (y : Int)) _ = _
        rw [e_X11_isEven]
        simp (disch := (first | assumption | (unfold i32; omega) | (unfold i64; omega) | omega)) only [↓reduceIte, ki_0, ki_1, ki_2, ki_3, ki_4, ki_5, ki_6, ki_7, ki_8, ki_9, ki_10, ki_11, ki_12, ki_13, ki_14, ki_15, ki_20, ki_21, ki_30, ki_31, ki_40, ki_41, ki_50, ki_51, ki_60, ki_63, ki_64, ki_65, ki_100, ki_158, ki_160, ki_200, ki_212, ki_1000, ki_2000, ki_2001, ki_5000, ki_10000, ki_10001, ki_100000, ki_200000, ki_1000000, ki_2000000, ki_3000000, iO_neg, iO_add, iO_sub, iO_mul, kn_4, kn_8, kn_10, kn_20, kn_24, kn_40, kn_41, kn_50, kn_60, kn_158, kn_160, kn_200, kn_212, kn_2001, tn_lt, fn_lt, tn_le, fn_le, tn_eq, fn_eq, x_lt, x_le, x_eq, x_ix, x_nat, t_lt, f_lt, t_le, f_le, t_eq, f_eq, eq_self, and_self, true_and, and_true, false_and, and_false, if_true, if_false, Int.toNat_natCast, bI_s, bL_s, bA_s, bA_n, bV_s, mq_s, mq_n, en_le, bl_0, bl_1, u_eq, u_ne, w_eq, w_ne, v_eq, v_ne, hp_cc_1, hp_g_1_0, hp_g_1_1, hp_g_1_2, hp_g_1_3, hp_g_1_4, hp_g_1_5, hp_g_1_6, hp_g_1_7, hp_g_1_8, hp_p_1_8, hp_g_1_9, hp_p_1_9, hp_g_1_10, hp_p_1_10, hp_a_2, hp_n_2, hp_a_3, hp_n_3, hp_a_4, hp_cc_7, hp_g_7_0, hp_p_7_0, hp_g_7_1, hp_p_7_1, hp_g_7_2, hp_p_7_2, hp_g_7_3, hp_p_7_3, hp_g_7_4, hp_p_7_4, hp_g_7_5, hp_p_7_5, hp_g_7_6, hp_p_7_6, hp_g_7_7, hp_g_7_8, hp_p_7_8, hp_g_7_9, hp_p_7_9, hp_g_7_10, hp_p_7_10, hp_a_8, hp_s_8, hp_l_8, hrow, f1, e_X8_findClash, e1]
    · rw [if_neg gg] at f1
      rw [if_neg gg]
      clear gg f6
      refine ⟨XI1, XA1, XP, XC, D1, Γ, ?_, hV1, hGR⟩
      show f_X11_isEven sc (n + 40) 1 (iO (k : Int)) (iO a) (iO m) _ = _
      rw [e_X11_isEven]
      simp (disch := (first | assumption | (unfold i32; omega) | (unfold i64; omega) | omega)) only [↓reduceIte, ki_0, ki_1, ki_2, ki_3, ki_4, ki_5, ki_6, ki_7, ki_8, ki_9, ki_10, ki_11, ki_12, ki_13, ki_14, ki_15, ki_20, ki_21, ki_30, ki_31, ki_40, ki_41, ki_50, ki_51, ki_60, ki_63, ki_64, ki_65, ki_100, ki_158, ki_160, ki_200, ki_212, ki_1000, ki_2000, ki_2001, ki_5000, ki_10000, ki_10001, ki_100000, ki_200000, ki_1000000, ki_2000000, ki_3000000, iO_neg, iO_add, iO_sub, iO_mul, kn_4, kn_8, kn_10, kn_20, kn_24, kn_40, kn_41, kn_50, kn_60, kn_158, kn_160, kn_200, kn_212, kn_2001, tn_lt, fn_lt, tn_le, fn_le, tn_eq, fn_eq, x_lt, x_le, x_eq, x_ix, x_nat, t_lt, f_lt, t_le, f_le, t_eq, f_eq, eq_self, and_self, true_and, and_true, false_and, and_false, if_true, if_false, Int.toNat_natCast, bI_s, bL_s, bA_s, bA_n, bV_s, mq_s, mq_n, en_le, bl_0, bl_1, u_eq, u_ne, w_eq, w_ne, v_eq, v_ne, hp_cc_1, hp_g_1_0, hp_g_1_1, hp_g_1_2, hp_g_1_3, hp_g_1_4, hp_g_1_5, hp_g_1_6, hp_g_1_7, hp_g_1_8, hp_p_1_8, hp_g_1_9, hp_p_1_9, hp_g_1_10, hp_p_1_10, hp_a_2, hp_n_2, hp_a_3, hp_n_3, hp_a_4, hp_cc_7, hp_g_7_0, hp_p_7_0, hp_g_7_1, hp_p_7_1, hp_g_7_2, hp_p_7_2, hp_g_7_3, hp_p_7_3, hp_g_7_4, hp_p_7_4, hp_g_7_5, hp_p_7_5, hp_g_7_6, hp_p_7_6, hp_g_7_7, hp_g_7_8, hp_p_7_8, hp_g_7_9, hp_p_7_9, hp_g_7_10, hp_p_7_10, hp_a_8, hp_s_8, hp_l_8, hrow, f1]
theorem cs_clash (hS : OK5 S) {r a m w : Int} (hr : i32 r) (ha : i32 a) (hm : i32 m) (hw : i32 w) : CS S S (p_clash S r a m w) (fun z => f_X11_clash sc (n + 40) 1 (iO r) (iO a) (iO m) (iO w) z) := by
  obtain ⟨w1, w2⟩ := id hw
  unfold p_clash
  by_cases gw : 0 ≤ w ∧ w ≤ 2
  · obtain ⟨gw1, gw2⟩ := gw
    cases hq : rowq S r with
    | none =>
      apply cs_ask
      intro XI XA XP XC MI MA ML D Γ hV
      show f_X11_clash sc (n + 40) 1 (iO r) (iO a) (iO m) (iO w) _ = _
      rw [e_X11_clash]
      have hrow := x_rowAt0 (sc := sc) (n := n + 38) (XC := XC) (MI := MI) (MA := MA) (ML := ML) hV hS hr hq
      rw [if_neg (show ¬ (iO w < 0) from nlt (a := w) (b := 0) hw (by unfold i32; omega) (by omega)), if_neg (show ¬ (2 < iO w) from nlt (a := 2) (b := w) (by unfold i32; omega) hw (by omega)), hp_g_1_4, hp_cc_1, if_pos rfl, hrow, bA_n, hp_cc_7, if_pos rfl, e_X8_read_N1, bI_s, if_pos rfl]
      rfl
    | some q =>
      intro XI XA XP XC MI MA ML D Γ hV
      dsimp only
      obtain ⟨k, rfl, hk, hq2⟩ := rowq_some hq
      have hR := hS.2.2.2.1 q (List.mem_of_getElem? hq2)
      have hsz : q.2.2.1 ≤ 10001 := hR.2.2.2.2.1
      have hva := hR.2.2.2.2.2.1
      obtain ⟨p, g, c1, c2, c3, c4, c5, c6, c7, c8, c9⟩ := hV.2.2.2.2.2.1 k q hq2
      have h9 := (hV.2.2.2.2.2.2.2.2 p g c2).1
      obtain ⟨XI1, XA1, D1, f1, f2, f3, f4, f5, f6⟩ := x_read (sc := sc) c2 h9 n XI XA XP XC MI MA ML D hV.2.2.2.2.2.2.2.2 ha hm
      rw [c7, c8] at f6
      rw [c7] at f1
      have hrow := x_rowAt1 (sc := sc) (n := n + 38) (XC := XC) (MI := MI) (MA := MA) (ML := ML) hV hS hq2 c1
      have hV1 : CV S Γ XI1 XA1 XP D1 := (hV.step f2 f3.2.2.1).scr (fun i hi => f4 i (by omega)) (fun i hi => f5 i (by omega))
      have hGR : GR D D1 := ⟨by rw [f3.1]; omega, by rw [f3.2.1]; omega⟩
      by_cases gg : 1 ≤ m ∧ m ≤ 40 ∧ 0 ≤ a ∧ a + m ≤ (q.2.2.1 : Nat)
      · rw [if_pos gg] at f1
        obtain ⟨u1, u2⟩ := f6 gg
        rw [if_pos (show 0 ≤ w ∧ w ≤ 2 ∧ 1 ≤ m ∧ m ≤ 40 ∧ 0 ≤ a ∧ a + m ≤ (q.2.2.1 : Nat) from ⟨gw1, gw2, gg⟩)]
        obtain ⟨g1, g2, g3, g4⟩ := gg
        obtain ⟨y, rfl⟩ : ∃ y : Nat, m = y := ⟨m.toNat, by omega⟩
        obtain ⟨x, rfl⟩ : ∃ x : Nat, a = x := ⟨a.toNat, by omega⟩
        rw [Int.toNat_natCast] at u2
        rw [Int.toNat_natCast] at u2
        rw [Int.toNat_natCast, Int.toNat_natCast]
        have hfc := x_findClash (sc := sc) (d := n + 36) (XP := XP) (XC := XC) (MI := MI) (MA := MA) (ML := ML) (D := D1) (fr := x) (n := y) (f := q.2.2.2) (by omega) u2 (by
          intro a' k' h'
          obtain ⟨b1, b2⟩ := ssum_b (f := q.2.2.2) (a := x + a') k' (fun i hi => hva i (by omega))
          omega) y 1 XI1 u1 (by omega) (by omega)
        clear hV f6 u2 hva
        cases hcl : cl1 (fun a k => ssum q.2.2.2 (x + a) k) y y 1 with
        | none =>
          rw [hcl] at hfc
          obtain ⟨XI2, e1, e2⟩ := hfc
          have e1 : f_X8_findClash sc (n + 39) 7 (hp XI1 XA1 XP XC MI MA ML D1) = _ := (e_X8_findClash _ _ _ _).trans e1
          refine ⟨XI2, XA1, XP, XC, D1, Γ, ?_, hV1.scr e2 (fun _ _ => rfl), hGR⟩
          show f_X11_clash sc (n + 40) 1 (iO (k : Int)) (iO (x : Int)) (iO (y : Int)) (iO w) _ = _
          rw [e_X11_clash, if_neg (show ¬ (iO w < 0) from nlt (a := w) (b := 0) hw (by unfold i32; omega) (by omega)), if_neg (show ¬ (2 < iO w) from nlt (a := 2) (b := w) (by unfold i32; omega) hw (by omega)), hp_g_1_4, hp_cc_1, if_pos rfl, hrow, bA_s, hp_cc_7, if_pos rfl, f1, bI_s, if_neg (show ¬ iO 1 = 0 by decide), hp_g_1_4, hp_cc_7, if_pos rfl, e1]
          rfl
        | some c =>
          rw [hcl] at hfc
          obtain ⟨k', a', b', XI2, q1, q2, q3, q4, e1, e4, e5, e6, e2⟩ := hfc
          have e1 : f_X8_findClash sc (n + 39) 7 (hp XI1 XA1 XP XC MI MA ML D1) = _ := (e_X8_findClash _ _ _ _).trans e1
          refine ⟨XI2, XA1, XP, XC, D1, Γ, ?_, hV1.scr e2 (fun _ _ => rfl), hGR⟩
          show f_X11_clash sc (n + 40) 1 (iO (k : Int)) (iO (x : Int)) (iO (y : Int)) (iO w) _ = _
          rw [e_X11_clash, if_neg (show ¬ (iO w < 0) from nlt (a := w) (b := 0) hw (by unfold i32; omega) (by omega)), if_neg (show ¬ (2 < iO w) from nlt (a := 2) (b := w) (by unfold i32; omega) hw (by omega)), hp_g_1_4, hp_cc_1, if_pos rfl, hrow, bA_s, hp_cc_7, if_pos rfl, f1, bI_s, if_neg (show ¬ iO 1 = 0 by decide), hp_g_1_4, hp_cc_7, if_pos rfl, e1, bI_s, if_neg (show ¬ iO 1 = 0 by decide)]
          obtain rfl | rfl | rfl : w = 0 ∨ w = 1 ∨ w = 2 := by omega
          · dsimp only
            rw [if_pos (show iO 0 = 0 from rfl), hp_g_1_4, hp_g_7_0, e4, if_pos rfl, show c / 10000 = (k' : Int) by omega]
          · dsimp only
            rw [if_neg (show ¬ iO 1 = 0 by decide), if_pos (show iO 1 = 1 from rfl), hp_g_1_4, hp_g_7_1, e5, iO_add, if_neg (show ¬ (1 : Int) = 0 by decide), if_pos rfl, show (x : Int) + (c / 100 - c / 100 / 100 * 100) = (x : Int) + (a' : Int) by omega]
          · dsimp only
            rw [if_neg (show ¬ iO 2 = 0 by decide), if_neg (show ¬ iO 2 = 1 by decide), hp_g_1_4, hp_g_7_2, e6, iO_add, if_neg (show ¬ (2 : Int) = 0 by decide), if_neg (show ¬ (2 : Int) = 1 by decide), show (x : Int) + (c - c / 100 * 100) = (x : Int) + (b' : Int) by omega]
      · rw [if_neg gg] at f1
        rw [if_neg (show ¬ (0 ≤ w ∧ w ≤ 2 ∧ 1 ≤ m ∧ m ≤ 40 ∧ 0 ≤ a ∧ a + m ≤ (q.2.2.1 : Nat)) by omega)]
        clear gg f6
        refine ⟨XI1, XA1, XP, XC, D1, Γ, ?_, hV1, hGR⟩
        show f_X11_clash sc (n + 40) 1 (iO (k : Int)) (iO a) (iO m) (iO w) _ = _
        rw [e_X11_clash, if_neg (show ¬ (iO w < 0) from nlt (a := w) (b := 0) hw (by unfold i32; omega) (by omega)), if_neg (show ¬ (2 < iO w) from nlt (a := 2) (b := w) (by unfold i32; omega) hw (by omega)), hp_g_1_4, hp_cc_1, if_pos rfl, hrow, bA_s, hp_cc_7, if_pos rfl, f1, bI_s, if_pos (show iO 0 = 0 from rfl)]
        rfl
  · have hno : (match rowq S r with
      | none => (-1 : Int)
      | some q => if 0 ≤ w ∧ w ≤ 2 ∧ 1 ≤ m ∧ m ≤ 40 ∧ 0 ≤ a ∧ a + m ≤ (q.2.2.1 : Nat) then (match cl1 (fun x k => ssum q.2.2.2 (a.toNat + x) k) m.toNat m.toNat 1 with
        | none => -1
        | some c => if w = 0 then c / 10000 else if w = 1 then a + (c / 100 - c / 100 / 100 * 100) else a + (c - c / 100 * 100)) else -1) = -1 := by
      cases rowq S r with
      | none => rfl
      | some q => exact if_neg (by omega)
    rw [hno]
    apply cs_ask
    intro XI XA XP XC MI MA ML D Γ hV
    show f_X11_clash sc (n + 40) 1 (iO r) (iO a) (iO m) (iO w) _ = _
    rw [e_X11_clash]
    by_cases g1 : w < 0
    · rw [if_pos (show iO w < 0 from plt (a := w) (b := 0) hw (by unfold i32; omega) g1)]; rfl
    · rw [if_neg (show ¬ (iO w < 0) from nlt (a := w) (b := 0) hw (by unfold i32; omega) (by omega)), if_pos (show 2 < iO w from plt (a := 2) (b := w) (by unfold i32; omega) hw (by omega))]; rfl
end CLA
