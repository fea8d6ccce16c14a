/-! range: the class -/
def lenp (n k : Nat) (a' k' : Nat) : Prop := 1 ≤ k' ∧ a' + k' ≤ n ∧ k' < k
section RGX
variable {sc : en_S} {d : Nat} {XA : Nat → Nat → Int32} {XP : Nat → Nat → Option Nat} {XC : Value} {MI : Nat → Int32} {MA : Nat → Nat → Int32} {ML : Nat → Nat → Int64} {D : en_H} {fr n : Nat} {f : Nat → Int}
theorem x_findRange (hn : n ≤ 40) (hn1 : 1 ≤ n) (hs : ∀ t, t ≤ n → XA 1 t = XA 1 0 + iO (ssum f fr t)) (hb : ∀ a k, a + k ≤ n → 0 ≤ ssum f (fr + a) k ∧ ssum f (fr + a) k ≤ 10000) : ∀ (j k : Nat) (XI : Nat → Int32) (u c x y : Int), XI 11 = iO (n : Nat) → k + j = n + 1 → 1 ≤ k → (k = 1 ∨ (XI 7 = iO u ∧ XI 8 = iO c ∧ XI 9 = iO x ∧ XI 10 = iO y ∧ LW (fun a k => ssum f (fr + a) k) (lenp n k) u c ∧ HG (fun a k => ssum f (fr + a) k) (lenp n k) x y)) →
    ∃ (XI' : Nat → Int32) (u' c' x' y' : Int), LW (fun a k => ssum f (fr + a) k) (allp n) u' c' ∧ HG (fun a k => ssum f (fr + a) k) (allp n) x' y' ∧ b_X8_findRange_1 sc (d + 2) 7 (iO (k : Int)) (hp XI XA XP XC MI MA ML D) = some (some (.int (iO (if u' * y' < x' * c' then 1 else 0))), hp XI' XA XP XC MI MA ML D) ∧ XI' 7 = iO u' ∧ XI' 8 = iO c' ∧ XI' 9 = iO x' ∧ XI' 10 = iO y' ∧ (∀ s, s < 4 ∨ 15 ≤ s → XI' s = XI s) := by
  have hbq : ∀ (k a' k' : Nat), lenp n k a' k' → 1 ≤ k' ∧ (k' : Int) ≤ 40 ∧ -10000 ≤ ssum f (fr + a') k' ∧ ssum f (fr + a') k' ≤ 10000 := fun k a' k' h => by
    have h1 := h.1
    have h2 := h.2.1
    have := hb a' k' h2
    omega
  have hbq2 : ∀ (k a' k' : Nat), lenp n k a' k' → 1 ≤ k' ∧ (k' : Int) ≤ 40 ∧ -10000 ≤ -ssum f (fr + a') k' ∧ -ssum f (fr + a') k' ≤ 10000 := fun k a' k' h => by
    have := hbq k a' k' h
    omega
  intro j
  induction j with
  | zero =>
    intro k XI u c x y h11 hk h1 hst
    rcases hst with h | ⟨q1, q2, q3, q4, q5, q6⟩
    · omega
    · have hcg : ∀ a' k', lenp n k a' k' ↔ allp n a' k' := fun a' k' => ⟨fun h => ⟨h.1, h.2.1⟩, fun h => ⟨h.1, h.2, by have := h.1; have := h.2; omega⟩⟩
      refine ⟨XI, u, c, x, y, q5.cg hcg, LW.cg q6 hcg, ?_, q1, q2, q3, q4, fun _ _ => rfl⟩
      obtain ⟨b1, b2, b3, b4⟩ := q5.bd (B := 10000) (K := 40) (hbq k)
      obtain ⟨b5, b6, b7, b8⟩ := LW.bd (B := 10000) (K := 40) q6 (hbq2 k)
      have m1 := mul_bd (x := u) (y := y) (a := 10001) (b := 40) (by omega) (by omega) (by omega) (by omega)
      have m2 := mul_bd (x := x) (y := c) (a := 10001) (b := 40) (by omega) (by omega) (by omega) (by omega)
      rw [eb_X8_findRange_1]
      clear hbq hbq2 hs hb hcg q5 q6
      by_cases g : u * y < x * c
      · rw [if_pos g]
        simp (disch := (first | assumption | (unfold i32; omega) | (unfold i64; omega) | omega)) only [↓reduceIte, ki_0, ki_1, ki_2, ki_3, ki_4, ki_5, ki_6, ki_7, ki_8, ki_9, ki_10, ki_11, ki_12, ki_13, ki_14, ki_15, ki_20, ki_21, ki_30, ki_31, ki_40, ki_41, ki_50, ki_51, ki_60, ki_63, ki_64, ki_65, ki_100, ki_158, ki_160, ki_200, ki_212, ki_1000, ki_2000, ki_2001, ki_5000, ki_10000, ki_10001, ki_100000, ki_200000, ki_1000000, ki_2000000, ki_3000000, iO_neg, iO_add, iO_sub, iO_mul, kn_4, kn_8, kn_10, kn_20, kn_24, kn_40, kn_41, kn_50, kn_60, kn_158, kn_160, kn_200, kn_212, kn_2001, tn_lt, fn_lt, tn_le, fn_le, tn_eq, fn_eq, x_lt, x_le, x_eq, x_ix, x_nat, t_lt, f_lt, t_le, f_le, t_eq, f_eq, eq_self, and_self, true_and, and_true, false_and, and_false, if_true, if_false, Int.toNat_natCast, bI_s, bL_s, bA_s, bA_n, bV_s, mq_s, mq_n, en_le, bl_0, bl_1, u_eq, u_ne, w_eq, w_ne, v_eq, v_ne, ↓hp_cc_7, ↓hp_g_7_0, ↓hp_p_7_0, ↓hp_g_7_1, ↓hp_p_7_1, ↓hp_g_7_2, ↓hp_p_7_2, ↓hp_g_7_3, ↓hp_p_7_3, ↓hp_g_7_4, ↓hp_p_7_4, ↓hp_g_7_5, ↓hp_p_7_5, ↓hp_g_7_6, ↓hp_p_7_6, ↓hp_g_7_7, ↓hp_g_7_8, ↓hp_p_7_8, ↓hp_g_7_9, ↓hp_p_7_9, ↓hp_g_7_10, ↓hp_p_7_10, ↓hp_a_8, ↓hp_s_8, ↓hp_l_8, h11, q1, q2, q3, q4]
      · rw [if_neg g]
        have g : x * c ≤ u * y := by omega
        simp (disch := (first | assumption | (unfold i32; omega) | (unfold i64; omega) | omega)) only [↓reduceIte, ki_0, ki_1, ki_2, ki_3, ki_4, ki_5, ki_6, ki_7, ki_8, ki_9, ki_10, ki_11, ki_12, ki_13, ki_14, ki_15, ki_20, ki_21, ki_30, ki_31, ki_40, ki_41, ki_50, ki_51, ki_60, ki_63, ki_64, ki_65, ki_100, ki_158, ki_160, ki_200, ki_212, ki_1000, ki_2000, ki_2001, ki_5000, ki_10000, ki_10001, ki_100000, ki_200000, ki_1000000, ki_2000000, ki_3000000, iO_neg, iO_add, iO_sub, iO_mul, kn_4, kn_8, kn_10, kn_20, kn_24, kn_40, kn_41, kn_50, kn_60, kn_158, kn_160, kn_200, kn_212, kn_2001, tn_lt, fn_lt, tn_le, fn_le, tn_eq, fn_eq, x_lt, x_le, x_eq, x_ix, x_nat, t_lt, f_lt, t_le, f_le, t_eq, f_eq, eq_self, and_self, true_and, and_true, false_and, and_false, if_true, if_false, Int.toNat_natCast, bI_s, bL_s, bA_s, bA_n, bV_s, mq_s, mq_n, en_le, bl_0, bl_1, u_eq, u_ne, w_eq, w_ne, v_eq, v_ne, ↓hp_cc_7, ↓hp_g_7_0, ↓hp_p_7_0, ↓hp_g_7_1, ↓hp_p_7_1, ↓hp_g_7_2, ↓hp_p_7_2, ↓hp_g_7_3, ↓hp_p_7_3, ↓hp_g_7_4, ↓hp_p_7_4, ↓hp_g_7_5, ↓hp_p_7_5, ↓hp_g_7_6, ↓hp_p_7_6, ↓hp_g_7_7, ↓hp_g_7_8, ↓hp_p_7_8, ↓hp_g_7_9, ↓hp_p_7_9, ↓hp_g_7_10, ↓hp_p_7_10, ↓hp_a_8, ↓hp_s_8, ↓hp_l_8, h11, q1, q2, q3, q4]
  | succ j ih =>
    intro k XI u c x y h11 hk h1 hst
    obtain ⟨XI1, e1, e2, e3, e4⟩ := x_cmp (sc := sc) (d := d) (XP := XP) (XC := XC) (MI := MI) (MA := MA) (ML := ML) (D := D) hn hs hb h1 (by omega) XI h11
    have h11' : XI1 11 = iO (n : Nat) := by rw [e4 11 (by omega) (by omega)]; exact h11
    obtain ⟨bb, x1, x2⟩ := mns_at (t := fun a k => ssum f (fr + a) k) (k := k) (n - k)
    obtain ⟨aa, y1, y2⟩ := mxs_at (t := fun a k => ssum f (fr + a) k) (k := k) (n - k)
    have x2 : mns (fun a k => ssum f (fr + a) k) k (n - k) = ssum f (fr + bb) k := x2
    have y2 : mxs (fun a k => ssum f (fr + a) k) k (n - k) = ssum f (fr + aa) k := y2
    have v1 := hb bb k (by omega)
    have v2 := hb aa k (by omega)
    have hmax : ∀ a' k', (k' = k ∧ a' + k ≤ n) → (ssum f (fr + a') k' - 1) * (k : Int) ≤ (ssum f (fr + aa) k - 1) * (k' : Int) := fun a' k' h => by
      rw [h.1]
      have := le_mxs (t := fun a k => ssum f (fr + a) k) (k := k) (n - k) a' (by omega)
      have this : ssum f (fr + a') k ≤ mxs (fun a k => ssum f (fr + a) k) k (n - k) := this
      exact Int.mul_le_mul_of_nonneg_right (by omega) (by omega)
    have hmin : ∀ a' k', (k' = k ∧ a' + k ≤ n) → (-ssum f (fr + a') k' - 1) * (k : Int) ≤ (-ssum f (fr + bb) k - 1) * (k' : Int) := fun a' k' h => by
      rw [h.1]
      have := mns_le (t := fun a k => ssum f (fr + a) k) (k := k) (n - k) a' (by omega)
      have this : mns (fun a k => ssum f (fr + a) k) k (n - k) ≤ ssum f (fr + a') k := this
      exact Int.mul_le_mul_of_nonneg_right (by omega) (by omega)
    rw [x2] at e2
    rw [y2] at e3
    have hN : ∀ a' k', (lenp n k a' k' ∨ (k' = k ∧ a' + k ≤ n)) ↔ lenp n (k + 1) a' k' := fun a' k' => ⟨fun h => by
      rcases h with h | h
      · exact ⟨h.1, h.2.1, by have := h.2.2; omega⟩
      · exact ⟨by omega, by omega, by omega⟩, fun h => by
      have q1 := h.1
      have q2 := h.2.1
      have q3 := h.2.2
      by_cases e : k' = k
      · exact Or.inr ⟨e, by omega⟩
      · exact Or.inl ⟨q1, q2, by omega⟩⟩
    have hqk : ∀ a' k', lenp n k a' k' → 1 ≤ k' := fun a' k' h => h.1
    have h1no : k = 1 → ∀ a' k', (k' = k ∧ a' + k ≤ n) ↔ lenp n (k + 1) a' k' := fun e a' k' => by
      rw [← hN]
      exact ⟨Or.inr, fun h => h.resolve_left (fun q => by have := q.1; have := q.2.2; omega)⟩
    have eneg : ∀ s : Int, -(s + 1) = -s - 1 := fun s => by omega
    -- the lower fraction
    have low : ∃ (p q : Int) (XI2 : Nat → Int32), LW (fun a k => ssum f (fr + a) k) (lenp n (k + 1)) p q ∧ XI2 7 = iO p ∧ XI2 8 = iO q ∧ (∀ s, s ≠ 7 → s ≠ 8 → XI2 s = XI1 s) ∧ b_X8_findRange_1 sc (d + 2) 7 (iO (k : Int)) (hp XI XA XP XC MI MA ML D) = b_X8_findRange_3 sc (d + 2) 7 (iO (k : Int)) (hp XI2 XA XP XC MI MA ML D) := by
      by_cases ek : k = 1
      · refine ⟨ssum f (fr + aa) k - 1, k, va_up (va_up XI1 7 (iO (ssum f (fr + aa) k - 1))) 8 (iO (k : Int)), (LW.one (t := fun a k => ssum f (fr + a) k) (a0 := aa) (k0 := k) (N := fun a' k' => k' = k ∧ a' + k ≤ n) ⟨rfl, by omega⟩ hmax).cg (h1no ek), rfl, rfl, fun s h7 h8 => by rw [w_ne h8, w_ne h7], ?_⟩
        rw [eb_X8_findRange_1]
        clear hbq hbq2 hs hb hmax hmin hN hqk h1no ih hst e4 x2 y2
        generalize ssum f (fr + aa) k = M at *
        simp (disch := (first | assumption | (unfold i32; omega) | (unfold i64; omega) | omega)) only [↓reduceIte, ki_0, ki_1, ki_2, ki_3, ki_4, ki_5, ki_6, ki_7, ki_8, ki_9, ki_10, ki_11, ki_12, ki_13, ki_14, ki_15, ki_20, ki_21, ki_30, ki_31, ki_40, ki_41, ki_50, ki_51, ki_60, ki_63, ki_64, ki_65, ki_100, ki_158, ki_160, ki_200, ki_212, ki_1000, ki_2000, ki_2001, ki_5000, ki_10000, ki_10001, ki_100000, ki_200000, ki_1000000, ki_2000000, ki_3000000, iO_neg, iO_add, iO_sub, iO_mul, kn_4, kn_8, kn_10, kn_20, kn_24, kn_40, kn_41, kn_50, kn_60, kn_158, kn_160, kn_200, kn_212, kn_2001, tn_lt, fn_lt, tn_le, fn_le, tn_eq, fn_eq, x_lt, x_le, x_eq, x_ix, x_nat, t_lt, f_lt, t_le, f_le, t_eq, f_eq, eq_self, and_self, true_and, and_true, false_and, and_false, if_true, if_false, Int.toNat_natCast, bI_s, bL_s, bA_s, bA_n, bV_s, mq_s, mq_n, en_le, bl_0, bl_1, u_eq, u_ne, w_eq, w_ne, v_eq, v_ne, ↓hp_cc_7, ↓hp_g_7_0, ↓hp_p_7_0, ↓hp_g_7_1, ↓hp_p_7_1, ↓hp_g_7_2, ↓hp_p_7_2, ↓hp_g_7_3, ↓hp_p_7_3, ↓hp_g_7_4, ↓hp_p_7_4, ↓hp_g_7_5, ↓hp_p_7_5, ↓hp_g_7_6, ↓hp_p_7_6, ↓hp_g_7_7, ↓hp_g_7_8, ↓hp_p_7_8, ↓hp_g_7_9, ↓hp_p_7_9, ↓hp_g_7_10, ↓hp_p_7_10, ↓hp_a_8, ↓hp_s_8, ↓hp_l_8, h11, e1, e3]
      · rcases hst with h | ⟨q1, q2, q3, q4, q5, q6⟩
        · exact absurd h ek
        obtain ⟨b1, b2, b3, b4⟩ := q5.bd (B := 10000) (K := 40) (hbq k)
        have m1 := mul_bd (x := ssum f (fr + aa) k - 1) (y := c) (a := 10001) (b := 40) (by omega) (by omega) (by omega) (by omega)
        have m2 := mul_bd (x := u) (y := (k : Int)) (a := 10001) (b := 40) (by omega) (by omega) (by omega) (by omega)
        have t7 : XI1 7 = iO u := by rw [e4 7 (by omega) (by omega)]; exact q1
        have t8 : XI1 8 = iO c := by rw [e4 8 (by omega) (by omega)]; exact q2
        by_cases g : u * (k : Int) < (ssum f (fr + aa) k - 1) * c
        · refine ⟨ssum f (fr + aa) k - 1, k, va_up (va_up XI1 7 (iO (ssum f (fr + aa) k - 1))) 8 (iO (k : Int)), (LW.up q5 (a0 := aa) (k0 := k) (N := fun a' k' => k' = k ∧ a' + k ≤ n) ⟨rfl, by omega⟩ hmax hqk g).cg hN, rfl, rfl, fun s h7 h8 => by rw [w_ne h8, w_ne h7], ?_⟩
          rw [eb_X8_findRange_1]
          clear hbq hbq2 hs hb hmax hmin hN hqk h1no ih e4 x2 y2 q5 q6
          generalize ssum f (fr + aa) k = M at *
          simp (disch := (first | assumption | (unfold i32; omega) | (unfold i64; omega) | omega)) only [↓reduceIte, ki_0, ki_1, ki_2, ki_3, ki_4, ki_5, ki_6, ki_7, ki_8, ki_9, ki_10, ki_11, ki_12, ki_13, ki_14, ki_15, ki_20, ki_21, ki_30, ki_31, ki_40, ki_41, ki_50, ki_51, ki_60, ki_63, ki_64, ki_65, ki_100, ki_158, ki_160, ki_200, ki_212, ki_1000, ki_2000, ki_2001, ki_5000, ki_10000, ki_10001, ki_100000, ki_200000, ki_1000000, ki_2000000, ki_3000000, iO_neg, iO_add, iO_sub, iO_mul, kn_4, kn_8, kn_10, kn_20, kn_24, kn_40, kn_41, kn_50, kn_60, kn_158, kn_160, kn_200, kn_212, kn_2001, tn_lt, fn_lt, tn_le, fn_le, tn_eq, fn_eq, x_lt, x_le, x_eq, x_ix, x_nat, t_lt, f_lt, t_le, f_le, t_eq, f_eq, eq_self, and_self, true_and, and_true, false_and, and_false, if_true, if_false, Int.toNat_natCast, bI_s, bL_s, bA_s, bA_n, bV_s, mq_s, mq_n, en_le, bl_0, bl_1, u_eq, u_ne, w_eq, w_ne, v_eq, v_ne, ↓hp_cc_7, ↓hp_g_7_0, ↓hp_p_7_0, ↓hp_g_7_1, ↓hp_p_7_1, ↓hp_g_7_2, ↓hp_p_7_2, ↓hp_g_7_3, ↓hp_p_7_3, ↓hp_g_7_4, ↓hp_p_7_4, ↓hp_g_7_5, ↓hp_p_7_5, ↓hp_g_7_6, ↓hp_p_7_6, ↓hp_g_7_7, ↓hp_g_7_8, ↓hp_p_7_8, ↓hp_g_7_9, ↓hp_p_7_9, ↓hp_g_7_10, ↓hp_p_7_10, ↓hp_a_8, ↓hp_s_8, ↓hp_l_8, h11, e1, e3, t7, t8]
        · refine ⟨u, c, XI1, (LW.keep q5 (a0 := aa) (k0 := k) h1 (N := fun a' k' => k' = k ∧ a' + k ≤ n) hmax (by omega) (by show (ssum f (fr + aa) k - 1) * c ≤ _; omega)).cg hN, t7, t8, fun _ _ _ => rfl, ?_⟩
          have g : (ssum f (fr + aa) k - 1) * c ≤ u * (k : Int) := by omega
          rw [eb_X8_findRange_1]
          clear hbq hbq2 hs hb hmax hmin hN hqk h1no ih e4 x2 y2 q5 q6
          generalize ssum f (fr + aa) k = M at *
          simp (disch := (first | assumption | (unfold i32; omega) | (unfold i64; omega) | omega)) only [↓reduceIte, ki_0, ki_1, ki_2, ki_3, ki_4, ki_5, ki_6, ki_7, ki_8, ki_9, ki_10, ki_11, ki_12, ki_13, ki_14, ki_15, ki_20, ki_21, ki_30, ki_31, ki_40, ki_41, ki_50, ki_51, ki_60, ki_63, ki_64, ki_65, ki_100, ki_158, ki_160, ki_200, ki_212, ki_1000, ki_2000, ki_2001, ki_5000, ki_10000, ki_10001, ki_100000, ki_200000, ki_1000000, ki_2000000, ki_3000000, iO_neg, iO_add, iO_sub, iO_mul, kn_4, kn_8, kn_10, kn_20, kn_24, kn_40, kn_41, kn_50, kn_60, kn_158, kn_160, kn_200, kn_212, kn_2001, tn_lt, fn_lt, tn_le, fn_le, tn_eq, fn_eq, x_lt, x_le, x_eq, x_ix, x_nat, t_lt, f_lt, t_le, f_le, t_eq, f_eq, eq_self, and_self, true_and, and_true, false_and, and_false, if_true, if_false, Int.toNat_natCast, bI_s, bL_s, bA_s, bA_n, bV_s, mq_s, mq_n, en_le, bl_0, bl_1, u_eq, u_ne, w_eq, w_ne, v_eq, v_ne, ↓hp_cc_7, ↓hp_g_7_0, ↓hp_p_7_0, ↓hp_g_7_1, ↓hp_p_7_1, ↓hp_g_7_2, ↓hp_p_7_2, ↓hp_g_7_3, ↓hp_p_7_3, ↓hp_g_7_4, ↓hp_p_7_4, ↓hp_g_7_5, ↓hp_p_7_5, ↓hp_g_7_6, ↓hp_p_7_6, ↓hp_g_7_7, ↓hp_g_7_8, ↓hp_p_7_8, ↓hp_g_7_9, ↓hp_p_7_9, ↓hp_g_7_10, ↓hp_p_7_10, ↓hp_a_8, ↓hp_s_8, ↓hp_l_8, h11, e1, e3, t7, t8]
    obtain ⟨p, q, XI2, l1, l2, l3, l4, l5⟩ := low
    have high : ∃ (v z : Int) (XI3 : Nat → Int32), HG (fun a k => ssum f (fr + a) k) (lenp n (k + 1)) v z ∧ XI3 9 = iO v ∧ XI3 10 = iO z ∧ (∀ s, s ≠ 9 → s ≠ 10 → XI3 s = XI2 s) ∧ b_X8_findRange_3 sc (d + 2) 7 (iO (k : Int)) (hp XI2 XA XP XC MI MA ML D) = b_X8_findRange_1 sc (d + 2) 7 (iO ((k : Int) + 1)) (hp XI3 XA XP XC MI MA ML D) := by
      have s12 : XI2 12 = iO (ssum f (fr + bb) k) := by rw [l4 12 (by omega) (by omega)]; exact e2
      by_cases ek : k = 1
      · refine ⟨ssum f (fr + bb) k + 1, k, va_up (va_up XI2 9 (iO (ssum f (fr + bb) k + 1))) 10 (iO (k : Int)), ?_, rfl, rfl, fun s h7 h8 => by rw [w_ne h8, w_ne h7], ?_⟩
        · unfold HG
          rw [eneg]
          exact (LW.one (t := fun a k => -ssum f (fr + a) k) (a0 := bb) (k0 := k) (N := fun a' k' => k' = k ∧ a' + k ≤ n) ⟨rfl, by omega⟩ hmin).cg (h1no ek)
        · rw [eb_X8_findRange_3, eb_X8_findRange_4]
          clear hbq hbq2 hs hb hmax hmin hN hqk h1no ih hst e4 x2 y2 l1 l4 l5
          generalize ssum f (fr + bb) k = M at *
          simp (disch := (first | assumption | (unfold i32; omega) | (unfold i64; omega) | omega)) only [↓reduceIte, ki_0, ki_1, ki_2, ki_3, ki_4, ki_5, ki_6, ki_7, ki_8, ki_9, ki_10, ki_11, ki_12, ki_13, ki_14, ki_15, ki_20, ki_21, ki_30, ki_31, ki_40, ki_41, ki_50, ki_51, ki_60, ki_63, ki_64, ki_65, ki_100, ki_158, ki_160, ki_200, ki_212, ki_1000, ki_2000, ki_2001, ki_5000, ki_10000, ki_10001, ki_100000, ki_200000, ki_1000000, ki_2000000, ki_3000000, iO_neg, iO_add, iO_sub, iO_mul, kn_4, kn_8, kn_10, kn_20, kn_24, kn_40, kn_41, kn_50, kn_60, kn_158, kn_160, kn_200, kn_212, kn_2001, tn_lt, fn_lt, tn_le, fn_le, tn_eq, fn_eq, x_lt, x_le, x_eq, x_ix, x_nat, t_lt, f_lt, t_le, f_le, t_eq, f_eq, eq_self, and_self, true_and, and_true, false_and, and_false, if_true, if_false, Int.toNat_natCast, bI_s, bL_s, bA_s, bA_n, bV_s, mq_s, mq_n, en_le, bl_0, bl_1, u_eq, u_ne, w_eq, w_ne, v_eq, v_ne, ↓hp_cc_7, ↓hp_g_7_0, ↓hp_p_7_0, ↓hp_g_7_1, ↓hp_p_7_1, ↓hp_g_7_2, ↓hp_p_7_2, ↓hp_g_7_3, ↓hp_p_7_3, ↓hp_g_7_4, ↓hp_p_7_4, ↓hp_g_7_5, ↓hp_p_7_5, ↓hp_g_7_6, ↓hp_p_7_6, ↓hp_g_7_7, ↓hp_g_7_8, ↓hp_p_7_8, ↓hp_g_7_9, ↓hp_p_7_9, ↓hp_g_7_10, ↓hp_p_7_10, ↓hp_a_8, ↓hp_s_8, ↓hp_l_8, s12]
      · rcases hst with h | ⟨q1, q2, q3, q4, q5, q6⟩
        · exact absurd h ek
        have q6' : LW (fun a k => -ssum f (fr + a) k) (lenp n k) (-x) y := q6
        obtain ⟨b1, b2, b3, b4⟩ := LW.bd (B := 10000) (K := 40) q6' (hbq2 k)
        have m1 := mul_bd (x := ssum f (fr + bb) k + 1) (y := y) (a := 10001) (b := 40) (by omega) (by omega) (by omega) (by omega)
        have m2 := mul_bd (x := x) (y := (k : Int)) (a := 10001) (b := 40) (by omega) (by omega) (by omega) (by omega)
        have f1 : (-ssum f (fr + bb) k - 1) * y = -((ssum f (fr + bb) k + 1) * y) := by rw [← eneg, Int.neg_mul]
        have f2 : -x * (k : Int) = -(x * (k : Int)) := Int.neg_mul _ _
        have t7 : XI2 9 = iO x := by rw [l4 9 (by omega) (by omega), e4 9 (by omega) (by omega)]; exact q3
        have t8 : XI2 10 = iO y := by rw [l4 10 (by omega) (by omega), e4 10 (by omega) (by omega)]; exact q4
        by_cases g : (ssum f (fr + bb) k + 1) * y < x * (k : Int)
        · refine ⟨ssum f (fr + bb) k + 1, k, va_up (va_up XI2 9 (iO (ssum f (fr + bb) k + 1))) 10 (iO (k : Int)), ?_, rfl, rfl, fun s h7 h8 => by rw [w_ne h8, w_ne h7], ?_⟩
          · unfold HG
            rw [eneg]
            exact (LW.up q6' (a0 := bb) (k0 := k) (N := fun a' k' => k' = k ∧ a' + k ≤ n) ⟨rfl, by omega⟩ hmin hqk (by show -x * (k : Int) < (-ssum f (fr + bb) k - 1) * y; rw [f1, f2]; omega)).cg hN
          · rw [eb_X8_findRange_3, eb_X8_findRange_4]
            clear hbq hbq2 hs hb hmax hmin hN hqk h1no ih e4 x2 y2 l1 l4 l5 q5 q6 q6' f1 f2
            generalize ssum f (fr + bb) k = M at *
            simp (disch := (first | assumption | (unfold i32; omega) | (unfold i64; omega) | omega)) only [↓reduceIte, ki_0, ki_1, ki_2, ki_3, ki_4, ki_5, ki_6, ki_7, ki_8, ki_9, ki_10, ki_11, ki_12, ki_13, ki_14, ki_15, ki_20, ki_21, ki_30, ki_31, ki_40, ki_41, ki_50, ki_51, ki_60, ki_63, ki_64, ki_65, ki_100, ki_158, ki_160, ki_200, ki_212, ki_1000, ki_2000, ki_2001, ki_5000, ki_10000, ki_10001, ki_100000, ki_200000, ki_1000000, ki_2000000, ki_3000000, iO_neg, iO_add, iO_sub, iO_mul, kn_4, kn_8, kn_10, kn_20, kn_24, kn_40, kn_41, kn_50, kn_60, kn_158, kn_160, kn_200, kn_212, kn_2001, tn_lt, fn_lt, tn_le, fn_le, tn_eq, fn_eq, x_lt, x_le, x_eq, x_ix, x_nat, t_lt, f_lt, t_le, f_le, t_eq, f_eq, eq_self, and_self, true_and, and_true, false_and, and_false, if_true, if_false, Int.toNat_natCast, bI_s, bL_s, bA_s, bA_n, bV_s, mq_s, mq_n, en_le, bl_0, bl_1, u_eq, u_ne, w_eq, w_ne, v_eq, v_ne, ↓hp_cc_7, ↓hp_g_7_0, ↓hp_p_7_0, ↓hp_g_7_1, ↓hp_p_7_1, ↓hp_g_7_2, ↓hp_p_7_2, ↓hp_g_7_3, ↓hp_p_7_3, ↓hp_g_7_4, ↓hp_p_7_4, ↓hp_g_7_5, ↓hp_p_7_5, ↓hp_g_7_6, ↓hp_p_7_6, ↓hp_g_7_7, ↓hp_g_7_8, ↓hp_p_7_8, ↓hp_g_7_9, ↓hp_p_7_9, ↓hp_g_7_10, ↓hp_p_7_10, ↓hp_a_8, ↓hp_s_8, ↓hp_l_8, s12, t7, t8]
        · refine ⟨x, y, XI2, (LW.keep q6' (a0 := bb) (k0 := k) h1 (N := fun a' k' => k' = k ∧ a' + k ≤ n) hmin (by omega) (by show (-ssum f (fr + bb) k - 1) * y ≤ -x * (k : Int); rw [f1, f2]; omega)).cg hN, t7, t8, fun _ _ _ => rfl, ?_⟩
          have g : x * (k : Int) ≤ (ssum f (fr + bb) k + 1) * y := by omega
          rw [eb_X8_findRange_3]
          clear hbq hbq2 hs hb hmax hmin hN hqk h1no ih e4 x2 y2 l1 l4 l5 q5 q6 q6' f1 f2
          generalize ssum f (fr + bb) k = M at *
          simp (disch := (first | assumption | (unfold i32; omega) | (unfold i64; omega) | omega)) only [↓reduceIte, ki_0, ki_1, ki_2, ki_3, ki_4, ki_5, ki_6, ki_7, ki_8, ki_9, ki_10, ki_11, ki_12, ki_13, ki_14, ki_15, ki_20, ki_21, ki_30, ki_31, ki_40, ki_41, ki_50, ki_51, ki_60, ki_63, ki_64, ki_65, ki_100, ki_158, ki_160, ki_200, ki_212, ki_1000, ki_2000, ki_2001, ki_5000, ki_10000, ki_10001, ki_100000, ki_200000, ki_1000000, ki_2000000, ki_3000000, iO_neg, iO_add, iO_sub, iO_mul, kn_4, kn_8, kn_10, kn_20, kn_24, kn_40, kn_41, kn_50, kn_60, kn_158, kn_160, kn_200, kn_212, kn_2001, tn_lt, fn_lt, tn_le, fn_le, tn_eq, fn_eq, x_lt, x_le, x_eq, x_ix, x_nat, t_lt, f_lt, t_le, f_le, t_eq, f_eq, eq_self, and_self, true_and, and_true, false_and, and_false, if_true, if_false, Int.toNat_natCast, bI_s, bL_s, bA_s, bA_n, bV_s, mq_s, mq_n, en_le, bl_0, bl_1, u_eq, u_ne, w_eq, w_ne, v_eq, v_ne, ↓hp_cc_7, ↓hp_g_7_0, ↓hp_p_7_0, ↓hp_g_7_1, ↓hp_p_7_1, ↓hp_g_7_2, ↓hp_p_7_2, ↓hp_g_7_3, ↓hp_p_7_3, ↓hp_g_7_4, ↓hp_p_7_4, ↓hp_g_7_5, ↓hp_p_7_5, ↓hp_g_7_6, ↓hp_p_7_6, ↓hp_g_7_7, ↓hp_g_7_8, ↓hp_p_7_8, ↓hp_g_7_9, ↓hp_p_7_9, ↓hp_g_7_10, ↓hp_p_7_10, ↓hp_a_8, ↓hp_s_8, ↓hp_l_8, s12, t7, t8]
    obtain ⟨v, z, XI3, l6, l7, l8, l9, l10⟩ := high
    obtain ⟨XI', u', c', x', y', k1, k2, k3, k4, k5, k6, k7, k8⟩ := ih (k + 1) XI3 p q v z (by rw [l9 11 (by omega) (by omega), l4 11 (by omega) (by omega)]; exact h11') (by omega) (by omega) (Or.inr ⟨by rw [l9 7 (by omega) (by omega)]; exact l2, by rw [l9 8 (by omega) (by omega)]; exact l3, l7, l8, l1, l6⟩)
    refine ⟨XI', u', c', x', y', k1, k2, ?_, k4, k5, k6, k7, fun s hs => by rw [k8 s hs, l9 s (by omega) (by omega), l4 s (by omega) (by omega), e4 s (by omega) (by omega)]⟩
    rw [l5, l10]
    exact k3
end RGX
section RGY
variable {sc : en_S} {n : Nat} {S : ST5}
set_option maxHeartbeats 4000000 in
theorem cs_range (hS : OK5 S) {r a m w : Int} (hr : i32 r) (ha : i32 a) (hm : i32 m) (hw : i32 w) : CS S S (p_range S r a m w) (fun z => f_X11_range sc (n + 40) 1 (iO r) (iO a) (iO m) (iO w) z) := by
  obtain ⟨w1, w2⟩ := id hw
  by_cases gw : 0 ≤ w ∧ w ≤ 3
  · obtain ⟨gw1, gw2⟩ := gw
    unfold p_range
    have hstart : ∀ z : en_H, f_X11_range sc (n + 40) 1 (iO r) (iO a) (iO m) (iO w) z = f_X11_range sc (n + 40) 1 (iO r) (iO a) (iO m) (iO w) z := fun _ => rfl
    cases hq : rowq S r with
    | none =>
      apply cs_ask
      intro XI XA XP XC MI MA ML D Γ hV
      show f_X11_range sc (n + 40) 1 (iO r) (iO a) (iO m) (iO w) _ = _
      rw [e_X11_range]
      have hrow := x_rowAt0 (sc := sc) (n := n + 38) (XC := XC) (MI := MI) (MA := MA) (ML := ML) hV hS hr hq
      rw [if_neg (show ¬ (iO w < 0) from nlt (a := w) (b := 0) hw (by unfold i32; omega) (by omega)), if_neg (show ¬ (3 < iO w) from nlt (a := 3) (b := w) (by unfold i32; omega) hw (by omega)), hp_g_1_4, hp_cc_1, if_pos rfl, hrow, bA_n, hp_cc_7, if_pos rfl, e_X8_read_N1, bI_s, if_pos rfl]
      rfl
    | some q =>
      intro XI XA XP XC MI MA ML D Γ hV
      dsimp only
      obtain ⟨k, rfl, hk, hq2⟩ := rowq_some hq
      have hR := hS.2.2.2.1 q (List.mem_of_getElem? hq2)
      have hsz : q.2.2.1 ≤ 10001 := hR.2.2.2.2.1
      have hva := hR.2.2.2.2.2.1
      obtain ⟨p, g, c1, c2, c3, c4, c5, c6, c7, c8, c9⟩ := hV.2.2.2.2.2.1 k q hq2
      have h9 := (hV.2.2.2.2.2.2.2.2 p g c2).1
      obtain ⟨XI1, XA1, D1, f1, f2, f3, f4, f5, f6⟩ := x_read (sc := sc) c2 h9 n XI XA XP XC MI MA ML D hV.2.2.2.2.2.2.2.2 ha hm
      rw [c7, c8] at f6
      rw [c7] at f1
      have hrow := x_rowAt1 (sc := sc) (n := n + 38) (XC := XC) (MI := MI) (MA := MA) (ML := ML) hV hS hq2 c1
      have hV1 : CV S Γ XI1 XA1 XP D1 := (hV.step f2 f3.2.2.1).scr (fun i hi => f4 i (by omega)) (fun i hi => f5 i (by omega))
      have hGR : GR D D1 := ⟨by rw [f3.1]; omega, by rw [f3.2.1]; omega⟩
      by_cases gg : 1 ≤ m ∧ m ≤ 40 ∧ 0 ≤ a ∧ a + m ≤ (q.2.2.1 : Nat)
      · rw [if_pos gg] at f1
        obtain ⟨u1, u2⟩ := f6 gg
        rw [if_pos (show 0 ≤ w ∧ w ≤ 3 ∧ 1 ≤ m ∧ m ≤ 40 ∧ 0 ≤ a ∧ a + m ≤ (q.2.2.1 : Nat) from ⟨gw1, gw2, gg⟩)]
        obtain ⟨g1, g2, g3, g4⟩ := gg
        obtain ⟨y, rfl⟩ : ∃ y : Nat, m = y := ⟨m.toNat, by omega⟩
        obtain ⟨x, rfl⟩ : ∃ x : Nat, a = x := ⟨a.toNat, by omega⟩
        rw [Int.toNat_natCast] at u2
        rw [Int.toNat_natCast] at u2
        rw [Int.toNat_natCast, Int.toNat_natCast]
        have hb : ∀ a' k', a' + k' ≤ y → 0 ≤ ssum q.2.2.2 (x + a') k' ∧ ssum q.2.2.2 (x + a') k' ≤ 10000 := by
          intro a' k' h'
          obtain ⟨b1, b2⟩ := ssum_b (f := q.2.2.2) (a := x + a') k' (fun i hi => hva i (by omega))
          omega
        obtain ⟨XI2, u', c', x', y', k1, k2, k3, k4, k5, k6, k7, k8⟩ := x_findRange (sc := sc) (d := n + 36) (XP := XP) (XC := XC) (MI := MI) (MA := MA) (ML := ML) (D := D1) (fr := x) (n := y) (f := q.2.2.2) (by omega) (by omega) u2 hb y 1 XI1 0 0 0 0 u1 (by omega) (by omega) (Or.inl rfl)
        have e1 : f_X8_findRange sc (n + 39) 7 (hp XI1 XA1 XP XC MI MA ML D1) = _ := (e_X8_findRange _ _ _ _).trans k3
        have hbq : ∀ (a' k' : Nat), allp y a' k' → 1 ≤ k' ∧ (k' : Int) ≤ 40 ∧ -10000 ≤ ssum q.2.2.2 (x + a') k' ∧ ssum q.2.2.2 (x + a') k' ≤ 10000 := fun a' k' h => by
          have h1 := h.1
          have h2 := h.2
          have := hb a' k' h2
          omega
        have hbq2 : ∀ (a' k' : Nat), allp y a' k' → 1 ≤ k' ∧ (k' : Int) ≤ 40 ∧ -10000 ≤ -ssum q.2.2.2 (x + a') k' ∧ -ssum q.2.2.2 (x + a') k' ≤ 10000 := fun a' k' h => by
          have := hbq a' k' h
          omega
        obtain ⟨b1, b2, b3, b4⟩ := k1.bd (B := 10000) (K := 40) hbq
        obtain ⟨b5, b6, b7, b8⟩ := LW.bd (B := 10000) (K := 40) k2 hbq2
        rw [rng_eq k1 k2 w]
        refine ⟨XI2, XA1, XP, XC, D1, Γ, ?_, hV1.scr k8 (fun _ _ => rfl), hGR⟩
        show f_X11_range sc (n + 40) 1 (iO (k : Int)) (iO (x : Int)) (iO (y : Int)) (iO w) _ = _
        rw [e_X11_range, if_neg (show ¬ (iO w < 0) from nlt (a := w) (b := 0) hw (by unfold i32; omega) (by omega)), if_neg (show ¬ (3 < iO w) from nlt (a := 3) (b := w) (by unfold i32; omega) hw (by omega)), hp_g_1_4, hp_cc_1, if_pos rfl, hrow, bA_s, hp_cc_7, if_pos rfl, f1, bI_s, if_neg (show ¬ iO 1 = 0 by decide), hp_g_1_4, hp_cc_7, if_pos rfl, e1, bI_s]
        obtain ⟨g1, g2⟩ := gcd_le40 (u := u') b3 b4
        obtain ⟨g3, g4⟩ := gcd_le40 (u := x') b7 b8
        have c1 := e_common (sc := sc) (n := n + 37) (a := u') (b := c') (z := hp XI2 XA1 XP XC MI MA ML D1) (by omega) (by omega) (by omega) (by omega)
        have c2 := e_common (sc := sc) (n := n + 37) (a := x') (b := y') (z := hp XI2 XA1 XP XC MI MA ML D1) (by omega) (by omega) (by omega) (by omega)
        have d1 := lO_dvd (u := u') (g := Int.gcd u' c') (by omega) (by omega) g1 (by omega) (Int.gcd_dvd_left u' c')
        have d2 := lO_dvd (u := c') (g := Int.gcd u' c') (by omega) (by omega) g1 (by omega) (Int.gcd_dvd_right u' c')
        have d3 := lO_dvd (u := x') (g := Int.gcd x' y') (by omega) (by omega) g3 (by omega) (Int.gcd_dvd_left x' y')
        have d4 := lO_dvd (u := y') (g := Int.gcd x' y') (by omega) (by omega) g3 (by omega) (Int.gcd_dvd_right x' y')
        unfold rans
        clear hV f1 f2 f3 f4 f5 f6 u2 hva hb hbq hbq2 k1 k2 k3 k8 e1 hV1 hrow hstart
        generalize Int.gcd u' c' = G at *
        generalize Int.gcd x' y' = H at *
        generalize u' / (G : Int) = U at *
        generalize c' / (G : Int) = V at *
        generalize x' / (H : Int) = X at *
        generalize y' / (H : Int) = Y at *
        by_cases gr : u' * y' < x' * c'
        · rw [if_pos gr, if_pos gr, if_neg (show ¬ iO 1 = 0 by decide)]
          rcases (show w = 0 ∨ w = 1 ∨ w = 2 ∨ w = 3 by omega) with rfl | rfl | rfl | rfl
          · simp (disch := (first | assumption | (unfold i32; omega) | (unfold i64; omega) | omega)) only [↓reduceIte, ki_0, ki_1, ki_2, ki_3, ki_4, ki_5, ki_6, ki_7, ki_8, ki_9, ki_10, ki_11, ki_12, ki_13, ki_14, ki_15, ki_20, ki_21, ki_30, ki_31, ki_40, ki_41, ki_50, ki_51, ki_60, ki_63, ki_64, ki_65, ki_100, ki_158, ki_160, ki_200, ki_212, ki_1000, ki_2000, ki_2001, ki_5000, ki_10000, ki_10001, ki_100000, ki_200000, ki_1000000, ki_2000000, ki_3000000, iO_neg, iO_add, iO_sub, iO_mul, kn_4, kn_8, kn_10, kn_20, kn_24, kn_40, kn_41, kn_50, kn_60, kn_158, kn_160, kn_200, kn_212, kn_2001, tn_lt, fn_lt, tn_le, fn_le, tn_eq, fn_eq, x_lt, x_le, x_eq, x_ix, x_nat, t_lt, f_lt, t_le, f_le, t_eq, f_eq, eq_self, and_self, true_and, and_true, false_and, and_false, if_true, if_false, Int.toNat_natCast, bI_s, bL_s, bA_s, bA_n, bV_s, mq_s, mq_n, en_le, bl_0, bl_1, u_eq, u_ne, w_eq, w_ne, v_eq, v_ne, ↓hp_cc_1, ↓hp_g_1_0, ↓hp_g_1_1, ↓hp_g_1_2, ↓hp_g_1_3, ↓hp_g_1_4, ↓hp_g_1_5, ↓hp_g_1_6, ↓hp_g_1_7, ↓hp_g_1_8, ↓hp_p_1_8, ↓hp_g_1_9, ↓hp_p_1_9, ↓hp_g_1_10, ↓hp_p_1_10, ↓hp_a_2, ↓hp_n_2, ↓hp_a_3, ↓hp_n_3, ↓hp_a_4, ↓hp_cc_7, ↓hp_g_7_0, ↓hp_p_7_0, ↓hp_g_7_1, ↓hp_p_7_1, ↓hp_g_7_2, ↓hp_p_7_2, ↓hp_g_7_3, ↓hp_p_7_3, ↓hp_g_7_4, ↓hp_p_7_4, ↓hp_g_7_5, ↓hp_p_7_5, ↓hp_g_7_6, ↓hp_p_7_6, ↓hp_g_7_7, ↓hp_g_7_8, ↓hp_p_7_8, ↓hp_g_7_9, ↓hp_p_7_9, ↓hp_g_7_10, ↓hp_p_7_10, ↓hp_a_8, ↓hp_s_8, ↓hp_l_8, eb_X11_range_4, eb_X11_range_6, k4, k5, k6, k7, iO_wide, c1, kl_0, lc_lt, lc_le, lc_gt, lc_ge, lc_eq, y_lt, y_le, y_eq, d1, lO_narrow]
          · simp (disch := (first | assumption | (unfold i32; omega) | (unfold i64; omega) | omega)) only [↓reduceIte, ki_0, ki_1, ki_2, ki_3, ki_4, ki_5, ki_6, ki_7, ki_8, ki_9, ki_10, ki_11, ki_12, ki_13, ki_14, ki_15, ki_20, ki_21, ki_30, ki_31, ki_40, ki_41, ki_50, ki_51, ki_60, ki_63, ki_64, ki_65, ki_100, ki_158, ki_160, ki_200, ki_212, ki_1000, ki_2000, ki_2001, ki_5000, ki_10000, ki_10001, ki_100000, ki_200000, ki_1000000, ki_2000000, ki_3000000, iO_neg, iO_add, iO_sub, iO_mul, kn_4, kn_8, kn_10, kn_20, kn_24, kn_40, kn_41, kn_50, kn_60, kn_158, kn_160, kn_200, kn_212, kn_2001, tn_lt, fn_lt, tn_le, fn_le, tn_eq, fn_eq, x_lt, x_le, x_eq, x_ix, x_nat, t_lt, f_lt, t_le, f_le, t_eq, f_eq, eq_self, and_self, true_and, and_true, false_and, and_false, if_true, if_false, Int.toNat_natCast, bI_s, bL_s, bA_s, bA_n, bV_s, mq_s, mq_n, en_le, bl_0, bl_1, u_eq, u_ne, w_eq, w_ne, v_eq, v_ne, ↓hp_cc_1, ↓hp_g_1_0, ↓hp_g_1_1, ↓hp_g_1_2, ↓hp_g_1_3, ↓hp_g_1_4, ↓hp_g_1_5, ↓hp_g_1_6, ↓hp_g_1_7, ↓hp_g_1_8, ↓hp_p_1_8, ↓hp_g_1_9, ↓hp_p_1_9, ↓hp_g_1_10, ↓hp_p_1_10, ↓hp_a_2, ↓hp_n_2, ↓hp_a_3, ↓hp_n_3, ↓hp_a_4, ↓hp_cc_7, ↓hp_g_7_0, ↓hp_p_7_0, ↓hp_g_7_1, ↓hp_p_7_1, ↓hp_g_7_2, ↓hp_p_7_2, ↓hp_g_7_3, ↓hp_p_7_3, ↓hp_g_7_4, ↓hp_p_7_4, ↓hp_g_7_5, ↓hp_p_7_5, ↓hp_g_7_6, ↓hp_p_7_6, ↓hp_g_7_7, ↓hp_g_7_8, ↓hp_p_7_8, ↓hp_g_7_9, ↓hp_p_7_9, ↓hp_g_7_10, ↓hp_p_7_10, ↓hp_a_8, ↓hp_s_8, ↓hp_l_8, eb_X11_range_4, eb_X11_range_6, k4, k5, k6, k7, iO_wide, c1, kl_0, lc_lt, lc_le, lc_gt, lc_ge, lc_eq, y_lt, y_le, y_eq, d2, lO_narrow]
          · simp (disch := (first | assumption | (unfold i32; omega) | (unfold i64; omega) | omega)) only [↓reduceIte, ki_0, ki_1, ki_2, ki_3, ki_4, ki_5, ki_6, ki_7, ki_8, ki_9, ki_10, ki_11, ki_12, ki_13, ki_14, ki_15, ki_20, ki_21, ki_30, ki_31, ki_40, ki_41, ki_50, ki_51, ki_60, ki_63, ki_64, ki_65, ki_100, ki_158, ki_160, ki_200, ki_212, ki_1000, ki_2000, ki_2001, ki_5000, ki_10000, ki_10001, ki_100000, ki_200000, ki_1000000, ki_2000000, ki_3000000, iO_neg, iO_add, iO_sub, iO_mul, kn_4, kn_8, kn_10, kn_20, kn_24, kn_40, kn_41, kn_50, kn_60, kn_158, kn_160, kn_200, kn_212, kn_2001, tn_lt, fn_lt, tn_le, fn_le, tn_eq, fn_eq, x_lt, x_le, x_eq, x_ix, x_nat, t_lt, f_lt, t_le, f_le, t_eq, f_eq, eq_self, and_self, true_and, and_true, false_and, and_false, if_true, if_false, Int.toNat_natCast, bI_s, bL_s, bA_s, bA_n, bV_s, mq_s, mq_n, en_le, bl_0, bl_1, u_eq, u_ne, w_eq, w_ne, v_eq, v_ne, ↓hp_cc_1, ↓hp_g_1_0, ↓hp_g_1_1, ↓hp_g_1_2, ↓hp_g_1_3, ↓hp_g_1_4, ↓hp_g_1_5, ↓hp_g_1_6, ↓hp_g_1_7, ↓hp_g_1_8, ↓hp_p_1_8, ↓hp_g_1_9, ↓hp_p_1_9, ↓hp_g_1_10, ↓hp_p_1_10, ↓hp_a_2, ↓hp_n_2, ↓hp_a_3, ↓hp_n_3, ↓hp_a_4, ↓hp_cc_7, ↓hp_g_7_0, ↓hp_p_7_0, ↓hp_g_7_1, ↓hp_p_7_1, ↓hp_g_7_2, ↓hp_p_7_2, ↓hp_g_7_3, ↓hp_p_7_3, ↓hp_g_7_4, ↓hp_p_7_4, ↓hp_g_7_5, ↓hp_p_7_5, ↓hp_g_7_6, ↓hp_p_7_6, ↓hp_g_7_7, ↓hp_g_7_8, ↓hp_p_7_8, ↓hp_g_7_9, ↓hp_p_7_9, ↓hp_g_7_10, ↓hp_p_7_10, ↓hp_a_8, ↓hp_s_8, ↓hp_l_8, eb_X11_range_4, eb_X11_range_6, k4, k5, k6, k7, iO_wide, c2, kl_0, lc_lt, lc_le, lc_gt, lc_ge, lc_eq, y_lt, y_le, y_eq, d3, lO_narrow]
          · simp (disch := (first | assumption | (unfold i32; omega) | (unfold i64; omega) | omega)) only [↓reduceIte, ki_0, ki_1, ki_2, ki_3, ki_4, ki_5, ki_6, ki_7, ki_8, ki_9, ki_10, ki_11, ki_12, ki_13, ki_14, ki_15, ki_20, ki_21, ki_30, ki_31, ki_40, ki_41, ki_50, ki_51, ki_60, ki_63, ki_64, ki_65, ki_100, ki_158, ki_160, ki_200, ki_212, ki_1000, ki_2000, ki_2001, ki_5000, ki_10000, ki_10001, ki_100000, ki_200000, ki_1000000, ki_2000000, ki_3000000, iO_neg, iO_add, iO_sub, iO_mul, kn_4, kn_8, kn_10, kn_20, kn_24, kn_40, kn_41, kn_50, kn_60, kn_158, kn_160, kn_200, kn_212, kn_2001, tn_lt, fn_lt, tn_le, fn_le, tn_eq, fn_eq, x_lt, x_le, x_eq, x_ix, x_nat, t_lt, f_lt, t_le, f_le, t_eq, f_eq, eq_self, and_self, true_and, and_true, false_and, and_false, if_true, if_false, Int.toNat_natCast, bI_s, bL_s, bA_s, bA_n, bV_s, mq_s, mq_n, en_le, bl_0, bl_1, u_eq, u_ne, w_eq, w_ne, v_eq, v_ne, ↓hp_cc_1, ↓hp_g_1_0, ↓hp_g_1_1, ↓hp_g_1_2, ↓hp_g_1_3, ↓hp_g_1_4, ↓hp_g_1_5, ↓hp_g_1_6, ↓hp_g_1_7, ↓hp_g_1_8, ↓hp_p_1_8, ↓hp_g_1_9, ↓hp_p_1_9, ↓hp_g_1_10, ↓hp_p_1_10, ↓hp_a_2, ↓hp_n_2, ↓hp_a_3, ↓hp_n_3, ↓hp_a_4, ↓hp_cc_7, ↓hp_g_7_0, ↓hp_p_7_0, ↓hp_g_7_1, ↓hp_p_7_1, ↓hp_g_7_2, ↓hp_p_7_2, ↓hp_g_7_3, ↓hp_p_7_3, ↓hp_g_7_4, ↓hp_p_7_4, ↓hp_g_7_5, ↓hp_p_7_5, ↓hp_g_7_6, ↓hp_p_7_6, ↓hp_g_7_7, ↓hp_g_7_8, ↓hp_p_7_8, ↓hp_g_7_9, ↓hp_p_7_9, ↓hp_g_7_10, ↓hp_p_7_10, ↓hp_a_8, ↓hp_s_8, ↓hp_l_8, eb_X11_range_4, eb_X11_range_6, k4, k5, k6, k7, iO_wide, c2, kl_0, lc_lt, lc_le, lc_gt, lc_ge, lc_eq, y_lt, y_le, y_eq, d4, lO_narrow]
        · rw [if_neg gr, if_neg gr, if_pos (show iO 0 = 0 from rfl)]
          rfl
      · rw [if_neg gg] at f1
        rw [if_neg (show ¬ (0 ≤ w ∧ w ≤ 3 ∧ 1 ≤ m ∧ m ≤ 40 ∧ 0 ≤ a ∧ a + m ≤ (q.2.2.1 : Nat)) by omega)]
        clear gg f6
        refine ⟨XI1, XA1, XP, XC, D1, Γ, ?_, hV1, hGR⟩
        show f_X11_range sc (n + 40) 1 (iO (k : Int)) (iO a) (iO m) (iO w) _ = _
        rw [e_X11_range, if_neg (show ¬ (iO w < 0) from nlt (a := w) (b := 0) hw (by unfold i32; omega) (by omega)), if_neg (show ¬ (3 < iO w) from nlt (a := 3) (b := w) (by unfold i32; omega) hw (by omega)), hp_g_1_4, hp_cc_1, if_pos rfl, hrow, bA_s, hp_cc_7, if_pos rfl, f1, bI_s, if_pos (show iO 0 = 0 from rfl)]
        rfl
  · have hno : p_range S r a m w = -1000000 := by
      unfold p_range
      cases rowq S r with
      | none => rfl
      | some q => exact if_neg (by omega)
    rw [hno]
    apply cs_ask
    intro XI XA XP XC MI MA ML D Γ hV
    show f_X11_range sc (n + 40) 1 (iO r) (iO a) (iO m) (iO w) _ = _
    rw [e_X11_range]
    by_cases g1 : w < 0
    · rw [if_pos (show iO w < 0 from plt (a := w) (b := 0) hw (by unfold i32; omega) g1)]; rfl
    · rw [if_neg (show ¬ (iO w < 0) from nlt (a := w) (b := 0) hw (by unfold i32; omega) (by omega)), if_pos (show 3 < iO w from plt (a := 3) (b := w) (by unfold i32; omega) hw (by omega))]; rfl
end RGY
