/-! range: the model, the class -/
theorem iO_dvd {u : Int} {g : Nat} (h1 : -20000 ≤ u) (h2 : u ≤ 20000) (hg : 0 < g) (hg2 : g ≤ 20000) (h : (g : Int) ∣ u) : iO u / iO (g : Int) = iO (u / (g : Nat)) := by
  have e : u.tdiv (g : Int) = u / (g : Int) := Int.tdiv_eq_ediv_of_dvd h
  have r := ed_rng (a := u) (b := (g : Int)) (k := 20000) (by omega) (by omega) h1 h2
  rw [iO_div (by unfold i32; omega) (by unfold i32; omega) (by rw [e]; unfold i32; omega), e]
theorem lO_dvd {u : Int} {g : Nat} (h1 : -20000 ≤ u) (h2 : u ≤ 20000) (hg : 0 < g) (hg2 : g ≤ 20000) (h : (g : Int) ∣ u) : lO u / lO (g : Int) = lO (u / (g : Nat)) := by
  have e : u.tdiv (g : Int) = u / (g : Int) := Int.tdiv_eq_ediv_of_dvd h
  have r := ed_rng (a := u) (b := (g : Int)) (k := 20000) (by omega) (by omega) h1 h2
  rw [lO_div (by unfold i64; omega) (by unfold i64; omega) (by rw [e]; unfold i64; omega), e]
theorem gcd_le40 {u d : Int} (h1 : 1 ≤ d) (h2 : d ≤ 40) : 0 < Int.gcd u d ∧ Int.gcd u d ≤ 40 := by
  refine ⟨Int.gcd_pos_of_ne_zero_right u (by omega), ?_⟩
  have : Int.gcd u d ≤ d.natAbs := Nat.gcd_le_right _ (by omega)
  omega
section RGM
variable {sc : en_S} {dd : Nat} {XI : Nat → Int32} {XA : Nat → Nat → Int32} {XP : Nat → Nat → Option Nat} {XC : Value} {MI : Nat → Int32} {MA : Nat → Nat → Int32} {ML : Nat → Nat → Int64} {D : en_H} {r fr n : Nat} {f : Nat → Int} {w : Int}
theorem m_rng4 (hr : r < 10) (hn : n ≤ 40) (hfr : fr + n ≤ 10001) (hf : ∀ i, i < fr + n → MA 7 (10001 * r + i) = iO (f i)) (hb : ∀ a k, a + k ≤ n → 0 ≤ ssum f (fr + a) k ∧ ssum f (fr + a) k ≤ 10000) {a : Nat} (ha : a < n) : ∀ (j k : Nat) (u d x y fst : Int), a + k + j = n + 1 → 1 ≤ k → ((fst = 1 ∧ a = 0 ∧ k = 1 ∧ u = -1 ∧ d = 1 ∧ x = 0 ∧ y = 0) ∨ (fst = 0 ∧ LW (fun a k => ssum f (fr + a) k) (bef n a k) u d ∧ HG (fun a k => ssum f (fr + a) k) (bef n a k) x y)) →
    ∃ u' d' x' y', LW (fun a k => ssum f (fr + a) k) (bef n (a + 1) 1) u' d' ∧ HG (fun a k => ssum f (fr + a) k) (bef n (a + 1) 1) x' y' ∧ b_X12_range_4 sc (dd + 1) 26 (iO (r : Int)) (iO (fr : Int)) (iO (n : Int)) (iO w) (iO u) (iO d) (iO x) (iO y) (iO fst) (iO (a : Int)) (iO (k : Int)) (hp XI XA XP XC MI MA ML D) = b_X12_range_3 sc (dd + 1) 26 (iO (r : Int)) (iO (fr : Int)) (iO (n : Int)) (iO w) (iO u') (iO d') (iO x') (iO y') (iO 0) (iO ((a : Int) + 1)) (hp XI XA XP XC MI MA ML D) := by
  intro j
  induction j with
  | zero =>
    intro k u d x y fst hk h1 hst
    rcases hst with ⟨-, h2, h3, -⟩ | ⟨rfl, h2, h3⟩
    · omega
    · have hcg : ∀ a' k', bef n a k a' k' ↔ bef n (a + 1) 1 a' k' := fun a' k' => ⟨fun h => ⟨h.1, h.2.1, by have := h.2.2; omega⟩, fun h => ⟨h.1, h.2.1, by have := h.1; have := h.2.1; have := h.2.2; omega⟩⟩
      refine ⟨u, d, x, y, h2.cg hcg, LW.cg h3 hcg, ?_⟩
      rw [eb_X12_range_4]
      clear hf hb h2 h3 hcg
      simp (disch := (first | assumption | (unfold i32; omega) | (unfold i64; omega) | omega)) only [↓reduceIte, ki_0, ki_1, ki_2, ki_3, ki_4, ki_5, ki_6, ki_7, ki_8, ki_9, ki_10, ki_11, ki_12, ki_13, ki_14, ki_15, ki_20, ki_21, ki_30, ki_31, ki_40, ki_41, ki_50, ki_51, ki_60, ki_63, ki_64, ki_65, ki_100, ki_158, ki_160, ki_200, ki_212, ki_1000, ki_2000, ki_2001, ki_5000, ki_10000, ki_10001, ki_100000, ki_200000, ki_1000000, ki_2000000, ki_3000000, iO_neg, iO_add, iO_sub, iO_mul, kn_4, kn_8, kn_10, kn_20, kn_24, kn_40, kn_41, kn_50, kn_60, kn_158, kn_160, kn_200, kn_212, kn_2001, tn_lt, fn_lt, tn_le, fn_le, tn_eq, fn_eq, x_lt, x_le, x_eq, x_ix, x_nat, t_lt, f_lt, t_le, f_le, t_eq, f_eq, eq_self, and_self, true_and, and_true, false_and, and_false, if_true, if_false, Int.toNat_natCast, bI_s, bL_s, bA_s, bA_n, bV_s, mq_s, mq_n, en_le, bl_0, bl_1, u_eq, u_ne, w_eq, w_ne, v_eq, v_ne]
  | succ j ih =>
    intro k u d x y fst hk h1 hst
    have s1 := m_sumOf (sc := sc) (n := dd) (XI := XI) (XA := XA) (XP := XP) (XC := XC) (MI := MI) (MA := MA) (ML := ML) (D := D) (r := r) (a := fr + a) (k := k) (f := f) hr (by omega) (fun i hi => hf i (by omega))
    rw [show ((fr + a : Nat) : Int) = (fr : Int) + (a : Int) by omega] at s1
    obtain ⟨u1, u2⟩ := hb a k (by omega)
    have hN : ∀ a' k', (bef n a k a' k' ∨ (a' = a ∧ k' = k)) ↔ bef n a (k + 1) a' k' := fun a' k' => ⟨fun h => by
      rcases h with h | h
      · exact ⟨h.1, h.2.1, by have := h.2.2; omega⟩
      · exact ⟨by omega, by omega, by omega⟩, fun h => by
      have h1 := h.1
      have h2 := h.2.1
      have h3 := h.2.2
      by_cases e : a' = a ∧ k' = k
      · exact Or.inr e
      · exact Or.inl ⟨h1, h2, by omega⟩⟩
    have hone : ∀ (t : Nat → Nat → Int) (a' k' : Nat), (a' = a ∧ k' = k) → (t a' k' - 1) * (k : Int) ≤ (t a k - 1) * (k' : Int) := fun t a' k' h => by rw [h.1, h.2]; exact Int.le_refl _
    have hqk : ∀ a' k', bef n a k a' k' → 1 ≤ k' := fun a' k' h => h.1
    have hbq : ∀ a' k', bef n a k a' k' → 1 ≤ k' ∧ (k' : Int) ≤ 40 ∧ -10000 ≤ ssum f (fr + a') k' ∧ ssum f (fr + a') k' ≤ 10000 := fun a' k' h => by
      have h1 := h.1
      have h2 := h.2.1
      have := hb a' k' h2
      omega
    have hbq2 : ∀ a' k', bef n a k a' k' → 1 ≤ k' ∧ (k' : Int) ≤ 40 ∧ -10000 ≤ -ssum f (fr + a') k' ∧ -ssum f (fr + a') k' ≤ 10000 := fun a' k' h => by
      have := hbq a' k' h
      omega
    -- the lower fraction
    have low : ∃ p q, LW (fun a k => ssum f (fr + a) k) (bef n a (k + 1)) p q ∧ b_X12_range_4 sc (dd + 1) 26 (iO (r : Int)) (iO (fr : Int)) (iO (n : Int)) (iO w) (iO u) (iO d) (iO x) (iO y) (iO fst) (iO (a : Int)) (iO (k : Int)) (hp XI XA XP XC MI MA ML D) = b_X12_range_6 sc (dd + 1) 26 (iO (r : Int)) (iO (fr : Int)) (iO (n : Int)) (iO w) (iO p) (iO q) (iO x) (iO y) (iO fst) (iO (a : Int)) (iO (k : Int)) (iO (ssum f (fr + a) k)) (hp XI XA XP XC MI MA ML D) := by
      rcases hst with ⟨h2, h3, h4, -⟩ | ⟨h2, h3, h4⟩
      · refine ⟨ssum f (fr + a) k - 1, k, ?_, ?_⟩
        · refine LW.cg (LW.one (t := fun a k => ssum f (fr + a) k) (N := fun a' k' => a' = a ∧ k' = k) ⟨rfl, rfl⟩ (hone _)) (fun a' k' => ?_)
          rw [← hN]
          exact ⟨Or.inr, fun h => h.resolve_left (fun q => by have := q.1; have := q.2.2; omega)⟩
        · rw [eb_X12_range_4]
          subst h2
          generalize ssum f (fr + a) k = s at *
          clear hf hb hN hone hqk hbq hbq2 ih h3 h4
          simp (disch := (first | assumption | (unfold i32; omega) | (unfold i64; omega) | omega)) only [↓reduceIte, ki_0, ki_1, ki_2, ki_3, ki_4, ki_5, ki_6, ki_7, ki_8, ki_9, ki_10, ki_11, ki_12, ki_13, ki_14, ki_15, ki_20, ki_21, ki_30, ki_31, ki_40, ki_41, ki_50, ki_51, ki_60, ki_63, ki_64, ki_65, ki_100, ki_158, ki_160, ki_200, ki_212, ki_1000, ki_2000, ki_2001, ki_5000, ki_10000, ki_10001, ki_100000, ki_200000, ki_1000000, ki_2000000, ki_3000000, iO_neg, iO_add, iO_sub, iO_mul, kn_4, kn_8, kn_10, kn_20, kn_24, kn_40, kn_41, kn_50, kn_60, kn_158, kn_160, kn_200, kn_212, kn_2001, tn_lt, fn_lt, tn_le, fn_le, tn_eq, fn_eq, x_lt, x_le, x_eq, x_ix, x_nat, t_lt, f_lt, t_le, f_le, t_eq, f_eq, eq_self, and_self, true_and, and_true, false_and, and_false, if_true, if_false, Int.toNat_natCast, bI_s, bL_s, bA_s, bA_n, bV_s, mq_s, mq_n, en_le, bl_0, bl_1, u_eq, u_ne, w_eq, w_ne, v_eq, v_ne, ↓hp_cc_26, ↓hp_g_26_0, ↓hp_p_26_0, ↓hp_g_26_1, ↓hp_p_26_1, ↓hp_g_26_2, ↓hp_p_26_2, ↓hp_g_26_3, ↓hp_g_26_4, ↓hp_g_26_5, ↓hp_g_26_6, ↓hp_g_26_7, ↓hp_g_26_8, ↓hp_g_26_9, ↓hp_g_26_10, ↓hp_g_26_11, ↓hp_g_26_12, ↓hp_g_26_13, ↓hp_g_26_14, ↓hp_g_26_15, ↓hp_p_26_15, ↓hp_g_26_16, ↓hp_g_26_17, ↓hp_g_26_18, ↓hp_p_26_18, ↓hp_g_26_19, ↓hp_p_26_19, ↓hp_g_26_20, ↓hp_g_26_21, ↓hp_p_26_21, ↓hp_g_26_22, ↓hp_g_26_23, ↓hp_g_26_24, ↓hp_g_26_25, ↓hp_g_26_26, ↓hp_g_26_27, ↓hp_g_26_28, ↓hp_g_26_29, ↓hp_g_26_30, ↓hp_p_26_30, ↓hp_g_26_31, ↓hp_g_26_32, ↓hp_p_26_32, ↓hp_a_27, ↓hp_s_27, ↓hp_l_27, ↓hp_a_28, ↓hp_s_28, ↓hp_l_28, ↓hp_a_29, ↓hp_s_29, ↓hp_l_29, ↓hp_a_30, ↓hp_s_30, ↓hp_l_30, ↓hp_a_31, ↓hp_s_31, ↓hp_l_31, ↓hp_a_32, ↓hp_s_32, ↓hp_l_32, ↓hp_a_33, ↓hp_s_33, ↓hp_l_33, ↓hp_a_34, ↓hp_s_34, ↓hp_l_34, ↓hp_a_35, ↓hp_s_35, ↓hp_l_35, ↓hp_a_36, ↓hp_s_36, ↓hp_l_36, ↓hp_a_37, ↓hp_s_37, ↓hp_l_37, ↓hp_a_38, ↓hp_s_38, ↓hp_l_38, ↓hp_a_39, ↓hp_s_39, ↓hp_a_40, ↓hp_s_40, ↓hp_a_41, ↓hp_s_41, ↓hp_l_41, ↓hp_a_42, ↓hp_s_42, ↓hp_l_42, ↓hp_a_43, ↓hp_s_43, ↓hp_l_43, ↓hp_a_44, ↓hp_s_44, ↓hp_l_44, ↓hp_a_45, ↓hp_s_45, ↓hp_l_45, ↓hp_a_46, ↓hp_s_46, ↓hp_l_46, ↓hp_a_47, ↓hp_s_47, ↓hp_l_47, ↓hp_a_48, ↓hp_s_48, ↓hp_l_48, ↓hp_a_49, ↓hp_s_49, ↓hp_l_49, ↓hp_a_50, ↓hp_s_50, ↓hp_l_50, s1]
      · obtain ⟨b1, b2, b3, b4⟩ := h3.bd (B := 10000) (K := 40) hbq
        have m1 := mul_bd (x := ssum f (fr + a) k - 1) (y := d) (a := 10001) (b := 40) (by omega) (by omega) (by omega) (by omega)
        have m2 := mul_bd (x := u) (y := (k : Int)) (a := 10001) (b := 40) (by omega) (by omega) (by omega) (by omega)
        by_cases g : u * (k : Int) < (ssum f (fr + a) k - 1) * d
        · refine ⟨ssum f (fr + a) k - 1, k, (LW.up h3 (N := fun a' k' => a' = a ∧ k' = k) ⟨rfl, rfl⟩ (hone _) hqk g).cg hN, ?_⟩
          rw [eb_X12_range_4]
          subst h2
          generalize ssum f (fr + a) k = s at *
          clear hf hb hN hone hqk hbq hbq2 ih h3 h4
          simp (disch := (first | assumption | (unfold i32; omega) | (unfold i64; omega) | omega)) only [↓reduceIte, ki_0, ki_1, ki_2, ki_3, ki_4, ki_5, ki_6, ki_7, ki_8, ki_9, ki_10, ki_11, ki_12, ki_13, ki_14, ki_15, ki_20, ki_21, ki_30, ki_31, ki_40, ki_41, ki_50, ki_51, ki_60, ki_63, ki_64, ki_65, ki_100, ki_158, ki_160, ki_200, ki_212, ki_1000, ki_2000, ki_2001, ki_5000, ki_10000, ki_10001, ki_100000, ki_200000, ki_1000000, ki_2000000, ki_3000000, iO_neg, iO_add, iO_sub, iO_mul, kn_4, kn_8, kn_10, kn_20, kn_24, kn_40, kn_41, kn_50, kn_60, kn_158, kn_160, kn_200, kn_212, kn_2001, tn_lt, fn_lt, tn_le, fn_le, tn_eq, fn_eq, x_lt, x_le, x_eq, x_ix, x_nat, t_lt, f_lt, t_le, f_le, t_eq, f_eq, eq_self, and_self, true_and, and_true, false_and, and_false, if_true, if_false, Int.toNat_natCast, bI_s, bL_s, bA_s, bA_n, bV_s, mq_s, mq_n, en_le, bl_0, bl_1, u_eq, u_ne, w_eq, w_ne, v_eq, v_ne, ↓hp_cc_26, ↓hp_g_26_0, ↓hp_p_26_0, ↓hp_g_26_1, ↓hp_p_26_1, ↓hp_g_26_2, ↓hp_p_26_2, ↓hp_g_26_3, ↓hp_g_26_4, ↓hp_g_26_5, ↓hp_g_26_6, ↓hp_g_26_7, ↓hp_g_26_8, ↓hp_g_26_9, ↓hp_g_26_10, ↓hp_g_26_11, ↓hp_g_26_12, ↓hp_g_26_13, ↓hp_g_26_14, ↓hp_g_26_15, ↓hp_p_26_15, ↓hp_g_26_16, ↓hp_g_26_17, ↓hp_g_26_18, ↓hp_p_26_18, ↓hp_g_26_19, ↓hp_p_26_19, ↓hp_g_26_20, ↓hp_g_26_21, ↓hp_p_26_21, ↓hp_g_26_22, ↓hp_g_26_23, ↓hp_g_26_24, ↓hp_g_26_25, ↓hp_g_26_26, ↓hp_g_26_27, ↓hp_g_26_28, ↓hp_g_26_29, ↓hp_g_26_30, ↓hp_p_26_30, ↓hp_g_26_31, ↓hp_g_26_32, ↓hp_p_26_32, ↓hp_a_27, ↓hp_s_27, ↓hp_l_27, ↓hp_a_28, ↓hp_s_28, ↓hp_l_28, ↓hp_a_29, ↓hp_s_29, ↓hp_l_29, ↓hp_a_30, ↓hp_s_30, ↓hp_l_30, ↓hp_a_31, ↓hp_s_31, ↓hp_l_31, ↓hp_a_32, ↓hp_s_32, ↓hp_l_32, ↓hp_a_33, ↓hp_s_33, ↓hp_l_33, ↓hp_a_34, ↓hp_s_34, ↓hp_l_34, ↓hp_a_35, ↓hp_s_35, ↓hp_l_35, ↓hp_a_36, ↓hp_s_36, ↓hp_l_36, ↓hp_a_37, ↓hp_s_37, ↓hp_l_37, ↓hp_a_38, ↓hp_s_38, ↓hp_l_38, ↓hp_a_39, ↓hp_s_39, ↓hp_a_40, ↓hp_s_40, ↓hp_a_41, ↓hp_s_41, ↓hp_l_41, ↓hp_a_42, ↓hp_s_42, ↓hp_l_42, ↓hp_a_43, ↓hp_s_43, ↓hp_l_43, ↓hp_a_44, ↓hp_s_44, ↓hp_l_44, ↓hp_a_45, ↓hp_s_45, ↓hp_l_45, ↓hp_a_46, ↓hp_s_46, ↓hp_l_46, ↓hp_a_47, ↓hp_s_47, ↓hp_l_47, ↓hp_a_48, ↓hp_s_48, ↓hp_l_48, ↓hp_a_49, ↓hp_s_49, ↓hp_l_49, ↓hp_a_50, ↓hp_s_50, ↓hp_l_50, s1]
        · refine ⟨u, d, (LW.keep (a0 := a) (k0 := k) h3 h1 (N := fun a' k' => a' = a ∧ k' = k) (hone _) (by omega) (by show (ssum f (fr + a) k - 1) * d ≤ _; omega)).cg hN, ?_⟩
          rw [eb_X12_range_4]
          subst h2
          generalize ssum f (fr + a) k = s at *
          clear hf hb hN hone hqk hbq hbq2 ih h3 h4
          simp (disch := (first | assumption | (unfold i32; omega) | (unfold i64; omega) | omega)) only [↓reduceIte, ki_0, ki_1, ki_2, ki_3, ki_4, ki_5, ki_6, ki_7, ki_8, ki_9, ki_10, ki_11, ki_12, ki_13, ki_14, ki_15, ki_20, ki_21, ki_30, ki_31, ki_40, ki_41, ki_50, ki_51, ki_60, ki_63, ki_64, ki_65, ki_100, ki_158, ki_160, ki_200, ki_212, ki_1000, ki_2000, ki_2001, ki_5000, ki_10000, ki_10001, ki_100000, ki_200000, ki_1000000, ki_2000000, ki_3000000, iO_neg, iO_add, iO_sub, iO_mul, kn_4, kn_8, kn_10, kn_20, kn_24, kn_40, kn_41, kn_50, kn_60, kn_158, kn_160, kn_200, kn_212, kn_2001, tn_lt, fn_lt, tn_le, fn_le, tn_eq, fn_eq, x_lt, x_le, x_eq, x_ix, x_nat, t_lt, f_lt, t_le, f_le, t_eq, f_eq, eq_self, and_self, true_and, and_true, false_and, and_false, if_true, if_false, Int.toNat_natCast, bI_s, bL_s, bA_s, bA_n, bV_s, mq_s, mq_n, en_le, bl_0, bl_1, u_eq, u_ne, w_eq, w_ne, v_eq, v_ne, ↓hp_cc_26, ↓hp_g_26_0, ↓hp_p_26_0, ↓hp_g_26_1, ↓hp_p_26_1, ↓hp_g_26_2, ↓hp_p_26_2, ↓hp_g_26_3, ↓hp_g_26_4, ↓hp_g_26_5, ↓hp_g_26_6, ↓hp_g_26_7, ↓hp_g_26_8, ↓hp_g_26_9, ↓hp_g_26_10, ↓hp_g_26_11, ↓hp_g_26_12, ↓hp_g_26_13, ↓hp_g_26_14, ↓hp_g_26_15, ↓hp_p_26_15, ↓hp_g_26_16, ↓hp_g_26_17, ↓hp_g_26_18, ↓hp_p_26_18, ↓hp_g_26_19, ↓hp_p_26_19, ↓hp_g_26_20, ↓hp_g_26_21, ↓hp_p_26_21, ↓hp_g_26_22, ↓hp_g_26_23, ↓hp_g_26_24, ↓hp_g_26_25, ↓hp_g_26_26, ↓hp_g_26_27, ↓hp_g_26_28, ↓hp_g_26_29, ↓hp_g_26_30, ↓hp_p_26_30, ↓hp_g_26_31, ↓hp_g_26_32, ↓hp_p_26_32, ↓hp_a_27, ↓hp_s_27, ↓hp_l_27, ↓hp_a_28, ↓hp_s_28, ↓hp_l_28, ↓hp_a_29, ↓hp_s_29, ↓hp_l_29, ↓hp_a_30, ↓hp_s_30, ↓hp_l_30, ↓hp_a_31, ↓hp_s_31, ↓hp_l_31, ↓hp_a_32, ↓hp_s_32, ↓hp_l_32, ↓hp_a_33, ↓hp_s_33, ↓hp_l_33, ↓hp_a_34, ↓hp_s_34, ↓hp_l_34, ↓hp_a_35, ↓hp_s_35, ↓hp_l_35, ↓hp_a_36, ↓hp_s_36, ↓hp_l_36, ↓hp_a_37, ↓hp_s_37, ↓hp_l_37, ↓hp_a_38, ↓hp_s_38, ↓hp_l_38, ↓hp_a_39, ↓hp_s_39, ↓hp_a_40, ↓hp_s_40, ↓hp_a_41, ↓hp_s_41, ↓hp_l_41, ↓hp_a_42, ↓hp_s_42, ↓hp_l_42, ↓hp_a_43, ↓hp_s_43, ↓hp_l_43, ↓hp_a_44, ↓hp_s_44, ↓hp_l_44, ↓hp_a_45, ↓hp_s_45, ↓hp_l_45, ↓hp_a_46, ↓hp_s_46, ↓hp_l_46, ↓hp_a_47, ↓hp_s_47, ↓hp_l_47, ↓hp_a_48, ↓hp_s_48, ↓hp_l_48, ↓hp_a_49, ↓hp_s_49, ↓hp_l_49, ↓hp_a_50, ↓hp_s_50, ↓hp_l_50, s1]
    obtain ⟨p, q, l1, l2⟩ := low
    -- the upper one
    have high : ∃ v z, HG (fun a k => ssum f (fr + a) k) (bef n a (k + 1)) v z ∧ b_X12_range_6 sc (dd + 1) 26 (iO (r : Int)) (iO (fr : Int)) (iO (n : Int)) (iO w) (iO p) (iO q) (iO x) (iO y) (iO fst) (iO (a : Int)) (iO (k : Int)) (iO (ssum f (fr + a) k)) (hp XI XA XP XC MI MA ML D) = b_X12_range_4 sc (dd + 1) 26 (iO (r : Int)) (iO (fr : Int)) (iO (n : Int)) (iO w) (iO p) (iO q) (iO v) (iO z) (iO 0) (iO (a : Int)) (iO ((k : Int) + 1)) (hp XI XA XP XC MI MA ML D) := by
      have eneg : ∀ s : Int, -(s + 1) = -s - 1 := fun s => by omega
      rcases hst with ⟨h2, h3, h4, -⟩ | ⟨h2, h3, h4⟩
      · refine ⟨ssum f (fr + a) k + 1, k, ?_, ?_⟩
        · unfold HG
          rw [eneg]
          refine LW.cg (LW.one (t := fun a k => -ssum f (fr + a) k) (N := fun a' k' => a' = a ∧ k' = k) ⟨rfl, rfl⟩ (hone _)) (fun a' k' => ?_)
          rw [← hN]
          exact ⟨Or.inr, fun h => h.resolve_left (fun q => by have := q.1; have := q.2.2; omega)⟩
        · rw [eb_X12_range_6, eb_X12_range_7]
          subst h2
          generalize ssum f (fr + a) k = s at *
          clear hf hb hN hone hqk hbq hbq2 ih h3 h4 l1 l2
          simp (disch := (first | assumption | (unfold i32; omega) | (unfold i64; omega) | omega)) only [↓reduceIte, ki_0, ki_1, ki_2, ki_3, ki_4, ki_5, ki_6, ki_7, ki_8, ki_9, ki_10, ki_11, ki_12, ki_13, ki_14, ki_15, ki_20, ki_21, ki_30, ki_31, ki_40, ki_41, ki_50, ki_51, ki_60, ki_63, ki_64, ki_65, ki_100, ki_158, ki_160, ki_200, ki_212, ki_1000, ki_2000, ki_2001, ki_5000, ki_10000, ki_10001, ki_100000, ki_200000, ki_1000000, ki_2000000, ki_3000000, iO_neg, iO_add, iO_sub, iO_mul, kn_4, kn_8, kn_10, kn_20, kn_24, kn_40, kn_41, kn_50, kn_60, kn_158, kn_160, kn_200, kn_212, kn_2001, tn_lt, fn_lt, tn_le, fn_le, tn_eq, fn_eq, x_lt, x_le, x_eq, x_ix, x_nat, t_lt, f_lt, t_le, f_le, t_eq, f_eq, eq_self, and_self, true_and, and_true, false_and, and_false, if_true, if_false, Int.toNat_natCast, bI_s, bL_s, bA_s, bA_n, bV_s, mq_s, mq_n, en_le, bl_0, bl_1, u_eq, u_ne, w_eq, w_ne, v_eq, v_ne]
      · have h4' : LW (fun a k => -ssum f (fr + a) k) (bef n a k) (-x) y := h4
        obtain ⟨b1, b2, b3, b4⟩ := LW.bd (B := 10000) (K := 40) h4' hbq2
        have m1 := mul_bd (x := ssum f (fr + a) k + 1) (y := y) (a := 10001) (b := 40) (by omega) (by omega) (by omega) (by omega)
        have m2 := mul_bd (x := x) (y := (k : Int)) (a := 10001) (b := 40) (by omega) (by omega) (by omega) (by omega)
        have e1 : (-ssum f (fr + a) k - 1) * y = -((ssum f (fr + a) k + 1) * y) := by rw [← eneg, Int.neg_mul]
        have e2 : -x * (k : Int) = -(x * (k : Int)) := Int.neg_mul _ _
        by_cases g : (ssum f (fr + a) k + 1) * y < x * (k : Int)
        · refine ⟨ssum f (fr + a) k + 1, k, ?_, ?_⟩
          · unfold HG
            rw [eneg]
            exact (LW.up h4' (a0 := a) (k0 := k) (N := fun a' k' => a' = a ∧ k' = k) ⟨rfl, rfl⟩ (hone _) hqk (by show -x * (k : Int) < (-ssum f (fr + a) k - 1) * y; rw [e1, e2]; omega)).cg hN
          · rw [eb_X12_range_6, eb_X12_range_7]
            subst h2
            clear e1 e2
            generalize ssum f (fr + a) k = s at *
            clear hf hb hN hone hqk hbq hbq2 ih h3 h4 h4' l1 l2
            simp (disch := (first | assumption | (unfold i32; omega) | (unfold i64; omega) | omega)) only [↓reduceIte, ki_0, ki_1, ki_2, ki_3, ki_4, ki_5, ki_6, ki_7, ki_8, ki_9, ki_10, ki_11, ki_12, ki_13, ki_14, ki_15, ki_20, ki_21, ki_30, ki_31, ki_40, ki_41, ki_50, ki_51, ki_60, ki_63, ki_64, ki_65, ki_100, ki_158, ki_160, ki_200, ki_212, ki_1000, ki_2000, ki_2001, ki_5000, ki_10000, ki_10001, ki_100000, ki_200000, ki_1000000, ki_2000000, ki_3000000, iO_neg, iO_add, iO_sub, iO_mul, kn_4, kn_8, kn_10, kn_20, kn_24, kn_40, kn_41, kn_50, kn_60, kn_158, kn_160, kn_200, kn_212, kn_2001, tn_lt, fn_lt, tn_le, fn_le, tn_eq, fn_eq, x_lt, x_le, x_eq, x_ix, x_nat, t_lt, f_lt, t_le, f_le, t_eq, f_eq, eq_self, and_self, true_and, and_true, false_and, and_false, if_true, if_false, Int.toNat_natCast, bI_s, bL_s, bA_s, bA_n, bV_s, mq_s, mq_n, en_le, bl_0, bl_1, u_eq, u_ne, w_eq, w_ne, v_eq, v_ne]
        · refine ⟨x, y, (LW.keep (a0 := a) (k0 := k) h4' h1 (N := fun a' k' => a' = a ∧ k' = k) (hone _) (by omega) (by show (-ssum f (fr + a) k - 1) * y ≤ -x * (k : Int); rw [e1, e2]; omega)).cg hN, ?_⟩
          rw [eb_X12_range_6]
          subst h2
          clear e1 e2
          generalize ssum f (fr + a) k = s at *
          clear hf hb hN hone hqk hbq hbq2 ih h3 h4 h4' l1 l2
          simp (disch := (first | assumption | (unfold i32; omega) | (unfold i64; omega) | omega)) only [↓reduceIte, ki_0, ki_1, ki_2, ki_3, ki_4, ki_5, ki_6, ki_7, ki_8, ki_9, ki_10, ki_11, ki_12, ki_13, ki_14, ki_15, ki_20, ki_21, ki_30, ki_31, ki_40, ki_41, ki_50, ki_51, ki_60, ki_63, ki_64, ki_65, ki_100, ki_158, ki_160, ki_200, ki_212, ki_1000, ki_2000, ki_2001, ki_5000, ki_10000, ki_10001, ki_100000, ki_200000, ki_1000000, ki_2000000, ki_3000000, iO_neg, iO_add, iO_sub, iO_mul, kn_4, kn_8, kn_10, kn_20, kn_24, kn_40, kn_41, kn_50, kn_60, kn_158, kn_160, kn_200, kn_212, kn_2001, tn_lt, fn_lt, tn_le, fn_le, tn_eq, fn_eq, x_lt, x_le, x_eq, x_ix, x_nat, t_lt, f_lt, t_le, f_le, t_eq, f_eq, eq_self, and_self, true_and, and_true, false_and, and_false, if_true, if_false, Int.toNat_natCast, bI_s, bL_s, bA_s, bA_n, bV_s, mq_s, mq_n, en_le, bl_0, bl_1, u_eq, u_ne, w_eq, w_ne, v_eq, v_ne]
    obtain ⟨v, z, l3, l4⟩ := high
    obtain ⟨u', d', x', y', k1, k2, k3⟩ := ih (k + 1) p q v z 0 (by omega) (by omega) (Or.inr ⟨rfl, l1, l3⟩)
    refine ⟨u', d', x', y', k1, k2, ?_⟩
    rw [l2, l4]
    exact k3
theorem m_rng_end (hw : 0 ≤ w) (hw2 : w ≤ 3) (hn : n ≤ 40) {u d x y : Int} (b1 : -10001 ≤ u) (b2 : u ≤ 10001) (b3 : 1 ≤ d) (b4 : d ≤ 40) (b5 : -10001 ≤ x) (b6 : x ≤ 10001) (b7 : 1 ≤ y) (b8 : y ≤ 40) {fst : Int32} : b_X12_range_3 sc (dd + 1) 26 (iO (r : Int)) (iO (fr : Int)) (iO (n : Int)) (iO w) (iO u) (iO d) (iO x) (iO y) fst (iO (n : Int)) (hp XI XA XP XC MI MA ML D) = some (some (.int (iO (rans u d x y w))), hp XI XA XP XC MI MA ML D) := by
  obtain ⟨g1, g2⟩ := gcd_le40 (u := u) b3 b4
  obtain ⟨g3, g4⟩ := gcd_le40 (u := x) b7 b8
  have c1 := m_common (sc := sc) (n := dd) (a := u) (b := d) (z := hp XI XA XP XC MI MA ML D) (by omega) (by omega) (by omega) (by omega)
  have c2 := m_common (sc := sc) (n := dd) (a := x) (b := y) (z := hp XI XA XP XC MI MA ML D) (by omega) (by omega) (by omega) (by omega)
  have d1 := iO_dvd (u := u) (g := Int.gcd u d) (by omega) (by omega) g1 (by omega) (Int.gcd_dvd_left u d)
  have d2 := iO_dvd (u := d) (g := Int.gcd u d) (by omega) (by omega) g1 (by omega) (Int.gcd_dvd_right u d)
  have d3 := iO_dvd (u := x) (g := Int.gcd x y) (by omega) (by omega) g3 (by omega) (Int.gcd_dvd_left x y)
  have d4 := iO_dvd (u := y) (g := Int.gcd x y) (by omega) (by omega) g3 (by omega) (Int.gcd_dvd_right x y)
  have m1 := mul_bd (x := u) (y := y) (a := 10001) (b := 40) (by omega) (by omega) (by omega) (by omega)
  have m2 := mul_bd (x := x) (y := d) (a := 10001) (b := 40) (by omega) (by omega) (by omega) (by omega)
  rw [eb_X12_range_3]
  unfold rans
  generalize Int.gcd u d = G at *
  generalize Int.gcd x y = H at *
  generalize u / (G : Int) = U at *
  generalize d / (G : Int) = V at *
  generalize x / (H : Int) = X at *
  generalize y / (H : Int) = Y at *
  by_cases g : u * y < x * d
  · rw [if_pos g]
    rcases (show w = 0 ∨ w = 1 ∨ w = 2 ∨ w = 3 by omega) with rfl | rfl | rfl | rfl
    · simp (disch := (first | assumption | (unfold i32; omega) | (unfold i64; omega) | omega)) only [↓reduceIte, ki_0, ki_1, ki_2, ki_3, ki_4, ki_5, ki_6, ki_7, ki_8, ki_9, ki_10, ki_11, ki_12, ki_13, ki_14, ki_15, ki_20, ki_21, ki_30, ki_31, ki_40, ki_41, ki_50, ki_51, ki_60, ki_63, ki_64, ki_65, ki_100, ki_158, ki_160, ki_200, ki_212, ki_1000, ki_2000, ki_2001, ki_5000, ki_10000, ki_10001, ki_100000, ki_200000, ki_1000000, ki_2000000, ki_3000000, iO_neg, iO_add, iO_sub, iO_mul, kn_4, kn_8, kn_10, kn_20, kn_24, kn_40, kn_41, kn_50, kn_60, kn_158, kn_160, kn_200, kn_212, kn_2001, tn_lt, fn_lt, tn_le, fn_le, tn_eq, fn_eq, x_lt, x_le, x_eq, x_ix, x_nat, t_lt, f_lt, t_le, f_le, t_eq, f_eq, eq_self, and_self, true_and, and_true, false_and, and_false, if_true, if_false, Int.toNat_natCast, bI_s, bL_s, bA_s, bA_n, bV_s, mq_s, mq_n, en_le, bl_0, bl_1, u_eq, u_ne, w_eq, w_ne, v_eq, v_ne, iO_wide, c1, c2, lO_narrow, d1]
    · simp (disch := (first | assumption | (unfold i32; omega) | (unfold i64; omega) | omega)) only [↓reduceIte, ki_0, ki_1, ki_2, ki_3, ki_4, ki_5, ki_6, ki_7, ki_8, ki_9, ki_10, ki_11, ki_12, ki_13, ki_14, ki_15, ki_20, ki_21, ki_30, ki_31, ki_40, ki_41, ki_50, ki_51, ki_60, ki_63, ki_64, ki_65, ki_100, ki_158, ki_160, ki_200, ki_212, ki_1000, ki_2000, ki_2001, ki_5000, ki_10000, ki_10001, ki_100000, ki_200000, ki_1000000, ki_2000000, ki_3000000, iO_neg, iO_add, iO_sub, iO_mul, kn_4, kn_8, kn_10, kn_20, kn_24, kn_40, kn_41, kn_50, kn_60, kn_158, kn_160, kn_200, kn_212, kn_2001, tn_lt, fn_lt, tn_le, fn_le, tn_eq, fn_eq, x_lt, x_le, x_eq, x_ix, x_nat, t_lt, f_lt, t_le, f_le, t_eq, f_eq, eq_self, and_self, true_and, and_true, false_and, and_false, if_true, if_false, Int.toNat_natCast, bI_s, bL_s, bA_s, bA_n, bV_s, mq_s, mq_n, en_le, bl_0, bl_1, u_eq, u_ne, w_eq, w_ne, v_eq, v_ne, iO_wide, c1, c2, lO_narrow, d2]
    · simp (disch := (first | assumption | (unfold i32; omega) | (unfold i64; omega) | omega)) only [↓reduceIte, ki_0, ki_1, ki_2, ki_3, ki_4, ki_5, ki_6, ki_7, ki_8, ki_9, ki_10, ki_11, ki_12, ki_13, ki_14, ki_15, ki_20, ki_21, ki_30, ki_31, ki_40, ki_41, ki_50, ki_51, ki_60, ki_63, ki_64, ki_65, ki_100, ki_158, ki_160, ki_200, ki_212, ki_1000, ki_2000, ki_2001, ki_5000, ki_10000, ki_10001, ki_100000, ki_200000, ki_1000000, ki_2000000, ki_3000000, iO_neg, iO_add, iO_sub, iO_mul, kn_4, kn_8, kn_10, kn_20, kn_24, kn_40, kn_41, kn_50, kn_60, kn_158, kn_160, kn_200, kn_212, kn_2001, tn_lt, fn_lt, tn_le, fn_le, tn_eq, fn_eq, x_lt, x_le, x_eq, x_ix, x_nat, t_lt, f_lt, t_le, f_le, t_eq, f_eq, eq_self, and_self, true_and, and_true, false_and, and_false, if_true, if_false, Int.toNat_natCast, bI_s, bL_s, bA_s, bA_n, bV_s, mq_s, mq_n, en_le, bl_0, bl_1, u_eq, u_ne, w_eq, w_ne, v_eq, v_ne, iO_wide, c1, c2, lO_narrow, d3]
    · simp (disch := (first | assumption | (unfold i32; omega) | (unfold i64; omega) | omega)) only [↓reduceIte, ki_0, ki_1, ki_2, ki_3, ki_4, ki_5, ki_6, ki_7, ki_8, ki_9, ki_10, ki_11, ki_12, ki_13, ki_14, ki_15, ki_20, ki_21, ki_30, ki_31, ki_40, ki_41, ki_50, ki_51, ki_60, ki_63, ki_64, ki_65, ki_100, ki_158, ki_160, ki_200, ki_212, ki_1000, ki_2000, ki_2001, ki_5000, ki_10000, ki_10001, ki_100000, ki_200000, ki_1000000, ki_2000000, ki_3000000, iO_neg, iO_add, iO_sub, iO_mul, kn_4, kn_8, kn_10, kn_20, kn_24, kn_40, kn_41, kn_50, kn_60, kn_158, kn_160, kn_200, kn_212, kn_2001, tn_lt, fn_lt, tn_le, fn_le, tn_eq, fn_eq, x_lt, x_le, x_eq, x_ix, x_nat, t_lt, f_lt, t_le, f_le, t_eq, f_eq, eq_self, and_self, true_and, and_true, false_and, and_false, if_true, if_false, Int.toNat_natCast, bI_s, bL_s, bA_s, bA_n, bV_s, mq_s, mq_n, en_le, bl_0, bl_1, u_eq, u_ne, w_eq, w_ne, v_eq, v_ne, iO_wide, c1, c2, lO_narrow, d4]
  · rw [if_neg g]
    have g : x * d ≤ u * y := by omega
    simp (disch := (first | assumption | (unfold i32; omega) | (unfold i64; omega) | omega)) only [↓reduceIte, ki_0, ki_1, ki_2, ki_3, ki_4, ki_5, ki_6, ki_7, ki_8, ki_9, ki_10, ki_11, ki_12, ki_13, ki_14, ki_15, ki_20, ki_21, ki_30, ki_31, ki_40, ki_41, ki_50, ki_51, ki_60, ki_63, ki_64, ki_65, ki_100, ki_158, ki_160, ki_200, ki_212, ki_1000, ki_2000, ki_2001, ki_5000, ki_10000, ki_10001, ki_100000, ki_200000, ki_1000000, ki_2000000, ki_3000000, iO_neg, iO_add, iO_sub, iO_mul, kn_4, kn_8, kn_10, kn_20, kn_24, kn_40, kn_41, kn_50, kn_60, kn_158, kn_160, kn_200, kn_212, kn_2001, tn_lt, fn_lt, tn_le, fn_le, tn_eq, fn_eq, x_lt, x_le, x_eq, x_ix, x_nat, t_lt, f_lt, t_le, f_le, t_eq, f_eq, eq_self, and_self, true_and, and_true, false_and, and_false, if_true, if_false, Int.toNat_natCast, bI_s, bL_s, bA_s, bA_n, bV_s, mq_s, mq_n, en_le, bl_0, bl_1, u_eq, u_ne, w_eq, w_ne, v_eq, v_ne]
theorem m_rng3 (hw : 0 ≤ w) (hw2 : w ≤ 3) (hr : r < 10) (hn : n ≤ 40) (hfr : fr + n ≤ 10001) (hf : ∀ i, i < fr + n → MA 7 (10001 * r + i) = iO (f i)) (hb : ∀ a k, a + k ≤ n → 0 ≤ ssum f (fr + a) k ∧ ssum f (fr + a) k ≤ 10000) : ∀ (j a : Nat) (u d x y : Int), a + j = n → 1 ≤ a → LW (fun a k => ssum f (fr + a) k) (bef n a 1) u d → HG (fun a k => ssum f (fr + a) k) (bef n a 1) x y → b_X12_range_3 sc (dd + 1) 26 (iO (r : Int)) (iO (fr : Int)) (iO (n : Int)) (iO w) (iO u) (iO d) (iO x) (iO y) (iO 0) (iO (a : Int)) (hp XI XA XP XC MI MA ML D) = some (some (.int (iO (rng (fun a k => ssum f (fr + a) k) n w))), hp XI XA XP XC MI MA ML D) := by
  intro j
  induction j with
  | zero =>
    intro a u d x y ha h1 hL hH
    obtain rfl : a = n := by omega
    have hcg : ∀ a' k', bef a a 1 a' k' ↔ allp a a' k' := fun a' k' => ⟨fun h => ⟨h.1, h.2.1⟩, fun h => ⟨h.1, h.2, by have := h.1; have := h.2; omega⟩⟩
    have hbq : ∀ a' k', bef a a 1 a' k' → 1 ≤ k' ∧ (k' : Int) ≤ 40 ∧ -10000 ≤ ssum f (fr + a') k' ∧ ssum f (fr + a') k' ≤ 10000 := fun a' k' h => by
      have h1 := h.1
      have h2 := h.2.1
      have := hb a' k' h2
      omega
    have hbq2 : ∀ a' k', bef a a 1 a' k' → 1 ≤ k' ∧ (k' : Int) ≤ 40 ∧ -10000 ≤ -ssum f (fr + a') k' ∧ -ssum f (fr + a') k' ≤ 10000 := fun a' k' h => by
      have := hbq a' k' h
      omega
    obtain ⟨b1, b2, b3, b4⟩ := hL.bd (B := 10000) (K := 40) hbq
    obtain ⟨b5, b6, b7, b8⟩ := LW.bd (B := 10000) (K := 40) hH hbq2
    rw [rng_eq (hL.cg hcg) (LW.cg hH hcg) w]
    exact m_rng_end hw hw2 hn (by omega) (by omega) b3 b4 (by omega) (by omega) b7 b8
  | succ j ih =>
    intro a u d x y ha h1 hL hH
    obtain ⟨u', d', x', y', k1, k2, k3⟩ := m_rng4 (sc := sc) (dd := dd) (XI := XI) (XA := XA) (XP := XP) (XC := XC) (MI := MI) (MA := MA) (ML := ML) (D := D) (w := w) hr hn hfr hf hb (a := a) (by omega) (n - a) 1 u d x y 0 (by omega) (by omega) (Or.inr ⟨rfl, hL, hH⟩)
    have ih' := ih (a + 1) u' d' x' y' (by omega) (by omega) k1 k2
    rw [← ih']
    refine Eq.trans ?_ k3
    rw [eb_X12_range_3, if_neg (nle (a := (n : Int)) (b := (a : Int)) (by unfold i32; omega) (by unfold i32; omega) (by omega))]
    rfl
end RGM
section RGC
variable {sc : en_S} {n : Nat} {S : ST5}
theorem mc_range (hS : OK5 S) {r a m w : Int} (hr : i32 r) (ha : i32 a) (hm : i32 m) (hw : i32 w) : MC S S (p_range S r a m w) (fun z => f_X12_range sc (n + 40) 26 (iO r) (iO a) (iO m) (iO w) z) := by
  apply mc_ask
  intro XI XA XP XC MI MA ML D hV
  have h10 := hS.2.1
  obtain ⟨w1, w2⟩ := id hw
  show f_X12_range sc (n + 40) 26 (iO r) (iO a) (iO m) (iO w) _ = _
  rw [e_X12_range]
  unfold p_range
  cases hq : rowq S r with
  | none =>
    have := rowq_none hq
    rw [hp_cc_26, if_pos rfl, e_X12_isStretch, hp_cc_26, if_pos rfl, e_misRow hV hS hr, if_neg (by omega)]
    rfl
  | some q =>
    obtain ⟨k, rfl, hk, hq2⟩ := rowq_some hq
    obtain ⟨c1, c2, c3, c4⟩ := hV.2.2.2.2.2.1 k q hq2
    have hR := hS.2.2.2.1 q (List.mem_of_getElem? hq2)
    have hsz : q.2.2.1 ≤ 10001 := hR.2.2.2.2.1
    have hva := hR.2.2.2.2.2.1
    rw [hp_cc_26, if_pos rfl, m_isStretch (n := n + 36) hV hS hq2 ha hm]
    dsimp only
    by_cases g : 1 ≤ m ∧ m ≤ 40 ∧ 0 ≤ a ∧ a + m ≤ (q.2.2.1 : Nat)
    · rw [if_pos g]
      by_cases gw : 0 ≤ w ∧ w ≤ 3
      · rw [if_pos (show 0 ≤ w ∧ w ≤ 3 ∧ 1 ≤ m ∧ m ≤ 40 ∧ 0 ≤ a ∧ a + m ≤ (q.2.2.1 : Nat) from ⟨gw.1, gw.2, g⟩)]
        obtain ⟨g1, g2, g3, g4⟩ := g
        obtain ⟨gw1, gw2⟩ := gw
        obtain ⟨y, rfl⟩ : ∃ y : Nat, m = y := ⟨m.toNat, by omega⟩
        obtain ⟨x, rfl⟩ : ∃ x : Nat, a = x := ⟨a.toNat, by omega⟩
        have hb : ∀ a' k', a' + k' ≤ y → 0 ≤ ssum q.2.2.2 (x + a') k' ∧ ssum q.2.2.2 (x + a') k' ≤ 10000 := by
          intro a' k' h'
          obtain ⟨b1, b2⟩ := ssum_b (f := q.2.2.2) (a := x + a') k' (fun i hi => hva i (by omega))
          omega
        have hf : ∀ i, i < x + y → MA 7 (10001 * k + i) = iO (q.2.2.2 i) := fun i hi => c4 i (by omega)
        rw [Int.toNat_natCast, Int.toNat_natCast]
        obtain ⟨u', d', x', y', k1, k2, k3⟩ := m_rng4 (sc := sc) (dd := n + 38) (XI := XI) (XA := XA) (XP := XP) (XC := XC) (MI := MI) (MA := MA) (ML := ML) (D := D) (w := w) (r := k) (fr := x) (n := y) (f := q.2.2.2) (by omega) (by omega) (by omega) hf hb (a := 0) (by omega) y 1 (-1) 1 0 0 1 (by omega) (by omega) (Or.inl ⟨rfl, rfl, rfl, rfl, rfl, rfl, rfl⟩)
        have k4 := m_rng3 (sc := sc) (dd := n + 38) (XI := XI) (XA := XA) (XP := XP) (XC := XC) (MI := MI) (MA := MA) (ML := ML) (D := D) gw1 gw2 (r := k) (fr := x) (n := y) (f := q.2.2.2) (by omega) (by omega) (by omega) hf hb (y - 1) 1 u' d' x' y' (by omega) (by omega) k1 k2
        have k5 : b_X12_range_3 sc (n + 39) 26 (iO (k : Int)) (iO (x : Int)) (iO (y : Int)) (iO w) (-1) 1 0 0 1 0 (hp XI XA XP XC MI MA ML D) = some (some (.int (iO (rng (fun a k => ssum q.2.2.2 (x + a) k) y w))), hp XI XA XP XC MI MA ML D) := by
          rw [← k4]
          refine Eq.trans ?_ k3
          rw [eb_X12_range_3, if_neg (show ¬ iO (y : Int) ≤ 0 from nle (a := (y : Int)) (b := 0) (by unfold i32; omega) (by unfold i32; omega) (by omega))]
          rfl
        clear hV c4 hva hb hf k1 k2 k3 k4
        rw [bI_s, if_neg (show ¬ iO 1 = 0 by decide), e_X12_in, if_neg (show ¬ iO w < 0 from nlt (a := w) (b := 0) hw (by unfold i32; omega) gw1), if_neg (show ¬ 3 < iO w from nlt (a := 3) (b := w) (by unfold i32; omega) hw gw2), bI_s, if_neg (show ¬ (1 : Int32) = 0 by decide)]
        exact k5
      · rw [if_neg (show ¬ (0 ≤ w ∧ w ≤ 3 ∧ 1 ≤ m ∧ m ≤ 40 ∧ 0 ≤ a ∧ a + m ≤ (q.2.2.1 : Nat)) by omega)]
        clear hV c4 hva g
        rcases Int.lt_or_le w 0 with g5 | g5
        · clear gw; simp (disch := (first | assumption | (unfold i32; omega) | (unfold i64; omega) | omega)) only [↓reduceIte, ki_0, ki_1, ki_2, ki_3, ki_4, ki_5, ki_6, ki_7, ki_8, ki_9, ki_10, ki_11, ki_12, ki_13, ki_14, ki_15, ki_20, ki_21, ki_30, ki_31, ki_40, ki_41, ki_50, ki_51, ki_60, ki_63, ki_64, ki_65, ki_100, ki_158, ki_160, ki_200, ki_212, ki_1000, ki_2000, ki_2001, ki_5000, ki_10000, ki_10001, ki_100000, ki_200000, ki_1000000, ki_2000000, ki_3000000, iO_neg, iO_add, iO_sub, iO_mul, kn_4, kn_8, kn_10, kn_20, kn_24, kn_40, kn_41, kn_50, kn_60, kn_158, kn_160, kn_200, kn_212, kn_2001, tn_lt, fn_lt, tn_le, fn_le, tn_eq, fn_eq, x_lt, x_le, x_eq, x_ix, x_nat, t_lt, f_lt, t_le, f_le, t_eq, f_eq, eq_self, and_self, true_and, and_true, false_and, and_false, if_true, if_false, Int.toNat_natCast, bI_s, bL_s, bA_s, bA_n, bV_s, mq_s, mq_n, en_le, bl_0, bl_1, u_eq, u_ne, w_eq, w_ne, v_eq, v_ne, ↓hp_cc_26, ↓hp_g_26_0, ↓hp_p_26_0, ↓hp_g_26_1, ↓hp_p_26_1, ↓hp_g_26_2, ↓hp_p_26_2, ↓hp_g_26_3, ↓hp_g_26_4, ↓hp_g_26_5, ↓hp_g_26_6, ↓hp_g_26_7, ↓hp_g_26_8, ↓hp_g_26_9, ↓hp_g_26_10, ↓hp_g_26_11, ↓hp_g_26_12, ↓hp_g_26_13, ↓hp_g_26_14, ↓hp_g_26_15, ↓hp_p_26_15, ↓hp_g_26_16, ↓hp_g_26_17, ↓hp_g_26_18, ↓hp_p_26_18, ↓hp_g_26_19, ↓hp_p_26_19, ↓hp_g_26_20, ↓hp_g_26_21, ↓hp_p_26_21, ↓hp_g_26_22, ↓hp_g_26_23, ↓hp_g_26_24, ↓hp_g_26_25, ↓hp_g_26_26, ↓hp_g_26_27, ↓hp_g_26_28, ↓hp_g_26_29, ↓hp_g_26_30, ↓hp_p_26_30, ↓hp_g_26_31, ↓hp_g_26_32, ↓hp_p_26_32, ↓hp_a_27, ↓hp_s_27, ↓hp_l_27, ↓hp_a_28, ↓hp_s_28, ↓hp_l_28, ↓hp_a_29, ↓hp_s_29, ↓hp_l_29, ↓hp_a_30, ↓hp_s_30, ↓hp_l_30, ↓hp_a_31, ↓hp_s_31, ↓hp_l_31, ↓hp_a_32, ↓hp_s_32, ↓hp_l_32, ↓hp_a_33, ↓hp_s_33, ↓hp_l_33, ↓hp_a_34, ↓hp_s_34, ↓hp_l_34, ↓hp_a_35, ↓hp_s_35, ↓hp_l_35, ↓hp_a_36, ↓hp_s_36, ↓hp_l_36, ↓hp_a_37, ↓hp_s_37, ↓hp_l_37, ↓hp_a_38, ↓hp_s_38, ↓hp_l_38, ↓hp_a_39, ↓hp_s_39, ↓hp_a_40, ↓hp_s_40, ↓hp_a_41, ↓hp_s_41, ↓hp_l_41, ↓hp_a_42, ↓hp_s_42, ↓hp_l_42, ↓hp_a_43, ↓hp_s_43, ↓hp_l_43, ↓hp_a_44, ↓hp_s_44, ↓hp_l_44, ↓hp_a_45, ↓hp_s_45, ↓hp_l_45, ↓hp_a_46, ↓hp_s_46, ↓hp_l_46, ↓hp_a_47, ↓hp_s_47, ↓hp_l_47, ↓hp_a_48, ↓hp_s_48, ↓hp_l_48, ↓hp_a_49, ↓hp_s_49, ↓hp_l_49, ↓hp_a_50, ↓hp_s_50, ↓hp_l_50, e_X12_in]
        · have g6 : 3 < w := by omega
          clear gw; simp (disch := (first | assumption | (unfold i32; omega) | (unfold i64; omega) | omega)) only [↓reduceIte, ki_0, ki_1, ki_2, ki_3, ki_4, ki_5, ki_6, ki_7, ki_8, ki_9, ki_10, ki_11, ki_12, ki_13, ki_14, ki_15, ki_20, ki_21, ki_30, ki_31, ki_40, ki_41, ki_50, ki_51, ki_60, ki_63, ki_64, ki_65, ki_100, ki_158, ki_160, ki_200, ki_212, ki_1000, ki_2000, ki_2001, ki_5000, ki_10000, ki_10001, ki_100000, ki_200000, ki_1000000, ki_2000000, ki_3000000, iO_neg, iO_add, iO_sub, iO_mul, kn_4, kn_8, kn_10, kn_20, kn_24, kn_40, kn_41, kn_50, kn_60, kn_158, kn_160, kn_200, kn_212, kn_2001, tn_lt, fn_lt, tn_le, fn_le, tn_eq, fn_eq, x_lt, x_le, x_eq, x_ix, x_nat, t_lt, f_lt, t_le, f_le, t_eq, f_eq, eq_self, and_self, true_and, and_true, false_and, and_false, if_true, if_false, Int.toNat_natCast, bI_s, bL_s, bA_s, bA_n, bV_s, mq_s, mq_n, en_le, bl_0, bl_1, u_eq, u_ne, w_eq, w_ne, v_eq, v_ne, ↓hp_cc_26, ↓hp_g_26_0, ↓hp_p_26_0, ↓hp_g_26_1, ↓hp_p_26_1, ↓hp_g_26_2, ↓hp_p_26_2, ↓hp_g_26_3, ↓hp_g_26_4, ↓hp_g_26_5, ↓hp_g_26_6, ↓hp_g_26_7, ↓hp_g_26_8, ↓hp_g_26_9, ↓hp_g_26_10, ↓hp_g_26_11, ↓hp_g_26_12, ↓hp_g_26_13, ↓hp_g_26_14, ↓hp_g_26_15, ↓hp_p_26_15, ↓hp_g_26_16, ↓hp_g_26_17, ↓hp_g_26_18, ↓hp_p_26_18, ↓hp_g_26_19, ↓hp_p_26_19, ↓hp_g_26_20, ↓hp_g_26_21, ↓hp_p_26_21, ↓hp_g_26_22, ↓hp_g_26_23, ↓hp_g_26_24, ↓hp_g_26_25, ↓hp_g_26_26, ↓hp_g_26_27, ↓hp_g_26_28, ↓hp_g_26_29, ↓hp_g_26_30, ↓hp_p_26_30, ↓hp_g_26_31, ↓hp_g_26_32, ↓hp_p_26_32, ↓hp_a_27, ↓hp_s_27, ↓hp_l_27, ↓hp_a_28, ↓hp_s_28, ↓hp_l_28, ↓hp_a_29, ↓hp_s_29, ↓hp_l_29, ↓hp_a_30, ↓hp_s_30, ↓hp_l_30, ↓hp_a_31, ↓hp_s_31, ↓hp_l_31, ↓hp_a_32, ↓hp_s_32, ↓hp_l_32, ↓hp_a_33, ↓hp_s_33, ↓hp_l_33, ↓hp_a_34, ↓hp_s_34, ↓hp_l_34, ↓hp_a_35, ↓hp_s_35, ↓hp_l_35, ↓hp_a_36, ↓hp_s_36, ↓hp_l_36, ↓hp_a_37, ↓hp_s_37, ↓hp_l_37, ↓hp_a_38, ↓hp_s_38, ↓hp_l_38, ↓hp_a_39, ↓hp_s_39, ↓hp_a_40, ↓hp_s_40, ↓hp_a_41, ↓hp_s_41, ↓hp_l_41, ↓hp_a_42, ↓hp_s_42, ↓hp_l_42, ↓hp_a_43, ↓hp_s_43, ↓hp_l_43, ↓hp_a_44, ↓hp_s_44, ↓hp_l_44, ↓hp_a_45, ↓hp_s_45, ↓hp_l_45, ↓hp_a_46, ↓hp_s_46, ↓hp_l_46, ↓hp_a_47, ↓hp_s_47, ↓hp_l_47, ↓hp_a_48, ↓hp_s_48, ↓hp_l_48, ↓hp_a_49, ↓hp_s_49, ↓hp_l_49, ↓hp_a_50, ↓hp_s_50, ↓hp_l_50, e_X12_in]
    · rw [if_neg g, if_neg (show ¬ (0 ≤ w ∧ w ≤ 3 ∧ 1 ≤ m ∧ m ≤ 40 ∧ 0 ≤ a ∧ a + m ≤ (q.2.2.1 : Nat)) by omega)]
      rfl
end RGC
