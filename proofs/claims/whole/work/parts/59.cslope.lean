/-! slope: the class -/
section CSL
variable {sc : en_S} {n : Nat} {XI : Nat → Int32} {XA : Nat → Nat → Int32} {XP : Nat → Nat → Option Nat} {XC : Value} {MI : Nat → Int32} {MA : Nat → Nat → Int32} {ML : Nat → Nat → Int64} {D : en_H}
theorem x_init {s : SL4} (hS : SL s.1 s.2.1 s.2.2.1 s.2.2.2) {d0 : Int} (hd0 : s.2.1 ≠ 0 → d0 = s.2.2.2) : ∃ o g1 g3, f_X7_init sc (n + 8) (D.length + 51) (lO s.1) (lO s.2.1) (lO s.2.2.1) (lO d0) (hp XI XA XP XC MI MA ML (D ++ [.inr (6, en_df 6)])) = some (none, hp XI XA XP XC MI MA ML (D ++ [.inr (6, o), ia g1, ia g3])) ∧ SlO (D ++ [.inr (6, o), ia g1, ia g3]) D.length s ∧ o.length = 8 := by
  obtain ⟨t, g, a, b, c, d, t1, t2, hg, ht, hG, hA, hB, hC, hd, hE, hCL, hEQ, hsf, hgc, htd⟩ := norm_ok hS
  obtain ⟨A1, A2, B1, B2, C1, C2, D1, D2, hns, hb0, -⟩ := id hS
  obtain ⟨g1, g3, f1, f2, f3⟩ := x_init4 (sc := sc) (n := n + 2) (XI := XI) (XA := XA) (XP := XP) (XC := XC) (MI := MI) (MA := MA) (ML := ML) (D := D) hS hCL hEQ hE
  refine ⟨_, g1, g3, ?_, ⟨a, b, c, d, t, g1, g3, a3n0 D _ _ _, a3n1 D _ _ _, a3n2 D _ _ _, hCL, hEQ, hE, hsf, hgc, f2, f3⟩, rfl⟩
  rw [← f1, e_X7_init]
  -- the two rows are made
  have p0 : (Of .null (.int 0) .null (.int 0) 0 0 0 0).set 0 (.ref (D.length + 52)) = Of (.ref (D.length + 52)) (.int 0) .null (.int 0) 0 0 0 0 := rfl
  have p2 : (Of (.ref (D.length + 52)) (.int 0) .null (.int 0) 0 0 0 0).set 2 (.ref (D.length + 53)) = Of (.ref (D.length + 52)) (.int 0) (.ref (D.length + 53)) (.int 0) 0 0 0 0 := rfl
  have p4 : (Of (.ref (D.length + 52)) (.int 0) (.ref (D.length + 53)) (.int 0) 0 0 0 0).set 4 (.long (lO a)) = Of (.ref (D.length + 52)) (.int 0) (.ref (D.length + 53)) (.int 0) (lO a) 0 0 0 := rfl
  have p5 : (Of (.ref (D.length + 52)) (.int 0) (.ref (D.length + 53)) (.int 0) (lO a) 0 0 0).set 5 (.long (lO b)) = Of (.ref (D.length + 52)) (.int 0) (.ref (D.length + 53)) (.int 0) (lO a) (lO b) 0 0 := rfl
  have p6 : (Of (.ref (D.length + 52)) (.int 0) (.ref (D.length + 53)) (.int 0) (lO a) (lO b) 0 0).set 6 (.long (lO c)) = Of (.ref (D.length + 52)) (.int 0) (.ref (D.length + 53)) (.int 0) (lO a) (lO b) (lO c) 0 := rfl
  have e6 : en_df 6 = Of .null (.int 0) .null (.int 0) 0 0 0 0 := rfl
  rw [e6, hp_nw, show (D ++ [.inr (6, Of .null (.int 0) .null (.int 0) 0 0 0 0)]) ++ [ia (fun _ => 0)] = D ++ [.inr (6, Of .null (.int 0) .null (.int 0) 0 0 0 0), ia (fun _ => 0)] by simp, show (D ++ [(.inr (6, Of .null (.int 0) .null (.int 0) 0 0 0 0) : va_E)]).length + 51 = D.length + 52 by simp]
  rw [d_pf (a2n0 D _ _) (x := 0) rfl rfl, a2s0, p0, hp_nw, show (D ++ [.inr (6, Of (.ref (D.length + 52)) (.int 0) .null (.int 0) 0 0 0 0), ia (fun _ => 0)]) ++ [ia (fun _ => 0)] = D ++ [.inr (6, Of (.ref (D.length + 52)) (.int 0) .null (.int 0) 0 0 0 0), ia (fun _ => 0), ia (fun _ => 0)] by simp, show (D ++ [(.inr (6, Of (.ref (D.length + 52)) (.int 0) .null (.int 0) 0 0 0 0) : va_E), ia (fun _ => 0)]).length + 51 = D.length + 53 by simp]
  rw [d_pf (a3n0 D _ _ _) (x := 0) rfl rfl, a3s0, p2]
  -- b_X7_init_2 with the square's root t
  have hBt := mul_bd (x := s.2.1) (y := t) (a := 20) (b := 7) (by omega) (by omega) (by omega) t2
  have c1 := e_common (sc := sc) (n := n + 5) (a := s.1) (b := s.2.1 * t) (z := hp XI XA XP XC MI MA ML (D ++ [.inr (6, Of (.ref (D.length + 52)) (.int 0) (.ref (D.length + 53)) (.int 0) 0 0 0 0), ia (fun _ => 0), ia (fun _ => 0)])) (by omega) (by omega) (by omega) (by omega)
  have hgb : ((Int.gcd s.1 (s.2.1 * t) : Nat) : Int) ≤ 1000000 := by
    have h0 : Int.gcd s.1 (s.2.1 * t) = Nat.gcd s.1.natAbs (s.2.1 * t).natAbs := rfl
    rcases Nat.eq_zero_or_pos s.1.natAbs with z | z
    · rw [h0, z, Nat.gcd_zero_left]; omega
    · have := Nat.gcd_le_left (s.2.1 * t).natAbs z
      rw [h0]; omega
  have c2 := e_common (sc := sc) (n := n + 5) (a := ((Int.gcd s.1 (s.2.1 * t) : Nat) : Int)) (b := s.2.2.1) (z := hp XI XA XP XC MI MA ML (D ++ [.inr (6, Of (.ref (D.length + 52)) (.int 0) (.ref (D.length + 53)) (.int 0) 0 0 0 0), ia (fun _ => 0), ia (fun _ => 0)])) (by omega) (by omega) (by omega) (by omega)
  rw [← hG] at c2
  have hgC : g ≤ 100 := by
    obtain ⟨q1, q2, q3, q4, q5, q6, -⟩ := hCL
    have := mul_le_mul' (a := 1) (b := c) (c := g) (d := g) (by omega) q5 (by omega) (by omega)
    omega
  have c3 := e_maxL (sc := sc) (n := n + 6) (a := 1) (b := g) (z := hp XI XA XP XC MI MA ML (D ++ [.inr (6, Of (.ref (D.length + 52)) (.int 0) (.ref (D.length + 53)) (.int 0) 0 0 0 0), ia (fun _ => 0), ia (fun _ => 0)])) (by unfold i64; omega) (by unfold i64; omega)
  rw [show max (1 : Int) g = g by omega] at c3
  have hg0 : ¬ (lO g = 0) := by
    rw [kl_0, lO_eq (by unfold i64; omega) (by unfold i64; omega)]
    omega
  have da : lO s.1 / lO g = lO a := by
    have e : s.1.tdiv g = a := by rw [hA]; exact Int.mul_tdiv_cancel _ (by omega)
    rw [lO_div (by unfold i64; omega) (by unfold i64; omega) (by rw [e]; obtain ⟨q1, q2, -⟩ := hCL; unfold i64; omega), e]
  have db : lO (s.2.1 * t) / lO g = lO b := by
    have e : (s.2.1 * t).tdiv g = b := by rw [hB]; exact Int.mul_tdiv_cancel _ (by omega)
    rw [lO_div (by unfold i64; omega) (by unfold i64; omega) (by rw [e]; obtain ⟨q1, q2, q3, q4, -⟩ := hCL; unfold i64; omega), e]
  have dc : lO s.2.2.1 / lO g = lO c := by
    have e : s.2.2.1.tdiv g = c := by rw [hC]; exact Int.mul_tdiv_cancel _ (by omega)
    rw [lO_div (by unfold i64; omega) (by unfold i64; omega) (by rw [e]; obtain ⟨q1, q2, q3, q4, q5, q6, -⟩ := hCL; unfold i64; omega), e]
  have key : b_X7_init_2 sc (n + 7) (D.length + 51) (lO s.1) (lO s.2.1) (lO s.2.2.1) (lO d0) (lO t) (hp XI XA XP XC MI MA ML (D ++ [.inr (6, Of (.ref (D.length + 52)) (.int 0) (.ref (D.length + 53)) (.int 0) 0 0 0 0), ia (fun _ => 0), ia (fun _ => 0)])) = b_X7_init_4 sc (n + 7) (D.length + 51) (lO s.2.1) (lO d) (D.length + 51) (hp XI XA XP XC MI MA ML (D ++ [.inr (6, Of (.ref (D.length + 52)) (.int 0) (.ref (D.length + 53)) (.int 0) (lO a) (lO b) (lO c) 0), ia (fun _ => 0), ia (fun _ => 0)])) := by
    rw [eb_X7_init_2, lO_mul, c1, bL_s, c2, bL_s, kl_1, c3, bL_s]
    simp only [if_neg hg0, da, db, dc]
    rw [d_pf (a3n0 D _ _ _) (x := 0) rfl rfl, a3s0, p4, d_pf (a3n0 D _ _ _) (x := 0) rfl rfl, a3s0, p5, d_pf (a3n0 D _ _ _) (x := 0) rfl rfl, a3s0, p6]
    by_cases hb : s.2.1 = 0
    · rw [if_pos hb] at hd
      rw [hb, if_pos (by decide), hd]
      rfl
    · have h1 : ¬ (lg_cmp (lO s.2.1) 0 = 0) := by
        rw [lg_cmp_eq, kl_0, lO_eq (by unfold i64; omega) (by unfold i64; omega)]
        exact hb
      have tt := sq_bd (x := t) (K := 7) (by omega) t2
      have tt0 := Int.mul_pos t1 t1
      have h2 : ¬ (lO t * lO t = 0) := by
        rw [lO_mul, kl_0, lO_eq (by unfold i64; omega) (by unfold i64; omega)]
        omega
      have hq : s.2.2.2.tdiv (t * t) = d := htd hb
      rw [if_neg h1, if_neg h2, lO_mul, hd0 hb, lO_div (by unfold i64; omega) (by unfold i64; omega) (by rw [hq]; obtain ⟨q1, q2, q3, q4, q5, q6, q7, q8, -⟩ := hCL; unfold i64; omega), hq]
  by_cases hb : s.2.1 = 0
  · rw [if_pos hb] at ht
    rw [← key]
    have : lg_cmp (lO s.2.1) 0 = 0 := by rw [hb]; decide
    rw [if_pos this, ht]
    rfl
  · rw [if_neg hb] at ht
    have h1 : ¬ (lg_cmp (lO s.2.1) 0 = 0) := by
      rw [lg_cmp_eq, kl_0, lO_eq (by unfold i64; omega) (by unfold i64; omega)]
      exact hb
    have hsq := e_square_loop (sc := sc) (n := n + 6) (z := hp XI XA XP XC MI MA ML (D ++ [.inr (6, Of (.ref (D.length + 52)) (.int 0) (.ref (D.length + 53)) (.int 0) 0 0 0 0), ia (fun _ => 0), ia (fun _ => 0)])) (d := s.2.2.2) (by omega) (by omega) 7 (by omega) (by omega)
    rw [if_neg h1, e_X7_squareIn, hd0 hb]
    show en_bL (b_X7_squareIn_1 sc (n + 6) (lO s.2.2.2) (lO ((7 : Nat) : Int)) _) _ = _
    rw [hsq, bL_s, ← ht, ← hd0 hb]
    exact key
theorem hp_sA0 {ρ : Type} {p : Nat} {fs : List Value} (h : en_nt D p = some (.inr (6, fs))) (i : Int32) (f : en_H → Option ρ) : en_sA (hp XI XA XP XC MI MA ML D) 2 i (p + 51) f = if en_ix i 8 then f (hp XI XA (va_up XP 0 (va_up (XP 0) i.toNatClampNeg (some (p + 51)))) XC MI MA ML D) else none := by
  show (if en_ix i 8 then (match en_ce (hp XI XA XP XC MI MA ML D) (p + 51) with
        | some (.inr (ci, _)) => (match en_fd (en_as 0) ci with
          | some _ => f ((hp XI XA XP XC MI MA ML D).set 1 (.inl (0 + 2, 8, .inr (.inr (.inr (.inr (va_up (XP 0) i.toNatClampNeg (some (p + 51)))))))))
          | none => none)
        | _ => none) else none) = _
  rw [hp_ce, h]
  rfl
theorem hp_sA1 {ρ : Type} {p ci : Nat} {fs : List Value} (h : en_nt D p = some (.inr (ci, fs))) (hci : ci = 1 ∨ ci = 2 ∨ ci = 3 ∨ ci = 4 ∨ ci = 8) (i : Int32) (f : en_H → Option ρ) : en_sA (hp XI XA XP XC MI MA ML D) 3 i (p + 51) f = if en_ix i 10 then f (hp XI XA (va_up XP 1 (va_up (XP 1) i.toNatClampNeg (some (p + 51)))) XC MI MA ML D) else none := by
  show (if en_ix i 10 then (match en_ce (hp XI XA XP XC MI MA ML D) (p + 51) with
        | some (.inr (ci, _)) => (match en_fd (en_as 1) ci with
          | some _ => f ((hp XI XA XP XC MI MA ML D).set 2 (.inl (1 + 2, 10, .inr (.inr (.inr (.inr (va_up (XP 1) i.toNatClampNeg (some (p + 51)))))))))
          | none => none)
        | _ => none) else none) = _
  rw [hp_ce, h]
  rcases hci with rfl | rfl | rfl | rfl | rfl <;> rfl
end CSL
section CSP
variable {sc : en_S} {n : Nat} {S : ST5}
theorem cs_slope (hS : OK5 S) {a b c d : Int} (ha : i32 a) (hb : i32 b) (hc : i32 c) (hd : i32 d) : CS S (p_slope S a b c d).2 (p_slope S a b c d).1 (fun z => f_X11_slope sc (n + 40) 1 (iO a) (iO b) (iO c) (iO d) z) := by
  obtain ⟨a1, a2⟩ := id ha
  obtain ⟨b1, b2⟩ := id hb
  obtain ⟨c1, c2⟩ := id hc
  obtain ⟨d1, d2⟩ := id hd
  have h8 := hS.1
  unfold p_slope
  by_cases g : -1000 ≤ a ∧ a ≤ 1000 ∧ -20 ≤ b ∧ b ≤ 20 ∧ 1 ≤ c ∧ c ≤ 100 ∧ (b = 0 ∨ (2 ≤ d ∧ d ≤ 50 ∧ ¬ sqs d = true))
  · rw [if_pos g]
    have gg := g
    obtain ⟨g1, g2, g3, g4, g5, g6, g7⟩ := g
    have run : ∀ (XI : Nat → Int32) (XA : Nat → Nat → Int32) (XP : Nat → Nat → Option Nat) (XC : Value) (MI : Nat → Int32) (MA : Nat → Nat → Int32) (ML : Nat → Nat → Int64) (D : en_H), f_X11_slope sc (n + 40) 1 (iO a) (iO b) (iO c) (iO d) (hp XI XA XP XC MI MA ML D) = b_X11_slope_4 sc (n + 39) 1 (iO a) (iO b) (iO c) (iO d) (hp XI XA XP XC MI MA ML D) := by
      intro XI XA XP XC MI MA ML D
      rw [e_X11_slope]
      by_cases hb0 : b = 0
      · clear g7 gg
        simp (disch := (first | assumption | (unfold i32; omega) | (unfold i64; omega) | omega)) only [ki_0, ki_1, ki_2, ki_3, ki_4, ki_5, ki_6, ki_7, ki_8, ki_9, ki_10, ki_11, ki_12, ki_13, ki_14, ki_15, ki_20, ki_21, ki_30, ki_31, ki_40, ki_41, ki_50, ki_51, ki_60, ki_63, ki_64, ki_65, ki_100, ki_158, ki_160, ki_200, ki_212, ki_1000, ki_2000, ki_2001, ki_5000, ki_10000, ki_10001, ki_100000, ki_200000, ki_1000000, ki_2000000, ki_3000000, iO_neg, iO_add, iO_sub, iO_mul, kn_4, kn_8, kn_10, kn_20, kn_24, kn_40, kn_41, kn_50, kn_60, kn_158, kn_160, kn_200, kn_212, kn_2001, tn_lt, fn_lt, tn_le, fn_le, tn_eq, fn_eq, x_lt, x_le, x_eq, x_ix, x_nat, t_lt, f_lt, t_le, f_le, t_eq, f_eq, eq_self, and_self, true_and, and_true, false_and, and_false, if_true, if_false, Int.toNat_natCast, bI_s, bL_s, bA_s, bA_n, bV_s, mq_s, mq_n, en_le, bl_0, bl_1, u_eq, u_ne, w_eq, w_ne, v_eq, v_ne]
      · obtain ⟨q1, q2, q3⟩ := g7.resolve_left hb0
        have hsq := x_isSquare (sc := sc) (n := n + 35) q1 q2 (z := hp XI XA XP XC MI MA ML D)
        rw [if_neg q3] at hsq
        clear g7 gg q3
        simp (disch := (first | assumption | (unfold i32; omega) | (unfold i64; omega) | omega)) only [ki_0, ki_1, ki_2, ki_3, ki_4, ki_5, ki_6, ki_7, ki_8, ki_9, ki_10, ki_11, ki_12, ki_13, ki_14, ki_15, ki_20, ki_21, ki_30, ki_31, ki_40, ki_41, ki_50, ki_51, ki_60, ki_63, ki_64, ki_65, ki_100, ki_158, ki_160, ki_200, ki_212, ki_1000, ki_2000, ki_2001, ki_5000, ki_10000, ki_10001, ki_100000, ki_200000, ki_1000000, ki_2000000, ki_3000000, iO_neg, iO_add, iO_sub, iO_mul, kn_4, kn_8, kn_10, kn_20, kn_24, kn_40, kn_41, kn_50, kn_60, kn_158, kn_160, kn_200, kn_212, kn_2001, tn_lt, fn_lt, tn_le, fn_le, tn_eq, fn_eq, x_lt, x_le, x_eq, x_ix, x_nat, t_lt, f_lt, t_le, f_le, t_eq, f_eq, eq_self, and_self, true_and, and_true, false_and, and_false, if_true, if_false, Int.toNat_natCast, bI_s, bL_s, bA_s, bA_n, bV_s, mq_s, mq_n, en_le, bl_0, bl_1, u_eq, u_ne, w_eq, w_ne, v_eq, v_ne, hsq]
    by_cases g8 : 8 ≤ S.1.length
    · rw [if_pos g8]
      apply cs_ref
      intro XI XA XP XC MI MA ML D Γ hV
      show f_X11_slope sc (n + 40) 1 (iO a) (iO b) (iO c) (iO d) _ = _
      rw [run, eb_X11_slope_4]
      have v1 := hV.1
      clear g7 gg
      simp (disch := (first | assumption | (unfold i32; omega) | (unfold i64; omega) | omega)) only [ki_0, ki_1, ki_2, ki_3, ki_4, ki_5, ki_6, ki_7, ki_8, ki_9, ki_10, ki_11, ki_12, ki_13, ki_14, ki_15, ki_20, ki_21, ki_30, ki_31, ki_40, ki_41, ki_50, ki_51, ki_60, ki_63, ki_64, ki_65, ki_100, ki_158, ki_160, ki_200, ki_212, ki_1000, ki_2000, ki_2001, ki_5000, ki_10000, ki_10001, ki_100000, ki_200000, ki_1000000, ki_2000000, ki_3000000, iO_neg, iO_add, iO_sub, iO_mul, kn_4, kn_8, kn_10, kn_20, kn_24, kn_40, kn_41, kn_50, kn_60, kn_158, kn_160, kn_200, kn_212, kn_2001, tn_lt, fn_lt, tn_le, fn_le, tn_eq, fn_eq, x_lt, x_le, x_eq, x_ix, x_nat, t_lt, f_lt, t_le, f_le, t_eq, f_eq, eq_self, and_self, true_and, and_true, false_and, and_false, if_true, if_false, Int.toNat_natCast, bI_s, bL_s, bA_s, bA_n, bV_s, mq_s, mq_n, en_le, bl_0, bl_1, u_eq, u_ne, w_eq, w_ne, v_eq, v_ne, hp_cc_1, hp_g_1_0, hp_g_1_1, hp_g_1_2, hp_g_1_3, hp_g_1_4, hp_g_1_5, hp_g_1_6, hp_g_1_7, hp_g_1_8, hp_p_1_8, hp_g_1_9, hp_p_1_9, hp_g_1_10, hp_p_1_10, hp_a_2, hp_n_2, hp_a_3, hp_n_3, hp_a_4, v1, x_refuse]
    rw [if_neg g8]
    have hdd : b ≠ 0 → 2 ≤ d ∧ d ≤ 50 := fun h => by obtain ⟨q1, q2, -⟩ := g7.resolve_left h; exact ⟨q1, q2⟩
    have hyd : i64 (b * b * d) ∧ -1000000 ≤ b * b * d ∧ b * b * d ≤ 1000000 := by
      by_cases h : b = 0
      · rw [h, Int.zero_mul, Int.zero_mul]; unfold i64; omega
      · have := hdd h
        have s2 := sq_bd (x := b) (K := 20) (by omega) (by omega)
        have s3 := mul_bd (x := b * b) (y := d) (a := 400) (b := 50) (by omega) (by omega) (by omega) (by omega)
        unfold i64; omega
    have s1 := sq_bd (x := a) (K := 1000) (by omega) (by omega)
    have s4 := sq_bd (x := a - 20 * c) (K := 3000) (by omega) (by omega)
    have e1 : ∀ z, f_X11_signOf sc (n + 39) (lO a) (lO b) (lO d) z = some (some (.int (iO (sg a b d))), z) := fun z => e_signOf (by unfold i64; omega) (by unfold i64; omega) (by unfold i64; omega)
    have e2 : ∀ z, f_X11_signOf sc (n + 39) (lO (a - 20 * c)) (lO b) (lO d) z = some (some (.int (iO (sg (a - 20 * c) b d))), z) := fun z => e_signOf (by unfold i64; omega) (by unfold i64; omega) (by unfold i64; omega)
    have r1 := sg_range a b d
    have r2 := sg_range (a - 20 * c) b d
    rw [← sl_sg gg, ← sl_sg gg]
    clear s1 s4 hyd
    by_cases g9 : sg a b d ≤ 0 ∨ 0 < sg (a - 20 * c) b d
    · rw [if_pos g9]
      apply cs_ref
      intro XI XA XP XC MI MA ML D Γ hV
      have v1 := hV.1
      show f_X11_slope sc (n + 40) 1 (iO a) (iO b) (iO c) (iO d) _ = _
      rw [run, eb_X11_slope_4]
      clear run g7 gg hdd
      generalize sg a b d = x1 at *
      generalize sg (a - 20 * c) b d = x2 at *
      by_cases g10 : x1 ≤ 0
      · have : i32 x1 := by unfold i32; omega
        clear g9 r1
        simp (disch := (first | assumption | (unfold i32; omega) | (unfold i64; omega) | omega)) only [ki_0, ki_1, ki_2, ki_3, ki_4, ki_5, ki_6, ki_7, ki_8, ki_9, ki_10, ki_11, ki_12, ki_13, ki_14, ki_15, ki_20, ki_21, ki_30, ki_31, ki_40, ki_41, ki_50, ki_51, ki_60, ki_63, ki_64, ki_65, ki_100, ki_158, ki_160, ki_200, ki_212, ki_1000, ki_2000, ki_2001, ki_5000, ki_10000, ki_10001, ki_100000, ki_200000, ki_1000000, ki_2000000, ki_3000000, iO_neg, iO_add, iO_sub, iO_mul, kn_4, kn_8, kn_10, kn_20, kn_24, kn_40, kn_41, kn_50, kn_60, kn_158, kn_160, kn_200, kn_212, kn_2001, tn_lt, fn_lt, tn_le, fn_le, tn_eq, fn_eq, x_lt, x_le, x_eq, x_ix, x_nat, t_lt, f_lt, t_le, f_le, t_eq, f_eq, eq_self, and_self, true_and, and_true, false_and, and_false, if_true, if_false, Int.toNat_natCast, bI_s, bL_s, bA_s, bA_n, bV_s, mq_s, mq_n, en_le, bl_0, bl_1, u_eq, u_ne, w_eq, w_ne, v_eq, v_ne, hp_cc_1, hp_g_1_0, hp_g_1_1, hp_g_1_2, hp_g_1_3, hp_g_1_4, hp_g_1_5, hp_g_1_6, hp_g_1_7, hp_g_1_8, hp_p_1_8, hp_g_1_9, hp_p_1_9, hp_g_1_10, hp_p_1_10, hp_a_2, hp_n_2, hp_a_3, hp_n_3, hp_a_4, v1, iO_wide, e1, x_refuse]
      · have : 0 < x2 := by omega
        have : i32 x1 := by unfold i32; omega
        have : i32 x2 := by unfold i32; omega
        clear g9 r1 r2
        simp (disch := (first | assumption | (unfold i32; omega) | (unfold i64; omega) | omega)) only [ki_0, ki_1, ki_2, ki_3, ki_4, ki_5, ki_6, ki_7, ki_8, ki_9, ki_10, ki_11, ki_12, ki_13, ki_14, ki_15, ki_20, ki_21, ki_30, ki_31, ki_40, ki_41, ki_50, ki_51, ki_60, ki_63, ki_64, ki_65, ki_100, ki_158, ki_160, ki_200, ki_212, ki_1000, ki_2000, ki_2001, ki_5000, ki_10000, ki_10001, ki_100000, ki_200000, ki_1000000, ki_2000000, ki_3000000, iO_neg, iO_add, iO_sub, iO_mul, kn_4, kn_8, kn_10, kn_20, kn_24, kn_40, kn_41, kn_50, kn_60, kn_158, kn_160, kn_200, kn_212, kn_2001, tn_lt, fn_lt, tn_le, fn_le, tn_eq, fn_eq, x_lt, x_le, x_eq, x_ix, x_nat, t_lt, f_lt, t_le, f_le, t_eq, f_eq, eq_self, and_self, true_and, and_true, false_and, and_false, if_true, if_false, Int.toNat_natCast, bI_s, bL_s, bA_s, bA_n, bV_s, mq_s, mq_n, en_le, bl_0, bl_1, u_eq, u_ne, w_eq, w_ne, v_eq, v_ne, hp_cc_1, hp_g_1_0, hp_g_1_1, hp_g_1_2, hp_g_1_3, hp_g_1_4, hp_g_1_5, hp_g_1_6, hp_g_1_7, hp_g_1_8, hp_p_1_8, hp_g_1_9, hp_p_1_9, hp_g_1_10, hp_p_1_10, hp_a_2, hp_n_2, hp_a_3, hp_n_3, hp_a_4, v1, iO_wide, e1, e2, kl_20, lO_mul, lO_sub, x_refuse]
    · rw [if_neg g9]
      have hSL := sl_new gg (by rw [← sl_sg gg, ← sl_sg gg]; exact g9)
      intro XI XA XP XC MI MA ML D Γ hV
      obtain ⟨v1, v2, v3, v4, v5, v6, v7, v8, v9⟩ := id hV
      obtain ⟨o, q1, q3, f1, f2, f3⟩ := x_init (sc := sc) (n := n + 31) (XI := XI) (XA := XA) (XP := XP) (XC := XC) (MI := MI) (MA := MA) (ML := ML) (D := D) (s := (a, b, c, if b = 0 then 2 else d)) hSL (d0 := d) (fun h => (if_neg h).symm)
      have hfa : FA D (D ++ [.inr (6, o), ia q1, ia q3]) := FA.app D _
      refine ⟨va_up (va_up XI 0 (iO ((S.1.length : Int) + 1))) 2 (iO 0), XA, va_up XP 0 (va_up (XP 0) S.1.length (some (D.length + 51))), XC, D ++ [.inr (6, o), ia q1, ia q3], Γ, ?_, ⟨?_, v2, rfl, v4, ?_, ?_, ?_, v8, v9.fa hfa⟩, ?_⟩
      · show f_X11_slope sc (n + 40) 1 (iO a) (iO b) (iO c) (iO d) _ = _
        rw [run, eb_X11_slope_4]
        have hsA : ∀ (i : Int32) (f : en_H → Option en_R), en_sA (hp XI XA XP XC MI MA ML (D ++ [.inr (6, o), ia q1, ia q3])) 2 i (D.length + 51) f = if en_ix i 8 then f (hp XI XA (va_up XP 0 (va_up (XP 0) i.toNatClampNeg (some (D.length + 51)))) XC MI MA ML (D ++ [.inr (6, o), ia q1, ia q3])) else none := fun i f => hp_sA0 (a3n0 D _ _ _) i f
        have hcc : ∀ (g : Nat → Option en_R), en_cc (hp XI XA XP XC MI MA ML (D ++ [.inr (6, en_df 6)])) (D.length + 51) g = g 6 := fun g => d_cc (a1n0 D _) g
        clear run g7 gg hdd hV v5 v6 v7 v8 v9 hSL f2 f3
        generalize sg a b d = x1 at *
        generalize sg (a - 20 * c) b d = x2 at *
        have y1 : 0 < x1 := by omega
        have y2 : x2 ≤ 0 := by omega
        have : i32 x1 := by unfold i32; omega
        have : i32 x2 := by unfold i32; omega
        clear g9 r1 r2
        simp (disch := (first | assumption | (unfold i32; omega) | (unfold i64; omega) | omega)) only [ki_0, ki_1, ki_2, ki_3, ki_4, ki_5, ki_6, ki_7, ki_8, ki_9, ki_10, ki_11, ki_12, ki_13, ki_14, ki_15, ki_20, ki_21, ki_30, ki_31, ki_40, ki_41, ki_50, ki_51, ki_60, ki_63, ki_64, ki_65, ki_100, ki_158, ki_160, ki_200, ki_212, ki_1000, ki_2000, ki_2001, ki_5000, ki_10000, ki_10001, ki_100000, ki_200000, ki_1000000, ki_2000000, ki_3000000, iO_neg, iO_add, iO_sub, iO_mul, kn_4, kn_8, kn_10, kn_20, kn_24, kn_40, kn_41, kn_50, kn_60, kn_158, kn_160, kn_200, kn_212, kn_2001, tn_lt, fn_lt, tn_le, fn_le, tn_eq, fn_eq, x_lt, x_le, x_eq, x_ix, x_nat, t_lt, f_lt, t_le, f_le, t_eq, f_eq, eq_self, and_self, true_and, and_true, false_and, and_false, if_true, if_false, Int.toNat_natCast, bI_s, bL_s, bA_s, bA_n, bV_s, mq_s, mq_n, en_le, bl_0, bl_1, u_eq, u_ne, w_eq, w_ne, v_eq, v_ne, hp_cc_1, hp_g_1_0, hp_g_1_1, hp_g_1_2, hp_g_1_3, hp_g_1_4, hp_g_1_5, hp_g_1_6, hp_g_1_7, hp_g_1_8, hp_p_1_8, hp_g_1_9, hp_p_1_9, hp_g_1_10, hp_p_1_10, hp_a_2, hp_n_2, hp_a_3, hp_n_3, hp_a_4, v1, iO_wide, e1, e2, kl_20, lO_mul, lO_sub, hp_nw, hcc, f1, hsA, x_done]
        rw [show (S.1.length : Int) + 1 - 1 = (S.1.length : Int) by omega]
      · show iO ((S.1.length : Int) + 1) = iO ((S.1 ++ [_]).length : Nat)
        rw [List.length_append, List.length_singleton]
        rfl
      · intro s q hq
        show ∃ p, va_up (XP 0) S.1.length (some (D.length + 51)) s = some (p + 51) ∧ _
        rw [List.getElem?_append] at hq
        split at hq
        · obtain ⟨p, w1, w2⟩ := v5 s q hq
          exact ⟨p, by rw [w_ne (by omega)]; exact w1, w2.fr hfa.fr⟩
        · rename_i hs
          have hs2 : s = S.1.length := by
            have := (List.getElem?_eq_some_iff.mp hq).1
            simp at this
            omega
          subst hs2
          simp at hq
          subst hq
          exact ⟨D.length, w_eq rfl, f2⟩
      · intro r q hq
        obtain ⟨p, g, w1, w2, w3, w4, w5, w6, w7, w8, w9⟩ := v6 r q hq
        refine ⟨p, g, w1, w2, w3, w4, w5, w6, w7, w8, fun h => ?_⟩
        obtain ⟨t1, t2, t3, t4, t5, t6, t7, t8, t9⟩ := hS.2.2.2.1 q (List.mem_of_getElem? hq)
        show (S.1 ++ [_])[q.2.1.toNat]? = _
        rw [List.getElem?_append_left (by omega)]
        exact w9 h
      · intro k hk
        obtain ⟨a, b, c⟩ := v7 k hk
        exact ⟨(va_up_ne _ _ (by omega)).trans ((va_up_ne _ _ (by omega)).trans a), (va_up_ne _ _ (by omega)).trans ((va_up_ne _ _ (by omega)).trans b), c⟩
      · refine ⟨by simp, ?_⟩
        have : en_sz (D ++ [.inr (6, o), ia q1, ia q3]) = en_sz D + (en_s0 (.inr (6, o)) + (en_s0 (ia q1) + en_s0 (ia q3))) := by simp [en_sz]
        rw [this]
        have e1 : en_s0 (.inr (6, o)) = o.length := rfl
        have e2 : ∀ g, en_s0 (ia g) = 20 := fun _ => rfl
        rw [e1, e2, e2, f3]
        omega
  · rw [if_neg g]
    apply cs_ref
    intro XI XA XP XC MI MA ML D Γ hV
    show f_X11_slope sc (n + 40) 1 (iO a) (iO b) (iO c) (iO d) _ = _
    rw [e_X11_slope]
    by_cases t1 : a < -1000
    · clear g; simp (disch := (first | assumption | (unfold i32; omega) | (unfold i64; omega) | omega)) only [ki_0, ki_1, ki_2, ki_3, ki_4, ki_5, ki_6, ki_7, ki_8, ki_9, ki_10, ki_11, ki_12, ki_13, ki_14, ki_15, ki_20, ki_21, ki_30, ki_31, ki_40, ki_41, ki_50, ki_51, ki_60, ki_63, ki_64, ki_65, ki_100, ki_158, ki_160, ki_200, ki_212, ki_1000, ki_2000, ki_2001, ki_5000, ki_10000, ki_10001, ki_100000, ki_200000, ki_1000000, ki_2000000, ki_3000000, iO_neg, iO_add, iO_sub, iO_mul, kn_4, kn_8, kn_10, kn_20, kn_24, kn_40, kn_41, kn_50, kn_60, kn_158, kn_160, kn_200, kn_212, kn_2001, tn_lt, fn_lt, tn_le, fn_le, tn_eq, fn_eq, x_lt, x_le, x_eq, x_ix, x_nat, t_lt, f_lt, t_le, f_le, t_eq, f_eq, eq_self, and_self, true_and, and_true, false_and, and_false, if_true, if_false, Int.toNat_natCast, bI_s, bL_s, bA_s, bA_n, bV_s, mq_s, mq_n, en_le, bl_0, bl_1, u_eq, u_ne, w_eq, w_ne, v_eq, v_ne, hp_cc_1, hp_g_1_0, hp_g_1_1, hp_g_1_2, hp_g_1_3, hp_g_1_4, hp_g_1_5, hp_g_1_6, hp_g_1_7, hp_g_1_8, hp_p_1_8, hp_g_1_9, hp_p_1_9, hp_g_1_10, hp_p_1_10, hp_a_2, hp_n_2, hp_a_3, hp_n_3, hp_a_4, x_refuse]
    by_cases t2 : 1000 < a
    · clear g; simp (disch := (first | assumption | (unfold i32; omega) | (unfold i64; omega) | omega)) only [ki_0, ki_1, ki_2, ki_3, ki_4, ki_5, ki_6, ki_7, ki_8, ki_9, ki_10, ki_11, ki_12, ki_13, ki_14, ki_15, ki_20, ki_21, ki_30, ki_31, ki_40, ki_41, ki_50, ki_51, ki_60, ki_63, ki_64, ki_65, ki_100, ki_158, ki_160, ki_200, ki_212, ki_1000, ki_2000, ki_2001, ki_5000, ki_10000, ki_10001, ki_100000, ki_200000, ki_1000000, ki_2000000, ki_3000000, iO_neg, iO_add, iO_sub, iO_mul, kn_4, kn_8, kn_10, kn_20, kn_24, kn_40, kn_41, kn_50, kn_60, kn_158, kn_160, kn_200, kn_212, kn_2001, tn_lt, fn_lt, tn_le, fn_le, tn_eq, fn_eq, x_lt, x_le, x_eq, x_ix, x_nat, t_lt, f_lt, t_le, f_le, t_eq, f_eq, eq_self, and_self, true_and, and_true, false_and, and_false, if_true, if_false, Int.toNat_natCast, bI_s, bL_s, bA_s, bA_n, bV_s, mq_s, mq_n, en_le, bl_0, bl_1, u_eq, u_ne, w_eq, w_ne, v_eq, v_ne, hp_cc_1, hp_g_1_0, hp_g_1_1, hp_g_1_2, hp_g_1_3, hp_g_1_4, hp_g_1_5, hp_g_1_6, hp_g_1_7, hp_g_1_8, hp_p_1_8, hp_g_1_9, hp_p_1_9, hp_g_1_10, hp_p_1_10, hp_a_2, hp_n_2, hp_a_3, hp_n_3, hp_a_4, x_refuse]
    by_cases t3 : b < -20
    · clear g; simp (disch := (first | assumption | (unfold i32; omega) | (unfold i64; omega) | omega)) only [ki_0, ki_1, ki_2, ki_3, ki_4, ki_5, ki_6, ki_7, ki_8, ki_9, ki_10, ki_11, ki_12, ki_13, ki_14, ki_15, ki_20, ki_21, ki_30, ki_31, ki_40, ki_41, ki_50, ki_51, ki_60, ki_63, ki_64, ki_65, ki_100, ki_158, ki_160, ki_200, ki_212, ki_1000, ki_2000, ki_2001, ki_5000, ki_10000, ki_10001, ki_100000, ki_200000, ki_1000000, ki_2000000, ki_3000000, iO_neg, iO_add, iO_sub, iO_mul, kn_4, kn_8, kn_10, kn_20, kn_24, kn_40, kn_41, kn_50, kn_60, kn_158, kn_160, kn_200, kn_212, kn_2001, tn_lt, fn_lt, tn_le, fn_le, tn_eq, fn_eq, x_lt, x_le, x_eq, x_ix, x_nat, t_lt, f_lt, t_le, f_le, t_eq, f_eq, eq_self, and_self, true_and, and_true, false_and, and_false, if_true, if_false, Int.toNat_natCast, bI_s, bL_s, bA_s, bA_n, bV_s, mq_s, mq_n, en_le, bl_0, bl_1, u_eq, u_ne, w_eq, w_ne, v_eq, v_ne, hp_cc_1, hp_g_1_0, hp_g_1_1, hp_g_1_2, hp_g_1_3, hp_g_1_4, hp_g_1_5, hp_g_1_6, hp_g_1_7, hp_g_1_8, hp_p_1_8, hp_g_1_9, hp_p_1_9, hp_g_1_10, hp_p_1_10, hp_a_2, hp_n_2, hp_a_3, hp_n_3, hp_a_4, x_refuse]
    by_cases t4 : 20 < b
    · clear g; simp (disch := (first | assumption | (unfold i32; omega) | (unfold i64; omega) | omega)) only [ki_0, ki_1, ki_2, ki_3, ki_4, ki_5, ki_6, ki_7, ki_8, ki_9, ki_10, ki_11, ki_12, ki_13, ki_14, ki_15, ki_20, ki_21, ki_30, ki_31, ki_40, ki_41, ki_50, ki_51, ki_60, ki_63, ki_64, ki_65, ki_100, ki_158, ki_160, ki_200, ki_212, ki_1000, ki_2000, ki_2001, ki_5000, ki_10000, ki_10001, ki_100000, ki_200000, ki_1000000, ki_2000000, ki_3000000, iO_neg, iO_add, iO_sub, iO_mul, kn_4, kn_8, kn_10, kn_20, kn_24, kn_40, kn_41, kn_50, kn_60, kn_158, kn_160, kn_200, kn_212, kn_2001, tn_lt, fn_lt, tn_le, fn_le, tn_eq, fn_eq, x_lt, x_le, x_eq, x_ix, x_nat, t_lt, f_lt, t_le, f_le, t_eq, f_eq, eq_self, and_self, true_and, and_true, false_and, and_false, if_true, if_false, Int.toNat_natCast, bI_s, bL_s, bA_s, bA_n, bV_s, mq_s, mq_n, en_le, bl_0, bl_1, u_eq, u_ne, w_eq, w_ne, v_eq, v_ne, hp_cc_1, hp_g_1_0, hp_g_1_1, hp_g_1_2, hp_g_1_3, hp_g_1_4, hp_g_1_5, hp_g_1_6, hp_g_1_7, hp_g_1_8, hp_p_1_8, hp_g_1_9, hp_p_1_9, hp_g_1_10, hp_p_1_10, hp_a_2, hp_n_2, hp_a_3, hp_n_3, hp_a_4, x_refuse]
    by_cases t5 : c < 1
    · clear g; simp (disch := (first | assumption | (unfold i32; omega) | (unfold i64; omega) | omega)) only [ki_0, ki_1, ki_2, ki_3, ki_4, ki_5, ki_6, ki_7, ki_8, ki_9, ki_10, ki_11, ki_12, ki_13, ki_14, ki_15, ki_20, ki_21, ki_30, ki_31, ki_40, ki_41, ki_50, ki_51, ki_60, ki_63, ki_64, ki_65, ki_100, ki_158, ki_160, ki_200, ki_212, ki_1000, ki_2000, ki_2001, ki_5000, ki_10000, ki_10001, ki_100000, ki_200000, ki_1000000, ki_2000000, ki_3000000, iO_neg, iO_add, iO_sub, iO_mul, kn_4, kn_8, kn_10, kn_20, kn_24, kn_40, kn_41, kn_50, kn_60, kn_158, kn_160, kn_200, kn_212, kn_2001, tn_lt, fn_lt, tn_le, fn_le, tn_eq, fn_eq, x_lt, x_le, x_eq, x_ix, x_nat, t_lt, f_lt, t_le, f_le, t_eq, f_eq, eq_self, and_self, true_and, and_true, false_and, and_false, if_true, if_false, Int.toNat_natCast, bI_s, bL_s, bA_s, bA_n, bV_s, mq_s, mq_n, en_le, bl_0, bl_1, u_eq, u_ne, w_eq, w_ne, v_eq, v_ne, hp_cc_1, hp_g_1_0, hp_g_1_1, hp_g_1_2, hp_g_1_3, hp_g_1_4, hp_g_1_5, hp_g_1_6, hp_g_1_7, hp_g_1_8, hp_p_1_8, hp_g_1_9, hp_p_1_9, hp_g_1_10, hp_p_1_10, hp_a_2, hp_n_2, hp_a_3, hp_n_3, hp_a_4, x_refuse]
    by_cases t6 : 100 < c
    · clear g; simp (disch := (first | assumption | (unfold i32; omega) | (unfold i64; omega) | omega)) only [ki_0, ki_1, ki_2, ki_3, ki_4, ki_5, ki_6, ki_7, ki_8, ki_9, ki_10, ki_11, ki_12, ki_13, ki_14, ki_15, ki_20, ki_21, ki_30, ki_31, ki_40, ki_41, ki_50, ki_51, ki_60, ki_63, ki_64, ki_65, ki_100, ki_158, ki_160, ki_200, ki_212, ki_1000, ki_2000, ki_2001, ki_5000, ki_10000, ki_10001, ki_100000, ki_200000, ki_1000000, ki_2000000, ki_3000000, iO_neg, iO_add, iO_sub, iO_mul, kn_4, kn_8, kn_10, kn_20, kn_24, kn_40, kn_41, kn_50, kn_60, kn_158, kn_160, kn_200, kn_212, kn_2001, tn_lt, fn_lt, tn_le, fn_le, tn_eq, fn_eq, x_lt, x_le, x_eq, x_ix, x_nat, t_lt, f_lt, t_le, f_le, t_eq, f_eq, eq_self, and_self, true_and, and_true, false_and, and_false, if_true, if_false, Int.toNat_natCast, bI_s, bL_s, bA_s, bA_n, bV_s, mq_s, mq_n, en_le, bl_0, bl_1, u_eq, u_ne, w_eq, w_ne, v_eq, v_ne, hp_cc_1, hp_g_1_0, hp_g_1_1, hp_g_1_2, hp_g_1_3, hp_g_1_4, hp_g_1_5, hp_g_1_6, hp_g_1_7, hp_g_1_8, hp_p_1_8, hp_g_1_9, hp_p_1_9, hp_g_1_10, hp_p_1_10, hp_a_2, hp_n_2, hp_a_3, hp_n_3, hp_a_4, x_refuse]
    have t7 : b ≠ 0 := fun h => g ⟨by omega, by omega, by omega, by omega, by omega, by omega, Or.inl h⟩
    by_cases t8 : d < 2
    · clear g; simp (disch := (first | assumption | (unfold i32; omega) | (unfold i64; omega) | omega)) only [ki_0, ki_1, ki_2, ki_3, ki_4, ki_5, ki_6, ki_7, ki_8, ki_9, ki_10, ki_11, ki_12, ki_13, ki_14, ki_15, ki_20, ki_21, ki_30, ki_31, ki_40, ki_41, ki_50, ki_51, ki_60, ki_63, ki_64, ki_65, ki_100, ki_158, ki_160, ki_200, ki_212, ki_1000, ki_2000, ki_2001, ki_5000, ki_10000, ki_10001, ki_100000, ki_200000, ki_1000000, ki_2000000, ki_3000000, iO_neg, iO_add, iO_sub, iO_mul, kn_4, kn_8, kn_10, kn_20, kn_24, kn_40, kn_41, kn_50, kn_60, kn_158, kn_160, kn_200, kn_212, kn_2001, tn_lt, fn_lt, tn_le, fn_le, tn_eq, fn_eq, x_lt, x_le, x_eq, x_ix, x_nat, t_lt, f_lt, t_le, f_le, t_eq, f_eq, eq_self, and_self, true_and, and_true, false_and, and_false, if_true, if_false, Int.toNat_natCast, bI_s, bL_s, bA_s, bA_n, bV_s, mq_s, mq_n, en_le, bl_0, bl_1, u_eq, u_ne, w_eq, w_ne, v_eq, v_ne, hp_cc_1, hp_g_1_0, hp_g_1_1, hp_g_1_2, hp_g_1_3, hp_g_1_4, hp_g_1_5, hp_g_1_6, hp_g_1_7, hp_g_1_8, hp_p_1_8, hp_g_1_9, hp_p_1_9, hp_g_1_10, hp_p_1_10, hp_a_2, hp_n_2, hp_a_3, hp_n_3, hp_a_4, x_refuse]
    by_cases t9 : 50 < d
    · clear g; simp (disch := (first | assumption | (unfold i32; omega) | (unfold i64; omega) | omega)) only [ki_0, ki_1, ki_2, ki_3, ki_4, ki_5, ki_6, ki_7, ki_8, ki_9, ki_10, ki_11, ki_12, ki_13, ki_14, ki_15, ki_20, ki_21, ki_30, ki_31, ki_40, ki_41, ki_50, ki_51, ki_60, ki_63, ki_64, ki_65, ki_100, ki_158, ki_160, ki_200, ki_212, ki_1000, ki_2000, ki_2001, ki_5000, ki_10000, ki_10001, ki_100000, ki_200000, ki_1000000, ki_2000000, ki_3000000, iO_neg, iO_add, iO_sub, iO_mul, kn_4, kn_8, kn_10, kn_20, kn_24, kn_40, kn_41, kn_50, kn_60, kn_158, kn_160, kn_200, kn_212, kn_2001, tn_lt, fn_lt, tn_le, fn_le, tn_eq, fn_eq, x_lt, x_le, x_eq, x_ix, x_nat, t_lt, f_lt, t_le, f_le, t_eq, f_eq, eq_self, and_self, true_and, and_true, false_and, and_false, if_true, if_false, Int.toNat_natCast, bI_s, bL_s, bA_s, bA_n, bV_s, mq_s, mq_n, en_le, bl_0, bl_1, u_eq, u_ne, w_eq, w_ne, v_eq, v_ne, hp_cc_1, hp_g_1_0, hp_g_1_1, hp_g_1_2, hp_g_1_3, hp_g_1_4, hp_g_1_5, hp_g_1_6, hp_g_1_7, hp_g_1_8, hp_p_1_8, hp_g_1_9, hp_p_1_9, hp_g_1_10, hp_p_1_10, hp_a_2, hp_n_2, hp_a_3, hp_n_3, hp_a_4, x_refuse]
    have t10 : sqs d = true := by
      cases hq : sqs d
      · exact absurd ⟨by omega, by omega, by omega, by omega, by omega, by omega, Or.inr ⟨by omega, by omega, by rw [hq]; decide⟩⟩ g
      · rfl
    have hsq := x_isSquare (sc := sc) (n := n + 35) (d := d) (by omega) (by omega) (z := hp XI XA XP XC MI MA ML D)
    rw [if_pos t10] at hsq
    clear g
    simp (disch := (first | assumption | (unfold i32; omega) | (unfold i64; omega) | omega)) only [ki_0, ki_1, ki_2, ki_3, ki_4, ki_5, ki_6, ki_7, ki_8, ki_9, ki_10, ki_11, ki_12, ki_13, ki_14, ki_15, ki_20, ki_21, ki_30, ki_31, ki_40, ki_41, ki_50, ki_51, ki_60, ki_63, ki_64, ki_65, ki_100, ki_158, ki_160, ki_200, ki_212, ki_1000, ki_2000, ki_2001, ki_5000, ki_10000, ki_10001, ki_100000, ki_200000, ki_1000000, ki_2000000, ki_3000000, iO_neg, iO_add, iO_sub, iO_mul, kn_4, kn_8, kn_10, kn_20, kn_24, kn_40, kn_41, kn_50, kn_60, kn_158, kn_160, kn_200, kn_212, kn_2001, tn_lt, fn_lt, tn_le, fn_le, tn_eq, fn_eq, x_lt, x_le, x_eq, x_ix, x_nat, t_lt, f_lt, t_le, f_le, t_eq, f_eq, eq_self, and_self, true_and, and_true, false_and, and_false, if_true, if_false, Int.toNat_natCast, bI_s, bL_s, bA_s, bA_n, bV_s, mq_s, mq_n, en_le, bl_0, bl_1, u_eq, u_ne, w_eq, w_ne, v_eq, v_ne, hp_cc_1, hp_g_1_0, hp_g_1_1, hp_g_1_2, hp_g_1_3, hp_g_1_4, hp_g_1_5, hp_g_1_6, hp_g_1_7, hp_g_1_8, hp_p_1_8, hp_g_1_9, hp_p_1_9, hp_g_1_10, hp_p_1_10, hp_a_2, hp_n_2, hp_a_3, hp_n_3, hp_a_4, hsq, x_refuse]
end CSP
