-- FILE 86
/-! SCRATCH: what no state speaks of; a stretch is read -/
theorem CV.scr {S : ST5} {Γ : Nat → Option GD} {XI XI' : Nat → Int32} {XA XA' : Nat → Nat → Int32} {XP : Nat → Nat → Option Nat} {D : en_H} (h : CV S Γ XI XA XP D) (h1 : ∀ i, i < 4 ∨ 15 ≤ i → XI' i = XI i) (h2 : ∀ i, i = 0 ∨ 10 ≤ i → XA' i = XA i) : CV S Γ XI' XA' XP D := by
  obtain ⟨a1, a2, a3, a4, a5, a6, a7, a8, a9⟩ := h
  refine ⟨by rw [h1 0 (by omega)]; exact a1, by rw [h1 1 (by omega)]; exact a2, by rw [h1 2 (by omega)]; exact a3, by rw [h1 3 (by omega)]; exact a4, a5, a6, ?_, ?_, a9⟩
  · intro k hk
    obtain ⟨b1, b2, b3⟩ := a7 k hk
    rw [h1 _ (by omega), h1 _ (by omega), h2 _ (by omega)]
    exact ⟨b1, b2, b3⟩
  · intro i x hx
    rw [h2 0 (by omega)]
    exact a8 i x hx
theorem MV.scr {S : ST5} {MI MI' : Nat → Int32} {MA MA' : Nat → Nat → Int32} (h : MV S MI MA) (h1 : ∀ i, i < 4 → MI' i = MI i) (h2 : ∀ i, i < 12 → MA' i = MA i) : MV S MI' MA' := by
  obtain ⟨a1, a2, a3, a4, a5, a6, a7, a8⟩ := h
  refine ⟨by rw [h1 0 (by omega)]; exact a1, by rw [h1 1 (by omega)]; exact a2, by rw [h1 2 (by omega)]; exact a3, by rw [h1 3 (by omega)]; exact a4, ?_, ?_, ?_, ?_⟩
  · intro s q hq
    obtain ⟨b1, b2, b3, b4⟩ := a5 s q hq
    exact ⟨by rw [h2 0 (by omega)]; exact b1, by rw [h2 1 (by omega)]; exact b2, by rw [h2 2 (by omega)]; exact b3, by rw [h2 3 (by omega)]; exact b4⟩
  · intro r q hq
    rw [h2 4 (by omega), h2 5 (by omega), h2 6 (by omega), h2 7 (by omega)]
    exact a6 r q hq
  · intro k hk
    rw [h2 8 (by omega), h2 9 (by omega), h2 10 (by omega)]
    exact a7 k hk
  · intro i x hx
    rw [h2 11 (by omega)]
    exact a8 i x hx
theorem nlt {a b : Int} (ha : i32 a) (hb : i32 b) (h : b ≤ a) : ¬ (iO a < iO b) := fun q => by have := (iO_lt ha hb).mp q; omega
theorem nle {a b : Int} (ha : i32 a) (hb : i32 b) (h : b < a) : ¬ (iO a ≤ iO b) := fun q => by have := (iO_le ha hb).mp q; omega
theorem plt {a b : Int} (ha : i32 a) (hb : i32 b) (h : a < b) : iO a < iO b := (iO_lt ha hb).mpr h
theorem ple {a b : Int} (ha : i32 a) (hb : i32 b) (h : a ≤ b) : iO a ≤ iO b := (iO_le ha hb).mpr h
theorem i32_sub (x : Int32) (P Q : Int) : (x + iO P) - (x + iO Q) = iO (P - Q) := by
  rw [← iO_as x, iO_add, iO_add, iO_sub]
  congr 1
  omega
theorem i32_adds (x : Int32) (P Q : Int) : (x + iO P) + iO Q = x + iO (P + Q) := by
  rw [← iO_as x, iO_add, iO_add, iO_add]
  congr 1
  omega
theorem ssum_split (f : Nat → Int) (fr a : Nat) : ∀ k, ssum f fr (a + k) = ssum f fr a + ssum f (fr + a) k
  | 0 => by
    show ssum f fr a = ssum f fr a + 0
    omega
  | k + 1 => by
    have h1 : ssum f fr (a + (k + 1)) = ssum f fr (a + k) + f (fr + (a + k)) := rfl
    have h2 : ssum f (fr + a) (k + 1) = ssum f (fr + a) k + f (fr + a + k) := rfl
    rw [h1, h2, ssum_split f fr a k, Nat.add_assoc fr a k]
    omega
section RDS
variable {sc : en_S} {Γ : Nat → Option GD}
theorem x_read_loop {p : Nat} {g : GD} (hg : Γ p = some g) (h9 : g.2.1 ≤ 9) {m : Nat} (hm : 24 ≤ m) (XI : Nat → Int32) (XP : Nat → Nat → Option Nat) (XC : Value) (MI : Nat → Int32) (MA : Nat → Nat → Int32) (ML : Nat → Nat → Int64) {fr n : Nat} (hfr : fr ≤ 10000) (hn : n ≤ 40) (hn1 : 1 ≤ n) : ∀ (j i : Nat) (XA : Nat → Nat → Int32) (D : en_H), i + j = n → HV Γ D → (i = 0 ∨ fr + i ≤ g.2.2.2.2.1) → (∀ t, t ≤ i → XA 1 t = XA 1 0 + iO (ssum g.2.2.2.2.2.1 fr t)) →
    ∃ XA' D', b_X8_read_3 sc m 7 (p + 51) (iO (fr : Nat)) (iO (n : Nat)) (iO (i : Nat)) (hp XI XA XP XC MI MA ML D) = some (some (.int (iO (if fr + n ≤ g.2.2.2.2.1 then 1 else 0))), hp XI XA' XP XC MI MA ML D') ∧ HV Γ D' ∧ KP Γ g.2.1 D D' ∧ (∀ t, t ≠ 1 → XA' t = XA t) ∧ (fr + n ≤ g.2.2.2.2.1 → ∀ t, t ≤ n → XA' 1 t = XA' 1 0 + iO (ssum g.2.2.2.2.2.1 fr t)) := by
  intro j
  induction j with
  | zero =>
    intro i XA D hi hV hsz hs
    obtain rfl : i = n := by omega
    refine ⟨XA, D, ?_, hV, KP.refl, fun _ _ => rfl, fun _ => hs⟩
    rw [eb_X8_read_3, if_pos (show fr + i ≤ g.2.2.2.2.1 by omega)]
    simp (disch := (first | assumption | (unfold i32; omega) | (unfold i64; omega) | omega)) only [↓reduceIte, ki_0, ki_1, ki_2, ki_3, ki_4, ki_5, ki_6, ki_7, ki_8, ki_9, ki_10, ki_11, ki_12, ki_13, ki_14, ki_15, ki_20, ki_21, ki_30, ki_31, ki_40, ki_41, ki_50, ki_51, ki_60, ki_63, ki_64, ki_65, ki_100, ki_158, ki_160, ki_200, ki_212, ki_1000, ki_2000, ki_2001, ki_5000, ki_10000, ki_10001, ki_100000, ki_200000, ki_1000000, ki_2000000, ki_3000000, iO_neg, iO_add, iO_sub, iO_mul, kn_4, kn_8, kn_10, kn_20, kn_24, kn_40, kn_41, kn_50, kn_60, kn_158, kn_160, kn_200, kn_212, kn_2001, tn_lt, fn_lt, tn_le, fn_le, tn_eq, fn_eq, x_lt, x_le, x_eq, x_ix, x_nat, t_lt, f_lt, t_le, f_le, t_eq, f_eq, eq_self, and_self, true_and, and_true, false_and, and_false, if_true, if_false, Int.toNat_natCast, bI_s, bL_s, bA_s, bA_n, bV_s, mq_s, mq_n, en_le, bl_0, bl_1, u_eq, u_ne, w_eq, w_ne, v_eq, v_ne]
  | succ j ih =>
    intro i XA D hi hV hsz hs
    obtain ⟨D1, s1, s2, s3⟩ := step_ok (sc := sc) g.2.1 p g hg rfl m XI XA XP XC MI MA ML D ((fr : Int) + (i : Int)) hV (by unfold i32; omega) (by omega)
    obtain ⟨-, g2, g3, -⟩ := hV p g hg
    by_cases e : fr + i < g.2.2.2.2.1
    · have hst : stp g ((fr : Int) + (i : Int)) = g.2.2.2.2.2.1 (fr + i) := by
        unfold stp
        rw [if_pos (by omega)]
        congr 1
      obtain ⟨v1, v2⟩ := g3 (fr + i) e
      obtain ⟨XA', D', f1, f2, f3, f4, f5⟩ := ih (i + 1) (va_up XA 1 (upd (XA 1) (i + 1) (XA 1 i + iO (g.2.2.2.2.2.1 (fr + i))))) D1 (by omega) s2 (Or.inr (by omega)) (by
        intro t ht
        rw [w_eq rfl, u_ne (show 0 ≠ i + 1 by omega)]
        by_cases e2 : t = i + 1
        · subst e2
          rw [u_eq rfl, hs i (by omega), i32_adds]
          rfl
        · rw [u_ne e2]
          exact hs t (by omega))
      refine ⟨XA', D', ?_, f2, s3.trans f3 (Nat.le_refl _), fun t ht => by rw [f4 t ht, w_ne ht], f5⟩
      rw [← f1, eb_X8_read_3]
      rw [hst] at s1
      clear f1 f2 f3 f4 f5 ih hs g3 s2 s3 hst hsz
      simp (disch := (first | assumption | (unfold i32; omega) | (unfold i64; omega) | omega)) only [↓reduceIte, ki_0, ki_1, ki_2, ki_3, ki_4, ki_5, ki_6, ki_7, ki_8, ki_9, ki_10, ki_11, ki_12, ki_13, ki_14, ki_15, ki_20, ki_21, ki_30, ki_31, ki_40, ki_41, ki_50, ki_51, ki_60, ki_63, ki_64, ki_65, ki_100, ki_158, ki_160, ki_200, ki_212, ki_1000, ki_2000, ki_2001, ki_5000, ki_10000, ki_10001, ki_100000, ki_200000, ki_1000000, ki_2000000, ki_3000000, iO_neg, iO_add, iO_sub, iO_mul, kn_4, kn_8, kn_10, kn_20, kn_24, kn_40, kn_41, kn_50, kn_60, kn_158, kn_160, kn_200, kn_212, kn_2001, tn_lt, fn_lt, tn_le, fn_le, tn_eq, fn_eq, x_lt, x_le, x_eq, x_ix, x_nat, t_lt, f_lt, t_le, f_le, t_eq, f_eq, eq_self, and_self, true_and, and_true, false_and, and_false, if_true, if_false, Int.toNat_natCast, bI_s, bL_s, bA_s, bA_n, bV_s, mq_s, mq_n, en_le, bl_0, bl_1, u_eq, u_ne, w_eq, w_ne, v_eq, v_ne, vt_bI, s1, hp_cc_7, hp_g_7_0, hp_p_7_0, hp_g_7_1, hp_p_7_1, hp_g_7_2, hp_p_7_2, hp_g_7_3, hp_p_7_3, hp_g_7_4, hp_p_7_4, hp_g_7_5, hp_p_7_5, hp_g_7_6, hp_p_7_6, hp_g_7_7, hp_g_7_8, hp_p_7_8, hp_g_7_9, hp_p_7_9, hp_g_7_10, hp_p_7_10, hp_a_8, hp_s_8, hp_l_8]
      rfl
    · have hst : stp g ((fr : Int) + (i : Int)) = -1 := by
        unfold stp
        rw [if_neg (by omega)]
      refine ⟨XA, D1, ?_, s2, s3, fun _ _ => rfl, fun h => by omega⟩
      rw [eb_X8_read_3, if_neg (show ¬ fr + n ≤ g.2.2.2.2.1 by omega)]
      rw [hst] at s1
      clear ih hs g3 s2 s3 hst hsz
      simp (disch := (first | assumption | (unfold i32; omega) | (unfold i64; omega) | omega)) only [↓reduceIte, ki_0, ki_1, ki_2, ki_3, ki_4, ki_5, ki_6, ki_7, ki_8, ki_9, ki_10, ki_11, ki_12, ki_13, ki_14, ki_15, ki_20, ki_21, ki_30, ki_31, ki_40, ki_41, ki_50, ki_51, ki_60, ki_63, ki_64, ki_65, ki_100, ki_158, ki_160, ki_200, ki_212, ki_1000, ki_2000, ki_2001, ki_5000, ki_10000, ki_10001, ki_100000, ki_200000, ki_1000000, ki_2000000, ki_3000000, iO_neg, iO_add, iO_sub, iO_mul, kn_4, kn_8, kn_10, kn_20, kn_24, kn_40, kn_41, kn_50, kn_60, kn_158, kn_160, kn_200, kn_212, kn_2001, tn_lt, fn_lt, tn_le, fn_le, tn_eq, fn_eq, x_lt, x_le, x_eq, x_ix, x_nat, t_lt, f_lt, t_le, f_le, t_eq, f_eq, eq_self, and_self, true_and, and_true, false_and, and_false, if_true, if_false, Int.toNat_natCast, bI_s, bL_s, bA_s, bA_n, bV_s, mq_s, mq_n, en_le, bl_0, bl_1, u_eq, u_ne, w_eq, w_ne, v_eq, v_ne, vt_bI, s1, hp_cc_7, hp_g_7_0, hp_p_7_0, hp_g_7_1, hp_p_7_1, hp_g_7_2, hp_p_7_2, hp_g_7_3, hp_p_7_3, hp_g_7_4, hp_p_7_4, hp_g_7_5, hp_p_7_5, hp_g_7_6, hp_p_7_6, hp_g_7_7, hp_g_7_8, hp_p_7_8, hp_g_7_9, hp_p_7_9, hp_g_7_10, hp_p_7_10, hp_a_8, hp_s_8, hp_l_8]
theorem x_read {p : Nat} {g : GD} (hg : Γ p = some g) (h9 : g.2.1 ≤ 9) (n0 : Nat) (XI : Nat → Int32) (XA : Nat → Nat → Int32) (XP : Nat → Nat → Option Nat) (XC : Value) (MI : Nat → Int32) (MA : Nat → Nat → Int32) (ML : Nat → Nat → Int64) (D : en_H) (hV : HV Γ D) {a m : Int} (ha : i32 a) (hm : i32 m) :
    ∃ XI' XA' D', f_X8_read sc (n0 + 39) 7 (p + 51) (iO a) (iO m) (hp XI XA XP XC MI MA ML D) = some (some (.int (iO (if 1 ≤ m ∧ m ≤ 40 ∧ 0 ≤ a ∧ a + m ≤ (g.2.2.2.2.1 : Nat) then 1 else 0))), hp XI' XA' XP XC MI MA ML D') ∧ HV Γ D' ∧ KP Γ g.2.1 D D' ∧ (∀ t, t ≠ 11 → XI' t = XI t) ∧ (∀ t, t ≠ 1 → XA' t = XA t) ∧ ((1 ≤ m ∧ m ≤ 40 ∧ 0 ≤ a ∧ a + m ≤ (g.2.2.2.2.1 : Nat)) → XI' 11 = iO m ∧ ∀ t, t ≤ m.toNat → XA' 1 t = XA' 1 0 + iO (ssum g.2.2.2.2.2.1 a.toNat t)) := by
  obtain ⟨a1, a2⟩ := id ha
  obtain ⟨m1, m2⟩ := id hm
  have hsz : g.2.2.2.2.1 ≤ 10001 := (hV p g hg).2.1
  by_cases t1 : a < 0
  · refine ⟨XI, XA, D, ?_, hV, KP.refl, fun _ _ => rfl, fun _ _ => rfl, fun h => by omega⟩
    rw [e_X8_read, if_neg (show ¬ (1 ≤ m ∧ m ≤ 40 ∧ 0 ≤ a ∧ a + m ≤ (g.2.2.2.2.1 : Nat)) by omega)]
    simp (disch := (first | assumption | (unfold i32; omega) | (unfold i64; omega) | omega)) only [↓reduceIte, ki_0, ki_1, ki_2, ki_3, ki_4, ki_5, ki_6, ki_7, ki_8, ki_9, ki_10, ki_11, ki_12, ki_13, ki_14, ki_15, ki_20, ki_21, ki_30, ki_31, ki_40, ki_41, ki_50, ki_51, ki_60, ki_63, ki_64, ki_65, ki_100, ki_158, ki_160, ki_200, ki_212, ki_1000, ki_2000, ki_2001, ki_5000, ki_10000, ki_10001, ki_100000, ki_200000, ki_1000000, ki_2000000, ki_3000000, iO_neg, iO_add, iO_sub, iO_mul, kn_4, kn_8, kn_10, kn_20, kn_24, kn_40, kn_41, kn_50, kn_60, kn_158, kn_160, kn_200, kn_212, kn_2001, tn_lt, fn_lt, tn_le, fn_le, tn_eq, fn_eq, x_lt, x_le, x_eq, x_ix, x_nat, t_lt, f_lt, t_le, f_le, t_eq, f_eq, eq_self, and_self, true_and, and_true, false_and, and_false, if_true, if_false, Int.toNat_natCast, bI_s, bL_s, bA_s, bA_n, bV_s, mq_s, mq_n, en_le, bl_0, bl_1, u_eq, u_ne, w_eq, w_ne, v_eq, v_ne]
  by_cases t2 : 10000 < a
  · refine ⟨XI, XA, D, ?_, hV, KP.refl, fun _ _ => rfl, fun _ _ => rfl, fun h => by omega⟩
    rw [e_X8_read, if_neg (show ¬ (1 ≤ m ∧ m ≤ 40 ∧ 0 ≤ a ∧ a + m ≤ (g.2.2.2.2.1 : Nat)) by omega)]
    simp (disch := (first | assumption | (unfold i32; omega) | (unfold i64; omega) | omega)) only [↓reduceIte, ki_0, ki_1, ki_2, ki_3, ki_4, ki_5, ki_6, ki_7, ki_8, ki_9, ki_10, ki_11, ki_12, ki_13, ki_14, ki_15, ki_20, ki_21, ki_30, ki_31, ki_40, ki_41, ki_50, ki_51, ki_60, ki_63, ki_64, ki_65, ki_100, ki_158, ki_160, ki_200, ki_212, ki_1000, ki_2000, ki_2001, ki_5000, ki_10000, ki_10001, ki_100000, ki_200000, ki_1000000, ki_2000000, ki_3000000, iO_neg, iO_add, iO_sub, iO_mul, kn_4, kn_8, kn_10, kn_20, kn_24, kn_40, kn_41, kn_50, kn_60, kn_158, kn_160, kn_200, kn_212, kn_2001, tn_lt, fn_lt, tn_le, fn_le, tn_eq, fn_eq, x_lt, x_le, x_eq, x_ix, x_nat, t_lt, f_lt, t_le, f_le, t_eq, f_eq, eq_self, and_self, true_and, and_true, false_and, and_false, if_true, if_false, Int.toNat_natCast, bI_s, bL_s, bA_s, bA_n, bV_s, mq_s, mq_n, en_le, bl_0, bl_1, u_eq, u_ne, w_eq, w_ne, v_eq, v_ne]
  by_cases t3 : m < 1
  · refine ⟨XI, XA, D, ?_, hV, KP.refl, fun _ _ => rfl, fun _ _ => rfl, fun h => by omega⟩
    rw [e_X8_read, if_neg (show ¬ (1 ≤ m ∧ m ≤ 40 ∧ 0 ≤ a ∧ a + m ≤ (g.2.2.2.2.1 : Nat)) by omega)]
    simp (disch := (first | assumption | (unfold i32; omega) | (unfold i64; omega) | omega)) only [↓reduceIte, ki_0, ki_1, ki_2, ki_3, ki_4, ki_5, ki_6, ki_7, ki_8, ki_9, ki_10, ki_11, ki_12, ki_13, ki_14, ki_15, ki_20, ki_21, ki_30, ki_31, ki_40, ki_41, ki_50, ki_51, ki_60, ki_63, ki_64, ki_65, ki_100, ki_158, ki_160, ki_200, ki_212, ki_1000, ki_2000, ki_2001, ki_5000, ki_10000, ki_10001, ki_100000, ki_200000, ki_1000000, ki_2000000, ki_3000000, iO_neg, iO_add, iO_sub, iO_mul, kn_4, kn_8, kn_10, kn_20, kn_24, kn_40, kn_41, kn_50, kn_60, kn_158, kn_160, kn_200, kn_212, kn_2001, tn_lt, fn_lt, tn_le, fn_le, tn_eq, fn_eq, x_lt, x_le, x_eq, x_ix, x_nat, t_lt, f_lt, t_le, f_le, t_eq, f_eq, eq_self, and_self, true_and, and_true, false_and, and_false, if_true, if_false, Int.toNat_natCast, bI_s, bL_s, bA_s, bA_n, bV_s, mq_s, mq_n, en_le, bl_0, bl_1, u_eq, u_ne, w_eq, w_ne, v_eq, v_ne]
  by_cases t4 : 40 < m
  · refine ⟨XI, XA, D, ?_, hV, KP.refl, fun _ _ => rfl, fun _ _ => rfl, fun h => by omega⟩
    rw [e_X8_read, if_neg (show ¬ (1 ≤ m ∧ m ≤ 40 ∧ 0 ≤ a ∧ a + m ≤ (g.2.2.2.2.1 : Nat)) by omega)]
    simp (disch := (first | assumption | (unfold i32; omega) | (unfold i64; omega) | omega)) only [↓reduceIte, ki_0, ki_1, ki_2, ki_3, ki_4, ki_5, ki_6, ki_7, ki_8, ki_9, ki_10, ki_11, ki_12, ki_13, ki_14, ki_15, ki_20, ki_21, ki_30, ki_31, ki_40, ki_41, ki_50, ki_51, ki_60, ki_63, ki_64, ki_65, ki_100, ki_158, ki_160, ki_200, ki_212, ki_1000, ki_2000, ki_2001, ki_5000, ki_10000, ki_10001, ki_100000, ki_200000, ki_1000000, ki_2000000, ki_3000000, iO_neg, iO_add, iO_sub, iO_mul, kn_4, kn_8, kn_10, kn_20, kn_24, kn_40, kn_41, kn_50, kn_60, kn_158, kn_160, kn_200, kn_212, kn_2001, tn_lt, fn_lt, tn_le, fn_le, tn_eq, fn_eq, x_lt, x_le, x_eq, x_ix, x_nat, t_lt, f_lt, t_le, f_le, t_eq, f_eq, eq_self, and_self, true_and, and_true, false_and, and_false, if_true, if_false, Int.toNat_natCast, bI_s, bL_s, bA_s, bA_n, bV_s, mq_s, mq_n, en_le, bl_0, bl_1, u_eq, u_ne, w_eq, w_ne, v_eq, v_ne]
  obtain ⟨x, rfl⟩ : ∃ x : Nat, a = x := ⟨a.toNat, by omega⟩
  obtain ⟨y, rfl⟩ : ∃ y : Nat, m = y := ⟨m.toNat, by omega⟩
  obtain ⟨XA', D', f1, f2, f3, f4, f5⟩ := x_read_loop (sc := sc) hg h9 (m := n0 + 38) (by omega) (va_up XI 11 (iO (y : Nat))) XP XC MI MA ML (fr := x) (n := y) (by omega) (by omega) (by omega) y 0 XA D (by omega) hV (Or.inl rfl) (by
    intro t ht
    obtain rfl : t = 0 := by omega
    show XA 1 0 = XA 1 0 + iO 0
    rw [← ki_0, Int32.add_zero])
  refine ⟨va_up XI 11 (iO (y : Nat)), XA', D', ?_, f2, f3, fun t ht => w_ne ht, f4, fun h => ⟨rfl, ?_⟩⟩
  · have e : (if 1 ≤ (y : Int) ∧ (y : Int) ≤ 40 ∧ 0 ≤ (x : Int) ∧ (x : Int) + (y : Int) ≤ (g.2.2.2.2.1 : Nat) then (1 : Int) else 0) = if x + y ≤ g.2.2.2.2.1 then 1 else 0 := by
      by_cases e : x + y ≤ g.2.2.2.2.1
      · rw [if_pos e, if_pos (by omega)]
      · rw [if_neg e, if_neg (by omega)]
    rw [e, ← f1, e_X8_read]
    clear f1 f2 f3 f4 f5 e
    simp (disch := (first | assumption | (unfold i32; omega) | (unfold i64; omega) | omega)) only [↓reduceIte, ki_0, ki_1, ki_2, ki_3, ki_4, ki_5, ki_6, ki_7, ki_8, ki_9, ki_10, ki_11, ki_12, ki_13, ki_14, ki_15, ki_20, ki_21, ki_30, ki_31, ki_40, ki_41, ki_50, ki_51, ki_60, ki_63, ki_64, ki_65, ki_100, ki_158, ki_160, ki_200, ki_212, ki_1000, ki_2000, ki_2001, ki_5000, ki_10000, ki_10001, ki_100000, ki_200000, ki_1000000, ki_2000000, ki_3000000, iO_neg, iO_add, iO_sub, iO_mul, kn_4, kn_8, kn_10, kn_20, kn_24, kn_40, kn_41, kn_50, kn_60, kn_158, kn_160, kn_200, kn_212, kn_2001, tn_lt, fn_lt, tn_le, fn_le, tn_eq, fn_eq, x_lt, x_le, x_eq, x_ix, x_nat, t_lt, f_lt, t_le, f_le, t_eq, f_eq, eq_self, and_self, true_and, and_true, false_and, and_false, if_true, if_false, Int.toNat_natCast, bI_s, bL_s, bA_s, bA_n, bV_s, mq_s, mq_n, en_le, bl_0, bl_1, u_eq, u_ne, w_eq, w_ne, v_eq, v_ne, hp_cc_7, hp_g_7_0, hp_p_7_0, hp_g_7_1, hp_p_7_1, hp_g_7_2, hp_p_7_2, hp_g_7_3, hp_p_7_3, hp_g_7_4, hp_p_7_4, hp_g_7_5, hp_p_7_5, hp_g_7_6, hp_p_7_6, hp_g_7_7, hp_g_7_8, hp_p_7_8, hp_g_7_9, hp_p_7_9, hp_g_7_10, hp_p_7_10, hp_a_8, hp_s_8, hp_l_8]
    rfl
  · rw [Int.toNat_natCast, Int.toNat_natCast]
    exact f5 (by omega)
end RDS
/-- least and greatest sums of a length -/
def mns (t : Nat → Nat → Int) (k : Nat) : Nat → Int
  | 0 => t 0 k
  | j + 1 => min (mns t k j) (t (j + 1) k)
def mxs (t : Nat → Nat → Int) (k : Nat) : Nat → Int
  | 0 => t 0 k
  | j + 1 => max (mxs t k j) (t (j + 1) k)
theorem mns_le {t : Nat → Nat → Int} {k : Nat} : ∀ (j a : Nat), a ≤ j → mns t k j ≤ t a k
  | 0, a, h => by
    obtain rfl : a = 0 := by omega
    exact Int.le_refl _
  | j + 1, a, h => by
    rw [mns]
    by_cases e : a = j + 1
    · subst e; omega
    · have := mns_le (t := t) (k := k) j a (by omega)
      omega
theorem le_mxs {t : Nat → Nat → Int} {k : Nat} : ∀ (j a : Nat), a ≤ j → t a k ≤ mxs t k j
  | 0, a, h => by
    obtain rfl : a = 0 := by omega
    exact Int.le_refl _
  | j + 1, a, h => by
    rw [mxs]
    by_cases e : a = j + 1
    · subst e; omega
    · have := le_mxs (t := t) (k := k) j a (by omega)
      omega
theorem mns_at {t : Nat → Nat → Int} {k : Nat} : ∀ (j : Nat), ∃ a, a ≤ j ∧ mns t k j = t a k
  | 0 => ⟨0, by omega, rfl⟩
  | j + 1 => by
    obtain ⟨a, h1, h2⟩ := mns_at (t := t) (k := k) j
    rw [mns]
    by_cases e : mns t k j ≤ t (j + 1) k
    · exact ⟨a, by omega, by omega⟩
    · exact ⟨j + 1, by omega, by omega⟩
theorem mxs_at {t : Nat → Nat → Int} {k : Nat} : ∀ (j : Nat), ∃ a, a ≤ j ∧ mxs t k j = t a k
  | 0 => ⟨0, by omega, rfl⟩
  | j + 1 => by
    obtain ⟨a, h1, h2⟩ := mxs_at (t := t) (k := k) j
    rw [mxs]
    by_cases e : mxs t k j ≤ t (j + 1) k
    · exact ⟨j + 1, by omega, by omega⟩
    · exact ⟨a, by omega, by omega⟩
theorem cl3_none {t : Nat → Nat → Int} {k a : Nat} : ∀ (j b : Nat), cl3 t k a j b = none ↔ ∀ x, b ≤ x → x < b + j → ¬ (1 < t a k - t x k ∨ t a k - t x k < -1)
  | 0, b => ⟨fun _ x h1 h2 => by omega, fun _ => rfl⟩
  | j + 1, b => by
    rw [cl3]
    by_cases g : 1 < t a k - t b k ∨ t a k - t b k < -1
    · rw [if_pos g]
      exact ⟨(fun h => by cases h), fun h => absurd g (h b (by omega) (by omega))⟩
    · rw [if_neg g, cl3_none j (b + 1)]
      constructor
      · intro h x h1 h2
        by_cases e : x = b
        · subst e; exact g
        · exact h x (by omega) (by omega)
      · intro h x h1 h2
        exact h x (by omega) (by omega)
theorem cl2_none {t : Nat → Nat → Int} {n k : Nat} : ∀ (j a : Nat), cl2 t n k j a = none ↔ ∀ x, a ≤ x → x < a + j → cl3 t k x (n - k - x) (x + 1) = none
  | 0, a => ⟨fun _ x h1 h2 => by omega, fun _ => rfl⟩
  | j + 1, a => by
    rw [cl2]
    cases hc : cl3 t k a (n - k - a) (a + 1) with
    | some c =>
      exact ⟨(fun h => by cases h), fun h => by have := h a (by omega) (by omega); rw [hc] at this; cases this⟩
    | none =>
      show cl2 t n k j (a + 1) = none ↔ _
      rw [cl2_none j (a + 1)]
      constructor
      · intro h x h1 h2
        by_cases e : x = a
        · subst e; exact hc
        · exact h x (by omega) (by omega)
      · intro h x h1 h2
        exact h x (by omega) (by omega)
theorem cl2_iff {t : Nat → Nat → Int} {n k : Nat} (hk : k ≤ n) : cl2 t n k (n + 1 - k) 0 = none ↔ mxs t k (n - k) - mns t k (n - k) ≤ 1 := by
  rw [cl2_none]
  constructor
  · intro h
    obtain ⟨a, a1, a2⟩ := mxs_at (t := t) (k := k) (n - k)
    obtain ⟨b, b1, b2⟩ := mns_at (t := t) (k := k) (n - k)
    rw [a2, b2]
    rcases Nat.lt_trichotomy a b with g | g | g
    · have := (cl3_none _ _).mp (h a (by omega) (by omega)) b (by omega) (by omega)
      omega
    · subst g; omega
    · have := (cl3_none _ _).mp (h b (by omega) (by omega)) a (by omega) (by omega)
      omega
  · intro h x h1 h2
    rw [cl3_none]
    intro y h3 h4
    have e1 := le_mxs (t := t) (k := k) (n - k) x (by omega)
    have e2 := le_mxs (t := t) (k := k) (n - k) y (by omega)
    have e3 := mns_le (t := t) (k := k) (n - k) x (by omega)
    have e4 := mns_le (t := t) (k := k) (n - k) y (by omega)
    omega
section STC
variable {sc : en_S} {d : Nat} {XI : Nat → Int32} {XA : Nat → Nat → Int32} {XP : Nat → Nat → Option Nat} {XC : Value} {MI : Nat → Int32} {MA : Nat → Nat → Int32} {ML : Nat → Nat → Int64} {D : en_H} {fr n : Nat} {f : Nat → Int}
theorem x_sumFrom (hn : n ≤ 40) (hs : ∀ t, t ≤ n → XA 1 t = XA 1 0 + iO (ssum f fr t)) {a k : Nat} (h : a + k ≤ n) : f_X8_sumFrom sc (d + 1) 7 (iO (a : Nat)) (iO (k : Nat)) (hp XI XA XP XC MI MA ML D) = some (some (.int (iO (ssum f (fr + a) k))), hp XI XA XP XC MI MA ML D) := by
  have e1 : ((a : Int) + (k : Int)).toNat = a + k := by omega
  have h1 := hs (a + k) h
  have h2 := hs a (by omega)
  have h3 : XA 1 (a + k) - XA 1 a = iO (ssum f (fr + a) k) := by
    rw [h1, h2, i32_sub, ssum_split]
    congr 1
    omega
  rw [e_X8_sumFrom]
  clear hs h1 h2
  simp (disch := (first | assumption | (unfold i32; omega) | (unfold i64; omega) | omega)) only [↓reduceIte, ki_0, ki_1, ki_2, ki_3, ki_4, ki_5, ki_6, ki_7, ki_8, ki_9, ki_10, ki_11, ki_12, ki_13, ki_14, ki_15, ki_20, ki_21, ki_30, ki_31, ki_40, ki_41, ki_50, ki_51, ki_60, ki_63, ki_64, ki_65, ki_100, ki_158, ki_160, ki_200, ki_212, ki_1000, ki_2000, ki_2001, ki_5000, ki_10000, ki_10001, ki_100000, ki_200000, ki_1000000, ki_2000000, ki_3000000, iO_neg, iO_add, iO_sub, iO_mul, kn_4, kn_8, kn_10, kn_20, kn_24, kn_40, kn_41, kn_50, kn_60, kn_158, kn_160, kn_200, kn_212, kn_2001, tn_lt, fn_lt, tn_le, fn_le, tn_eq, fn_eq, x_lt, x_le, x_eq, x_ix, x_nat, t_lt, f_lt, t_le, f_le, t_eq, f_eq, eq_self, and_self, true_and, and_true, false_and, and_false, if_true, if_false, Int.toNat_natCast, bI_s, bL_s, bA_s, bA_n, bV_s, mq_s, mq_n, en_le, bl_0, bl_1, u_eq, u_ne, w_eq, w_ne, v_eq, v_ne, hp_cc_7, hp_g_7_0, hp_p_7_0, hp_g_7_1, hp_p_7_1, hp_g_7_2, hp_p_7_2, hp_g_7_3, hp_p_7_3, hp_g_7_4, hp_p_7_4, hp_g_7_5, hp_p_7_5, hp_g_7_6, hp_p_7_6, hp_g_7_7, hp_g_7_8, hp_p_7_8, hp_g_7_9, hp_p_7_9, hp_g_7_10, hp_p_7_10, hp_a_8, hp_s_8, hp_l_8, e1, h3]
theorem x_cmp_loop (hn : n ≤ 40) (hs : ∀ t, t ≤ n → XA 1 t = XA 1 0 + iO (ssum f fr t)) (hb : ∀ a k, a + k ≤ n → 0 ≤ ssum f (fr + a) k ∧ ssum f (fr + a) k ≤ 10000) {k : Nat} (hk : 1 ≤ k) (hk2 : k ≤ n) : ∀ (j i : Nat) (XI : Nat → Int32), i + j = n - k → XI 11 = iO (n : Nat) → XI 12 = iO (mns (fun a k => ssum f (fr + a) k) k i) → XI 13 = iO (mxs (fun a k => ssum f (fr + a) k) k i) →
    ∃ XI', b_X8_compareSums_1 sc (d + 1) 7 (iO (k : Nat)) (iO ((i : Int) + 1)) (hp XI XA XP XC MI MA ML D) = some (none, hp XI' XA XP XC MI MA ML D) ∧ XI' 12 = iO (mns (fun a k => ssum f (fr + a) k) k (n - k)) ∧ XI' 13 = iO (mxs (fun a k => ssum f (fr + a) k) k (n - k)) ∧ ∀ s, s ≠ 12 → s ≠ 13 → XI' s = XI s := by
  intro j
  induction j with
  | zero =>
    intro i XI hi h11 h12 h13
    obtain rfl : i = n - k := by omega
    refine ⟨XI, ?_, h12, h13, fun _ _ _ => rfl⟩
    rw [eb_X8_compareSums_1]
    clear hs hb h12 h13
    simp (disch := (first | assumption | (unfold i32; omega) | (unfold i64; omega) | omega)) only [↓reduceIte, ki_0, ki_1, ki_2, ki_3, ki_4, ki_5, ki_6, ki_7, ki_8, ki_9, ki_10, ki_11, ki_12, ki_13, ki_14, ki_15, ki_20, ki_21, ki_30, ki_31, ki_40, ki_41, ki_50, ki_51, ki_60, ki_63, ki_64, ki_65, ki_100, ki_158, ki_160, ki_200, ki_212, ki_1000, ki_2000, ki_2001, ki_5000, ki_10000, ki_10001, ki_100000, ki_200000, ki_1000000, ki_2000000, ki_3000000, iO_neg, iO_add, iO_sub, iO_mul, kn_4, kn_8, kn_10, kn_20, kn_24, kn_40, kn_41, kn_50, kn_60, kn_158, kn_160, kn_200, kn_212, kn_2001, tn_lt, fn_lt, tn_le, fn_le, tn_eq, fn_eq, x_lt, x_le, x_eq, x_ix, x_nat, t_lt, f_lt, t_le, f_le, t_eq, f_eq, eq_self, and_self, true_and, and_true, false_and, and_false, if_true, if_false, Int.toNat_natCast, bI_s, bL_s, bA_s, bA_n, bV_s, mq_s, mq_n, en_le, bl_0, bl_1, u_eq, u_ne, w_eq, w_ne, v_eq, v_ne, hp_cc_7, hp_g_7_0, hp_p_7_0, hp_g_7_1, hp_p_7_1, hp_g_7_2, hp_p_7_2, hp_g_7_3, hp_p_7_3, hp_g_7_4, hp_p_7_4, hp_g_7_5, hp_p_7_5, hp_g_7_6, hp_p_7_6, hp_g_7_7, hp_g_7_8, hp_p_7_8, hp_g_7_9, hp_p_7_9, hp_g_7_10, hp_p_7_10, hp_a_8, hp_s_8, hp_l_8, h11]
  | succ j ih =>
    intro i XI hi h11 h12 h13
    have hsum := x_sumFrom (sc := sc) (d := d) (XI := XI) (XP := XP) (XC := XC) (MI := MI) (MA := MA) (ML := ML) (D := D) hn hs (a := i + 1) (k := k) (by omega)
    obtain ⟨u1, u2⟩ := hb (i + 1) k (by omega)
    obtain ⟨x, x1, x2⟩ := mns_at (t := fun a k => ssum f (fr + a) k) (k := k) i
    obtain ⟨y, y1, y2⟩ := mxs_at (t := fun a k => ssum f (fr + a) k) (k := k) i
    have v1 := hb x k (by omega)
    have v2 := hb y k (by omega)
    have x2 : mns (fun a k => ssum f (fr + a) k) k i = ssum f (fr + x) k := x2
    have y2 : mxs (fun a k => ssum f (fr + a) k) k i = ssum f (fr + y) k := y2
    obtain ⟨XI', f1, f2, f3, f4⟩ := ih (i + 1) (va_up (va_up XI 12 (iO (min (mns (fun a k => ssum f (fr + a) k) k i) (ssum f (fr + (i + 1)) k)))) 13 (iO (max (mxs (fun a k => ssum f (fr + a) k) k i) (ssum f (fr + (i + 1)) k)))) (by omega) h11 rfl rfl
    refine ⟨XI', ?_, f2, f3, fun s h1 h2 => by rw [f4 s h1 h2, w_ne h2, w_ne h1]⟩
    rw [← f1, eb_X8_compareSums_1]
    rw [show ((i + 1 : Nat) : Int) = (i : Int) + 1 by omega] at hsum
    rw [← x2] at v1
    rw [← y2] at v2
    generalize mns (fun a k => ssum f (fr + a) k) k i = P at *
    generalize mxs (fun a k => ssum f (fr + a) k) k i = Q at *
    generalize ssum f (fr + (i + 1)) k = R at *
    clear f1 f2 f3 f4 ih hs hb x2 y2
    simp (disch := (first | assumption | (unfold i32; omega) | (unfold i64; omega) | omega)) only [↓reduceIte, ki_0, ki_1, ki_2, ki_3, ki_4, ki_5, ki_6, ki_7, ki_8, ki_9, ki_10, ki_11, ki_12, ki_13, ki_14, ki_15, ki_20, ki_21, ki_30, ki_31, ki_40, ki_41, ki_50, ki_51, ki_60, ki_63, ki_64, ki_65, ki_100, ki_158, ki_160, ki_200, ki_212, ki_1000, ki_2000, ki_2001, ki_5000, ki_10000, ki_10001, ki_100000, ki_200000, ki_1000000, ki_2000000, ki_3000000, iO_neg, iO_add, iO_sub, iO_mul, kn_4, kn_8, kn_10, kn_20, kn_24, kn_40, kn_41, kn_50, kn_60, kn_158, kn_160, kn_200, kn_212, kn_2001, tn_lt, fn_lt, tn_le, fn_le, tn_eq, fn_eq, x_lt, x_le, x_eq, x_ix, x_nat, t_lt, f_lt, t_le, f_le, t_eq, f_eq, eq_self, and_self, true_and, and_true, false_and, and_false, if_true, if_false, Int.toNat_natCast, bI_s, bL_s, bA_s, bA_n, bV_s, mq_s, mq_n, en_le, bl_0, bl_1, u_eq, u_ne, w_eq, w_ne, v_eq, v_ne, hp_cc_7, hp_g_7_0, hp_p_7_0, hp_g_7_1, hp_p_7_1, hp_g_7_2, hp_p_7_2, hp_g_7_3, hp_p_7_3, hp_g_7_4, hp_p_7_4, hp_g_7_5, hp_p_7_5, hp_g_7_6, hp_p_7_6, hp_g_7_7, hp_g_7_8, hp_p_7_8, hp_g_7_9, hp_p_7_9, hp_g_7_10, hp_p_7_10, hp_a_8, hp_s_8, hp_l_8, h11, h12, h13, hsum, e_minI, e_maxI]
    rfl
theorem x_cmp (hn : n ≤ 40) (hs : ∀ t, t ≤ n → XA 1 t = XA 1 0 + iO (ssum f fr t)) (hb : ∀ a k, a + k ≤ n → 0 ≤ ssum f (fr + a) k ∧ ssum f (fr + a) k ≤ 10000) {k : Nat} (hk : 1 ≤ k) (hk2 : k ≤ n) (XI : Nat → Int32) (h11 : XI 11 = iO (n : Nat)) : ∃ XI', f_X8_compareSums sc (d + 2) 7 (iO (k : Nat)) (hp XI XA XP XC MI MA ML D) = some (none, hp XI' XA XP XC MI MA ML D) ∧ XI' 12 = iO (mns (fun a k => ssum f (fr + a) k) k (n - k)) ∧ XI' 13 = iO (mxs (fun a k => ssum f (fr + a) k) k (n - k)) ∧ ∀ s, s ≠ 12 → s ≠ 13 → XI' s = XI s := by
  have hsum := x_sumFrom (sc := sc) (d := d) (XI := XI) (XP := XP) (XC := XC) (MI := MI) (MA := MA) (ML := ML) (D := D) hn hs (a := 0) (k := k) (by omega)
  obtain ⟨XI', f1, f2, f3, f4⟩ := x_cmp_loop (sc := sc) (d := d) (XP := XP) (XC := XC) (MI := MI) (MA := MA) (ML := ML) (D := D) hn hs hb hk hk2 (n - k) 0 (va_up (va_up XI 12 (iO (ssum f (fr + 0) k))) 13 (iO (ssum f (fr + 0) k))) (by omega) h11 rfl rfl
  refine ⟨XI', ?_, f2, f3, fun s h1 h2 => by rw [f4 s h1 h2, w_ne h2, w_ne h1]⟩
  rw [← f1, e_X8_compareSums]
  have hsum : f_X8_sumFrom sc (d + 1) 7 (iO 0) (iO (k : Nat)) (hp XI XA XP XC MI MA ML D) = _ := hsum
  clear f1 f2 f3 f4 hs hb
  simp (disch := (first | assumption | (unfold i32; omega) | (unfold i64; omega) | omega)) only [↓reduceIte, ki_0, ki_1, ki_2, ki_3, ki_4, ki_5, ki_6, ki_7, ki_8, ki_9, ki_10, ki_11, ki_12, ki_13, ki_14, ki_15, ki_20, ki_21, ki_30, ki_31, ki_40, ki_41, ki_50, ki_51, ki_60, ki_63, ki_64, ki_65, ki_100, ki_158, ki_160, ki_200, ki_212, ki_1000, ki_2000, ki_2001, ki_5000, ki_10000, ki_10001, ki_100000, ki_200000, ki_1000000, ki_2000000, ki_3000000, iO_neg, iO_add, iO_sub, iO_mul, kn_4, kn_8, kn_10, kn_20, kn_24, kn_40, kn_41, kn_50, kn_60, kn_158, kn_160, kn_200, kn_212, kn_2001, tn_lt, fn_lt, tn_le, fn_le, tn_eq, fn_eq, x_lt, x_le, x_eq, x_ix, x_nat, t_lt, f_lt, t_le, f_le, t_eq, f_eq, eq_self, and_self, true_and, and_true, false_and, and_false, if_true, if_false, Int.toNat_natCast, bI_s, bL_s, bA_s, bA_n, bV_s, mq_s, mq_n, en_le, bl_0, bl_1, u_eq, u_ne, w_eq, w_ne, v_eq, v_ne, hp_cc_7, hp_g_7_0, hp_p_7_0, hp_g_7_1, hp_p_7_1, hp_g_7_2, hp_p_7_2, hp_g_7_3, hp_p_7_3, hp_g_7_4, hp_p_7_4, hp_g_7_5, hp_p_7_5, hp_g_7_6, hp_p_7_6, hp_g_7_7, hp_g_7_8, hp_p_7_8, hp_g_7_9, hp_p_7_9, hp_g_7_10, hp_p_7_10, hp_a_8, hp_s_8, hp_l_8, hsum]
  rfl
end STC
-- FILE 87
/-! THE CLASH: the class finds it; isEven, clash: both sides -/
section FCL
variable {sc : en_S} {d : Nat} {XA : Nat → Nat → Int32} {XP : Nat → Nat → Option Nat} {XC : Value} {MI : Nat → Int32} {MA : Nat → Nat → Int32} {ML : Nat → Nat → Int64} {D : en_H} {fr n : Nat} {f : Nat → Int}
theorem x_places2 (hn : n ≤ 40) (hs : ∀ t, t ≤ n → XA 1 t = XA 1 0 + iO (ssum f fr t)) (hb : ∀ a k, a + k ≤ n → 0 ≤ ssum f (fr + a) k ∧ ssum f (fr + a) k ≤ 10000) {k a : Nat} (hk : 1 ≤ k) (hak : a + k ≤ n) (XI : Nat → Int32) (h11 : XI 11 = iO (n : Nat)) : ∀ (j b : Nat), b + k + j = n + 1 → a < b →
    (match cl3 (fun a k => ssum f (fr + a) k) k a j b with
    | some c => ∃ b' : Nat, c = 10000 * (k : Int) + 100 * (a : Int) + (b' : Int) ∧ b' ≤ 40 ∧ b_X8_findClashPlaces_2 sc (d + 1) 7 (iO (k : Nat)) (iO (a : Nat)) (iO (b : Nat)) (hp XI XA XP XC MI MA ML D) = some (some (.int (iO 1)), hp (va_up (va_up XI 5 (iO (a : Nat))) 6 (iO (b' : Nat))) XA XP XC MI MA ML D)
    | none => b_X8_findClashPlaces_2 sc (d + 1) 7 (iO (k : Nat)) (iO (a : Nat)) (iO (b : Nat)) (hp XI XA XP XC MI MA ML D) = b_X8_findClashPlaces_1 sc (d + 1) 7 (iO (k : Nat)) (iO ((a + 1 : Nat) : Int)) (hp XI XA XP XC MI MA ML D)) := by
  intro j
  induction j with
  | zero =>
    intro b h1 h2
    show b_X8_findClashPlaces_2 sc (d + 1) 7 (iO (k : Nat)) (iO (a : Nat)) (iO (b : Nat)) (hp XI XA XP XC MI MA ML D) = _
    rw [eb_X8_findClashPlaces_2]
    clear hs hb
    simp (disch := (first | assumption | (unfold i32; omega) | (unfold i64; omega) | omega)) only [↓reduceIte, ki_0, ki_1, ki_2, ki_3, ki_4, ki_5, ki_6, ki_7, ki_8, ki_9, ki_10, ki_11, ki_12, ki_13, ki_14, ki_15, ki_20, ki_21, ki_30, ki_31, ki_40, ki_41, ki_50, ki_51, ki_60, ki_63, ki_64, ki_65, ki_100, ki_158, ki_160, ki_200, ki_212, ki_1000, ki_2000, ki_2001, ki_5000, ki_10000, ki_10001, ki_100000, ki_200000, ki_1000000, ki_2000000, ki_3000000, iO_neg, iO_add, iO_sub, iO_mul, kn_4, kn_8, kn_10, kn_20, kn_24, kn_40, kn_41, kn_50, kn_60, kn_158, kn_160, kn_200, kn_212, kn_2001, tn_lt, fn_lt, tn_le, fn_le, tn_eq, fn_eq, x_lt, x_le, x_eq, x_ix, x_nat, t_lt, f_lt, t_le, f_le, t_eq, f_eq, eq_self, and_self, true_and, and_true, false_and, and_false, if_true, if_false, Int.toNat_natCast, bI_s, bL_s, bA_s, bA_n, bV_s, mq_s, mq_n, en_le, bl_0, bl_1, u_eq, u_ne, w_eq, w_ne, v_eq, v_ne, hp_cc_7, hp_g_7_0, hp_p_7_0, hp_g_7_1, hp_p_7_1, hp_g_7_2, hp_p_7_2, hp_g_7_3, hp_p_7_3, hp_g_7_4, hp_p_7_4, hp_g_7_5, hp_p_7_5, hp_g_7_6, hp_p_7_6, hp_g_7_7, hp_g_7_8, hp_p_7_8, hp_g_7_9, hp_p_7_9, hp_g_7_10, hp_p_7_10, hp_a_8, hp_s_8, hp_l_8, h11]
    rfl
  | succ j ih =>
    intro b h1 h2
    have ih' := ih (b + 1) (by omega) (by omega)
    have s1 := x_sumFrom (sc := sc) (d := d) (XI := XI) (XP := XP) (XC := XC) (MI := MI) (MA := MA) (ML := ML) (D := D) hn hs (a := a) (k := k) hak
    have s2 := x_sumFrom (sc := sc) (d := d) (XI := XI) (XP := XP) (XC := XC) (MI := MI) (MA := MA) (ML := ML) (D := D) hn hs (a := b) (k := k) (by omega)
    obtain ⟨u1, u2⟩ := hb a k (by omega)
    obtain ⟨u3, u4⟩ := hb b k (by omega)
    rw [cl3]
    have hdef : (1 < (fun a k => ssum f (fr + a) k) a k - (fun a k => ssum f (fr + a) k) b k ∨ (fun a k => ssum f (fr + a) k) a k - (fun a k => ssum f (fr + a) k) b k < -1) = (1 < ssum f (fr + a) k - ssum f (fr + b) k ∨ ssum f (fr + a) k - ssum f (fr + b) k < -1) := rfl
    by_cases g : 1 < ssum f (fr + a) k - ssum f (fr + b) k ∨ ssum f (fr + a) k - ssum f (fr + b) k < -1
    · rw [if_pos (hdef ▸ g)]
      refine ⟨b, rfl, by omega, ?_⟩
      rw [eb_X8_findClashPlaces_2]
      clear ih ih' hs hb hdef
      generalize ssum f (fr + a) k = x at *
      generalize ssum f (fr + b) k = y at *
      have g2 : 1 < (if 0 ≤ x - y then x - y else -(x - y)) := by split <;> omega
      have g3 : (if 0 ≤ x - y then x - y else -(x - y)) ≤ 10000 := by split <;> omega
      generalize hw : (if 0 ≤ x - y then x - y else -(x - y)) = w at *
      have habs := fun z => e_absI (sc := sc) (n := d) (a := x - y) (z := z) (by unfold i32; omega)
      rw [hw] at habs
      clear g hw
      simp (disch := (first | assumption | (unfold i32; omega) | (unfold i64; omega) | omega)) only [↓reduceIte, ki_0, ki_1, ki_2, ki_3, ki_4, ki_5, ki_6, ki_7, ki_8, ki_9, ki_10, ki_11, ki_12, ki_13, ki_14, ki_15, ki_20, ki_21, ki_30, ki_31, ki_40, ki_41, ki_50, ki_51, ki_60, ki_63, ki_64, ki_65, ki_100, ki_158, ki_160, ki_200, ki_212, ki_1000, ki_2000, ki_2001, ki_5000, ki_10000, ki_10001, ki_100000, ki_200000, ki_1000000, ki_2000000, ki_3000000, iO_neg, iO_add, iO_sub, iO_mul, kn_4, kn_8, kn_10, kn_20, kn_24, kn_40, kn_41, kn_50, kn_60, kn_158, kn_160, kn_200, kn_212, kn_2001, tn_lt, fn_lt, tn_le, fn_le, tn_eq, fn_eq, x_lt, x_le, x_eq, x_ix, x_nat, t_lt, f_lt, t_le, f_le, t_eq, f_eq, eq_self, and_self, true_and, and_true, false_and, and_false, if_true, if_false, Int.toNat_natCast, bI_s, bL_s, bA_s, bA_n, bV_s, mq_s, mq_n, en_le, bl_0, bl_1, u_eq, u_ne, w_eq, w_ne, v_eq, v_ne, hp_cc_7, hp_g_7_0, hp_p_7_0, hp_g_7_1, hp_p_7_1, hp_g_7_2, hp_p_7_2, hp_g_7_3, hp_p_7_3, hp_g_7_4, hp_p_7_4, hp_g_7_5, hp_p_7_5, hp_g_7_6, hp_p_7_6, hp_g_7_7, hp_g_7_8, hp_p_7_8, hp_g_7_9, hp_p_7_9, hp_g_7_10, hp_p_7_10, hp_a_8, hp_s_8, hp_l_8, h11, s1, s2, habs]
    · rw [if_neg (hdef ▸ g)]
      have e : b_X8_findClashPlaces_2 sc (d + 1) 7 (iO (k : Nat)) (iO (a : Nat)) (iO (b : Nat)) (hp XI XA XP XC MI MA ML D) = b_X8_findClashPlaces_2 sc (d + 1) 7 (iO (k : Nat)) (iO (a : Nat)) (iO ((b + 1 : Nat) : Int)) (hp XI XA XP XC MI MA ML D) := by
        rw [eb_X8_findClashPlaces_2]
        clear ih ih' hs hb hdef
        generalize ssum f (fr + a) k = x at *
        generalize ssum f (fr + b) k = y at *
        have g2 : (if 0 ≤ x - y then x - y else -(x - y)) ≤ 1 := by split <;> omega
        have g3 : 0 ≤ (if 0 ≤ x - y then x - y else -(x - y)) := by split <;> omega
        generalize hw : (if 0 ≤ x - y then x - y else -(x - y)) = w at *
        have habs := fun z => e_absI (sc := sc) (n := d) (a := x - y) (z := z) (by unfold i32; omega)
        rw [hw] at habs
        clear g hw
        simp (disch := (first | assumption | (unfold i32; omega) | (unfold i64; omega) | omega)) only [↓reduceIte, ki_0, ki_1, ki_2, ki_3, ki_4, ki_5, ki_6, ki_7, ki_8, ki_9, ki_10, ki_11, ki_12, ki_13, ki_14, ki_15, ki_20, ki_21, ki_30, ki_31, ki_40, ki_41, ki_50, ki_51, ki_60, ki_63, ki_64, ki_65, ki_100, ki_158, ki_160, ki_200, ki_212, ki_1000, ki_2000, ki_2001, ki_5000, ki_10000, ki_10001, ki_100000, ki_200000, ki_1000000, ki_2000000, ki_3000000, iO_neg, iO_add, iO_sub, iO_mul, kn_4, kn_8, kn_10, kn_20, kn_24, kn_40, kn_41, kn_50, kn_60, kn_158, kn_160, kn_200, kn_212, kn_2001, tn_lt, fn_lt, tn_le, fn_le, tn_eq, fn_eq, x_lt, x_le, x_eq, x_ix, x_nat, t_lt, f_lt, t_le, f_le, t_eq, f_eq, eq_self, and_self, true_and, and_true, false_and, and_false, if_true, if_false, Int.toNat_natCast, bI_s, bL_s, bA_s, bA_n, bV_s, mq_s, mq_n, en_le, bl_0, bl_1, u_eq, u_ne, w_eq, w_ne, v_eq, v_ne, hp_cc_7, hp_g_7_0, hp_p_7_0, hp_g_7_1, hp_p_7_1, hp_g_7_2, hp_p_7_2, hp_g_7_3, hp_p_7_3, hp_g_7_4, hp_p_7_4, hp_g_7_5, hp_p_7_5, hp_g_7_6, hp_p_7_6, hp_g_7_7, hp_g_7_8, hp_p_7_8, hp_g_7_9, hp_p_7_9, hp_g_7_10, hp_p_7_10, hp_a_8, hp_s_8, hp_l_8, h11, s1, s2, habs]
        rfl
      rw [e]
      exact ih'
theorem x_places1 (hn : n ≤ 40) (hs : ∀ t, t ≤ n → XA 1 t = XA 1 0 + iO (ssum f fr t)) (hb : ∀ a k, a + k ≤ n → 0 ≤ ssum f (fr + a) k ∧ ssum f (fr + a) k ≤ 10000) {k : Nat} (hk : 1 ≤ k) (XI : Nat → Int32) (h11 : XI 11 = iO (n : Nat)) : ∀ (j a : Nat), a + k + j = n + 1 →
    (match cl2 (fun a k => ssum f (fr + a) k) n k j a with
    | some c => ∃ a' b' : Nat, c = 10000 * (k : Int) + 100 * (a' : Int) + (b' : Int) ∧ a' ≤ 40 ∧ b' ≤ 40 ∧ b_X8_findClashPlaces_1 sc (d + 1) 7 (iO (k : Nat)) (iO (a : Nat)) (hp XI XA XP XC MI MA ML D) = some (some (.int (iO 1)), hp (va_up (va_up XI 5 (iO (a' : Nat))) 6 (iO (b' : Nat))) XA XP XC MI MA ML D)
    | none => b_X8_findClashPlaces_1 sc (d + 1) 7 (iO (k : Nat)) (iO (a : Nat)) (hp XI XA XP XC MI MA ML D) = some (some (.int (iO 0)), hp XI XA XP XC MI MA ML D)) := by
  intro j
  induction j with
  | zero =>
    intro a ha
    show b_X8_findClashPlaces_1 sc (d + 1) 7 (iO (k : Nat)) (iO (a : Nat)) (hp XI XA XP XC MI MA ML D) = _
    rw [eb_X8_findClashPlaces_1]
    clear hs hb
    simp (disch := (first | assumption | (unfold i32; omega) | (unfold i64; omega) | omega)) only [↓reduceIte, ki_0, ki_1, ki_2, ki_3, ki_4, ki_5, ki_6, ki_7, ki_8, ki_9, ki_10, ki_11, ki_12, ki_13, ki_14, ki_15, ki_20, ki_21, ki_30, ki_31, ki_40, ki_41, ki_50, ki_51, ki_60, ki_63, ki_64, ki_65, ki_100, ki_158, ki_160, ki_200, ki_212, ki_1000, ki_2000, ki_2001, ki_5000, ki_10000, ki_10001, ki_100000, ki_200000, ki_1000000, ki_2000000, ki_3000000, iO_neg, iO_add, iO_sub, iO_mul, kn_4, kn_8, kn_10, kn_20, kn_24, kn_40, kn_41, kn_50, kn_60, kn_158, kn_160, kn_200, kn_212, kn_2001, tn_lt, fn_lt, tn_le, fn_le, tn_eq, fn_eq, x_lt, x_le, x_eq, x_ix, x_nat, t_lt, f_lt, t_le, f_le, t_eq, f_eq, eq_self, and_self, true_and, and_true, false_and, and_false, if_true, if_false, Int.toNat_natCast, bI_s, bL_s, bA_s, bA_n, bV_s, mq_s, mq_n, en_le, bl_0, bl_1, u_eq, u_ne, w_eq, w_ne, v_eq, v_ne, hp_cc_7, hp_g_7_0, hp_p_7_0, hp_g_7_1, hp_p_7_1, hp_g_7_2, hp_p_7_2, hp_g_7_3, hp_p_7_3, hp_g_7_4, hp_p_7_4, hp_g_7_5, hp_p_7_5, hp_g_7_6, hp_p_7_6, hp_g_7_7, hp_g_7_8, hp_p_7_8, hp_g_7_9, hp_p_7_9, hp_g_7_10, hp_p_7_10, hp_a_8, hp_s_8, hp_l_8, h11]
  | succ j ih =>
    intro a ha
    have ih' := ih (a + 1) (by omega)
    have h2 := x_places2 (sc := sc) (d := d) (XP := XP) (XC := XC) (MI := MI) (MA := MA) (ML := ML) (D := D) hn hs hb hk (a := a) (by omega) XI h11 (n - k - a) (a + 1) (by omega) (by omega)
    have e : b_X8_findClashPlaces_1 sc (d + 1) 7 (iO (k : Nat)) (iO (a : Nat)) (hp XI XA XP XC MI MA ML D) = b_X8_findClashPlaces_2 sc (d + 1) 7 (iO (k : Nat)) (iO (a : Nat)) (iO ((a + 1 : Nat) : Int)) (hp XI XA XP XC MI MA ML D) := by
      rw [eb_X8_findClashPlaces_1]
      clear hs hb ih ih' h2
      simp (disch := (first | assumption | (unfold i32; omega) | (unfold i64; omega) | omega)) only [↓reduceIte, ki_0, ki_1, ki_2, ki_3, ki_4, ki_5, ki_6, ki_7, ki_8, ki_9, ki_10, ki_11, ki_12, ki_13, ki_14, ki_15, ki_20, ki_21, ki_30, ki_31, ki_40, ki_41, ki_50, ki_51, ki_60, ki_63, ki_64, ki_65, ki_100, ki_158, ki_160, ki_200, ki_212, ki_1000, ki_2000, ki_2001, ki_5000, ki_10000, ki_10001, ki_100000, ki_200000, ki_1000000, ki_2000000, ki_3000000, iO_neg, iO_add, iO_sub, iO_mul, kn_4, kn_8, kn_10, kn_20, kn_24, kn_40, kn_41, kn_50, kn_60, kn_158, kn_160, kn_200, kn_212, kn_2001, tn_lt, fn_lt, tn_le, fn_le, tn_eq, fn_eq, x_lt, x_le, x_eq, x_ix, x_nat, t_lt, f_lt, t_le, f_le, t_eq, f_eq, eq_self, and_self, true_and, and_true, false_and, and_false, if_true, if_false, Int.toNat_natCast, bI_s, bL_s, bA_s, bA_n, bV_s, mq_s, mq_n, en_le, bl_0, bl_1, u_eq, u_ne, w_eq, w_ne, v_eq, v_ne, hp_cc_7, hp_g_7_0, hp_p_7_0, hp_g_7_1, hp_p_7_1, hp_g_7_2, hp_p_7_2, hp_g_7_3, hp_p_7_3, hp_g_7_4, hp_p_7_4, hp_g_7_5, hp_p_7_5, hp_g_7_6, hp_p_7_6, hp_g_7_7, hp_g_7_8, hp_p_7_8, hp_g_7_9, hp_p_7_9, hp_g_7_10, hp_p_7_10, hp_a_8, hp_s_8, hp_l_8, h11]
      rfl
    rw [e, cl2]
    cases hc : cl3 (fun a k => ssum f (fr + a) k) k a (n - k - a) (a + 1) with
    | some c =>
      rw [hc] at h2
      obtain ⟨b', q1, q2, q3⟩ := h2
      exact ⟨a, b', q1, by omega, q2, q3⟩
    | none =>
      rw [hc] at h2
      have h2 : b_X8_findClashPlaces_2 sc (d + 1) 7 (iO (k : Nat)) (iO (a : Nat)) (iO ((a + 1 : Nat) : Int)) (hp XI XA XP XC MI MA ML D) = _ := h2
      rw [h2]
      exact ih'
theorem x_findClash (hn : n ≤ 40) (hs : ∀ t, t ≤ n → XA 1 t = XA 1 0 + iO (ssum f fr t)) (hb : ∀ a k, a + k ≤ n → 0 ≤ ssum f (fr + a) k ∧ ssum f (fr + a) k ≤ 10000) : ∀ (j k : Nat) (XI : Nat → Int32), XI 11 = iO (n : Nat) → k + j = n + 1 → 1 ≤ k →
    (match cl1 (fun a k => ssum f (fr + a) k) n j k with
    | some c => ∃ (k' a' b' : Nat) (XI' : Nat → Int32), c = 10000 * (k' : Int) + 100 * (a' : Int) + (b' : Int) ∧ k' ≤ 40 ∧ a' ≤ 40 ∧ b' ≤ 40 ∧ b_X8_findClash_1 sc (d + 2) 7 (iO (k : Nat)) (hp XI XA XP XC MI MA ML D) = some (some (.int (iO 1)), hp XI' XA XP XC MI MA ML D) ∧ XI' 4 = iO (k' : Nat) ∧ XI' 5 = iO (a' : Nat) ∧ XI' 6 = iO (b' : Nat) ∧ (∀ s, s < 4 ∨ 15 ≤ s → XI' s = XI s)
    | none => ∃ (XI' : Nat → Int32), b_X8_findClash_1 sc (d + 2) 7 (iO (k : Nat)) (hp XI XA XP XC MI MA ML D) = some (some (.int (iO 0)), hp XI' XA XP XC MI MA ML D) ∧ (∀ s, s < 4 ∨ 15 ≤ s → XI' s = XI s)) := by
  intro j
  induction j with
  | zero =>
    intro k XI h11 h1 h2
    show ∃ (XI' : Nat → Int32), b_X8_findClash_1 sc (d + 2) 7 (iO (k : Nat)) (hp XI XA XP XC MI MA ML D) = _ ∧ _
    refine ⟨XI, ?_, fun _ _ => rfl⟩
    rw [eb_X8_findClash_1]
    clear hs hb
    simp (disch := (first | assumption | (unfold i32; omega) | (unfold i64; omega) | omega)) only [↓reduceIte, ki_0, ki_1, ki_2, ki_3, ki_4, ki_5, ki_6, ki_7, ki_8, ki_9, ki_10, ki_11, ki_12, ki_13, ki_14, ki_15, ki_20, ki_21, ki_30, ki_31, ki_40, ki_41, ki_50, ki_51, ki_60, ki_63, ki_64, ki_65, ki_100, ki_158, ki_160, ki_200, ki_212, ki_1000, ki_2000, ki_2001, ki_5000, ki_10000, ki_10001, ki_100000, ki_200000, ki_1000000, ki_2000000, ki_3000000, iO_neg, iO_add, iO_sub, iO_mul, kn_4, kn_8, kn_10, kn_20, kn_24, kn_40, kn_41, kn_50, kn_60, kn_158, kn_160, kn_200, kn_212, kn_2001, tn_lt, fn_lt, tn_le, fn_le, tn_eq, fn_eq, x_lt, x_le, x_eq, x_ix, x_nat, t_lt, f_lt, t_le, f_le, t_eq, f_eq, eq_self, and_self, true_and, and_true, false_and, and_false, if_true, if_false, Int.toNat_natCast, bI_s, bL_s, bA_s, bA_n, bV_s, mq_s, mq_n, en_le, bl_0, bl_1, u_eq, u_ne, w_eq, w_ne, v_eq, v_ne, hp_cc_7, hp_g_7_0, hp_p_7_0, hp_g_7_1, hp_p_7_1, hp_g_7_2, hp_p_7_2, hp_g_7_3, hp_p_7_3, hp_g_7_4, hp_p_7_4, hp_g_7_5, hp_p_7_5, hp_g_7_6, hp_p_7_6, hp_g_7_7, hp_g_7_8, hp_p_7_8, hp_g_7_9, hp_p_7_9, hp_g_7_10, hp_p_7_10, hp_a_8, hp_s_8, hp_l_8, h11]
  | succ j ih =>
    intro k XI h11 h1 h2
    obtain ⟨XI1, e1, e2, e3, e4⟩ := x_cmp (sc := sc) (d := d) (XP := XP) (XC := XC) (MI := MI) (MA := MA) (ML := ML) (D := D) hn hs hb h2 (by omega) XI h11
    have h11' : XI1 11 = iO (n : Nat) := by rw [e4 11 (by omega) (by omega)]; exact h11
    have hiff := cl2_iff (t := fun a k => ssum f (fr + a) k) (n := n) (k := k) (by omega)
    obtain ⟨x, x1, x2⟩ := mns_at (t := fun a k => ssum f (fr + a) k) (k := k) (n - k)
    obtain ⟨y, y1, y2⟩ := mxs_at (t := fun a k => ssum f (fr + a) k) (k := k) (n - k)
    have v1 := hb x k (by omega)
    have v2 := hb y k (by omega)
    have x2 : mns (fun a k => ssum f (fr + a) k) k (n - k) = ssum f (fr + x) k := x2
    have y2 : mxs (fun a k => ssum f (fr + a) k) k (n - k) = ssum f (fr + y) k := y2
    rw [← x2] at v1
    rw [← y2] at v2
    generalize mns (fun a k => ssum f (fr + a) k) k (n - k) = P at *
    generalize mxs (fun a k => ssum f (fr + a) k) k (n - k) = Q at *
    rw [cl1]
    cases hc : cl2 (fun a k => ssum f (fr + a) k) n k (n + 1 - k) 0 with
    | none =>
      have hle : Q - P ≤ 1 := hiff.mp hc
      have ih' := ih (k + 1) XI1 h11' (by omega) (by omega)
      have e : b_X8_findClash_1 sc (d + 2) 7 (iO (k : Nat)) (hp XI XA XP XC MI MA ML D) = b_X8_findClash_1 sc (d + 2) 7 (iO ((k + 1 : Nat) : Int)) (hp XI1 XA XP XC MI MA ML D) := by
        rw [eb_X8_findClash_1]
        clear hs hb ih ih' hiff hc x2 y2 e4
        simp (disch := (first | assumption | (unfold i32; omega) | (unfold i64; omega) | omega)) only [↓reduceIte, ki_0, ki_1, ki_2, ki_3, ki_4, ki_5, ki_6, ki_7, ki_8, ki_9, ki_10, ki_11, ki_12, ki_13, ki_14, ki_15, ki_20, ki_21, ki_30, ki_31, ki_40, ki_41, ki_50, ki_51, ki_60, ki_63, ki_64, ki_65, ki_100, ki_158, ki_160, ki_200, ki_212, ki_1000, ki_2000, ki_2001, ki_5000, ki_10000, ki_10001, ki_100000, ki_200000, ki_1000000, ki_2000000, ki_3000000, iO_neg, iO_add, iO_sub, iO_mul, kn_4, kn_8, kn_10, kn_20, kn_24, kn_40, kn_41, kn_50, kn_60, kn_158, kn_160, kn_200, kn_212, kn_2001, tn_lt, fn_lt, tn_le, fn_le, tn_eq, fn_eq, x_lt, x_le, x_eq, x_ix, x_nat, t_lt, f_lt, t_le, f_le, t_eq, f_eq, eq_self, and_self, true_and, and_true, false_and, and_false, if_true, if_false, Int.toNat_natCast, bI_s, bL_s, bA_s, bA_n, bV_s, mq_s, mq_n, en_le, bl_0, bl_1, u_eq, u_ne, w_eq, w_ne, v_eq, v_ne, hp_cc_7, hp_g_7_0, hp_p_7_0, hp_g_7_1, hp_p_7_1, hp_g_7_2, hp_p_7_2, hp_g_7_3, hp_p_7_3, hp_g_7_4, hp_p_7_4, hp_g_7_5, hp_p_7_5, hp_g_7_6, hp_p_7_6, hp_g_7_7, hp_g_7_8, hp_p_7_8, hp_g_7_9, hp_p_7_9, hp_g_7_10, hp_p_7_10, hp_a_8, hp_s_8, hp_l_8, h11, e1, e2, e3]
        rfl
      rw [e]
      show (match cl1 (fun a k => ssum f (fr + a) k) n j (k + 1) with
        | some c => _
        | none => _)
      cases hd : cl1 (fun a k => ssum f (fr + a) k) n j (k + 1) with
      | none =>
        rw [hd] at ih'
        obtain ⟨XI', q1, q2⟩ := ih'
        exact ⟨XI', q1, fun s hs => by rw [q2 s hs, e4 s (by omega) (by omega)]⟩
      | some c =>
        rw [hd] at ih'
        obtain ⟨k', a', b', XI', q1, q2, q3, q4, q5, q6, q7, q8, q9⟩ := ih'
        exact ⟨k', a', b', XI', q1, q2, q3, q4, q5, q6, q7, q8, fun s hs => by rw [q9 s hs, e4 s (by omega) (by omega)]⟩
    | some c =>
      have hgt : 1 < Q - P := by
        rcases Int.lt_or_le 1 (Q - P) with g | g
        · exact g
        · rw [hiff.mpr g] at hc; cases hc
      have hp1 := x_places1 (sc := sc) (d := d) (XP := XP) (XC := XC) (MI := MI) (MA := MA) (ML := ML) (D := D) hn hs hb h2 (va_up XI1 4 (iO (k : Nat))) h11' (n + 1 - k) 0 (by omega)
      rw [hc] at hp1
      obtain ⟨a', b', q1, q2, q3, q4⟩ := hp1
      refine ⟨k, a', b', va_up (va_up (va_up XI1 4 (iO (k : Nat))) 5 (iO (a' : Nat))) 6 (iO (b' : Nat)), q1, by omega, q2, q3, ?_, rfl, rfl, rfl, fun s hs => by rw [w_ne (by omega), w_ne (by omega), w_ne (by omega), e4 s (by omega) (by omega)]⟩
      have q5 : f_X8_findClashPlaces sc (d + 2) 7 (iO (k : Nat)) (hp (va_up XI1 4 (iO (k : Nat))) XA XP XC MI MA ML D) = some (some (.int (iO 1)), hp (va_up (va_up (va_up XI1 4 (iO (k : Nat))) 5 (iO (a' : Nat))) 6 (iO (b' : Nat))) XA XP XC MI MA ML D) := by
        rw [e_X8_findClashPlaces]
        exact q4
      rw [eb_X8_findClash_1]
      clear hs hb ih hiff hc x2 y2 e4 q4 q1
      simp (disch := (first | assumption | (unfold i32; omega) | (unfold i64; omega) | omega)) only [↓reduceIte, ki_0, ki_1, ki_2, ki_3, ki_4, ki_5, ki_6, ki_7, ki_8, ki_9, ki_10, ki_11, ki_12, ki_13, ki_14, ki_15, ki_20, ki_21, ki_30, ki_31, ki_40, ki_41, ki_50, ki_51, ki_60, ki_63, ki_64, ki_65, ki_100, ki_158, ki_160, ki_200, ki_212, ki_1000, ki_2000, ki_2001, ki_5000, ki_10000, ki_10001, ki_100000, ki_200000, ki_1000000, ki_2000000, ki_3000000, iO_neg, iO_add, iO_sub, iO_mul, kn_4, kn_8, kn_10, kn_20, kn_24, kn_40, kn_41, kn_50, kn_60, kn_158, kn_160, kn_200, kn_212, kn_2001, tn_lt, fn_lt, tn_le, fn_le, tn_eq, fn_eq, x_lt, x_le, x_eq, x_ix, x_nat, t_lt, f_lt, t_le, f_le, t_eq, f_eq, eq_self, and_self, true_and, and_true, false_and, and_false, if_true, if_false, Int.toNat_natCast, bI_s, bL_s, bA_s, bA_n, bV_s, mq_s, mq_n, en_le, bl_0, bl_1, u_eq, u_ne, w_eq, w_ne, v_eq, v_ne, hp_cc_7, hp_g_7_0, hp_p_7_0, hp_g_7_1, hp_p_7_1, hp_g_7_2, hp_p_7_2, hp_g_7_3, hp_p_7_3, hp_g_7_4, hp_p_7_4, hp_g_7_5, hp_p_7_5, hp_g_7_6, hp_p_7_6, hp_g_7_7, hp_g_7_8, hp_p_7_8, hp_g_7_9, hp_p_7_9, hp_g_7_10, hp_p_7_10, hp_a_8, hp_s_8, hp_l_8, h11, e1, e2, e3, q5]
end FCL
theorem cl3_dig {t : Nat → Nat → Int} {k a : Nat} {c : Int} : ∀ (j b : Nat), cl3 t k a j b = some c → ∃ b' : Nat, b ≤ b' ∧ b' < b + j ∧ c = 10000 * (k : Int) + 100 * (a : Int) + (b' : Int)
  | 0, b, h => nomatch h
  | j + 1, b, h => by
    rw [cl3] at h
    split at h
    · exact ⟨b, by omega, by omega, (Option.some.inj h).symm⟩
    · obtain ⟨b', h1, h2, h3⟩ := cl3_dig j (b + 1) h
      exact ⟨b', by omega, by omega, h3⟩
theorem cl2_dig {t : Nat → Nat → Int} {n k : Nat} {c : Int} : ∀ (j a : Nat), cl2 t n k j a = some c → ∃ a' b' : Nat, a ≤ a' ∧ a' < a + j ∧ b' ≤ n + a' ∧ (a' < n → b' ≤ n) ∧ c = 10000 * (k : Int) + 100 * (a' : Int) + (b' : Int)
  | 0, a, h => nomatch h
  | j + 1, a, h => by
    rw [cl2] at h
    cases hc : cl3 t k a (n - k - a) (a + 1) with
    | some c' =>
      rw [hc] at h
      obtain rfl : c' = c := Option.some.inj h
      obtain ⟨b', h1, h2, h3⟩ := cl3_dig _ _ hc
      exact ⟨a, b', by omega, by omega, by omega, by omega, h3⟩
    | none =>
      rw [hc] at h
      obtain ⟨a', b', h1, h2, h3⟩ := cl2_dig j (a + 1) h
      exact ⟨a', b', by omega, by omega, h3⟩
theorem cl1_dig {t : Nat → Nat → Int} {n : Nat} {c : Int} (hn : n ≤ 40) : ∀ (j k : Nat), k + j = n + 1 → 1 ≤ k → cl1 t n j k = some c → ∃ k' a' b' : Nat, k' ≤ 40 ∧ a' ≤ 40 ∧ b' ≤ 80 ∧ c = 10000 * (k' : Int) + 100 * (a' : Int) + (b' : Int)
  | 0, k, _, _, h => nomatch h
  | j + 1, k, e1, e2, h => by
    rw [cl1] at h
    cases hc : cl2 t n k (n + 1 - k) 0 with
    | some c' =>
      rw [hc] at h
      obtain rfl : c' = c := Option.some.inj h
      obtain ⟨a', b', h1, h2, h3, h4, h5⟩ := cl2_dig _ _ hc
      exact ⟨k, a', b', by omega, by omega, by omega, h5⟩
    | none =>
      rw [hc] at h
      exact cl1_dig hn j (k + 1) (by omega) (by omega) h
def p_clash (S : ST5) (r a m w : Int) : Int := match rowq S r with
  | none => -1
  | some q => if 0 ≤ w ∧ w ≤ 2 ∧ 1 ≤ m ∧ m ≤ 40 ∧ 0 ≤ a ∧ a + m ≤ (q.2.2.1 : Nat) then (match cl1 (fun x k => ssum q.2.2.2 (a.toNat + x) k) m.toNat m.toNat 1 with
    | none => -1
    | some c => if w = 0 then c / 10000 else if w = 1 then a + (c / 100 - c / 100 / 100 * 100) else a + (c - c / 100 * 100)) else -1
theorem iO_divp {a b : Int} (ha : 0 ≤ a) (ha2 : i32 a) (hb : 0 < b) (hb2 : i32 b) : iO a / iO b = iO (a / b) := by
  have e : a.tdiv b = a / b := Int.tdiv_eq_ediv_of_nonneg ha
  have h1 := Int.ediv_nonneg ha (Int.le_of_lt hb)
  have h2 := Int.ediv_le_self b ha
  obtain ⟨a1, a2⟩ := ha2
  rw [iO_div ⟨a1, a2⟩ hb2 (by rw [e]; unfold i32; omega), e]
section CLA
variable {sc : en_S} {n : Nat} {S : ST5}
theorem mc_clash (hS : OK5 S) {r a m w : Int} (hr : i32 r) (ha : i32 a) (hm : i32 m) (hw : i32 w) : MC S S (p_clash S r a m w) (fun z => f_X12_clash sc (n + 40) 26 (iO r) (iO a) (iO m) (iO w) z) := by
  apply mc_ask
  intro XI XA XP XC MI MA ML D hV
  have h10 := hS.2.1
  obtain ⟨w1, w2⟩ := id hw
  show f_X12_clash sc (n + 40) 26 (iO r) (iO a) (iO m) (iO w) _ = _
  rw [e_X12_clash]
  unfold p_clash
  cases hq : rowq S r with
  | none =>
    have := rowq_none hq
    rw [hp_cc_26, if_pos rfl, e_X12_isStretch, hp_cc_26, if_pos rfl, e_misRow hV hS hr, if_neg (by omega)]
    rfl
  | some q =>
    obtain ⟨k, rfl, hk, hq2⟩ := rowq_some hq
    obtain ⟨c1, c2, c3, c4⟩ := hV.2.2.2.2.2.1 k q hq2
    have hR := hS.2.2.2.1 q (List.mem_of_getElem? hq2)
    have hsz : q.2.2.1 ≤ 10001 := hR.2.2.2.2.1
    have hva := hR.2.2.2.2.2.1
    rw [hp_cc_26, if_pos rfl, m_isStretch (n := n + 36) hV hS hq2 ha hm]
    dsimp only
    by_cases g : 1 ≤ m ∧ m ≤ 40 ∧ 0 ≤ a ∧ a + m ≤ (q.2.2.1 : Nat)
    · rw [if_pos g]
      by_cases gw : 0 ≤ w ∧ w ≤ 2
      · rw [if_pos (show 0 ≤ w ∧ w ≤ 2 ∧ 1 ≤ m ∧ m ≤ 40 ∧ 0 ≤ a ∧ a + m ≤ (q.2.2.1 : Nat) from ⟨gw.1, gw.2, g⟩)]
        obtain ⟨g1, g2, g3, g4⟩ := g
        obtain ⟨gw1, gw2⟩ := gw
        obtain ⟨y, rfl⟩ : ∃ y : Nat, m = y := ⟨m.toNat, by omega⟩
        obtain ⟨x, rfl⟩ : ∃ x : Nat, a = x := ⟨a.toNat, by omega⟩
        have hc := m_clashOf (sc := sc) (d := n + 37) (XI := XI) (XA := XA) (XP := XP) (XC := XC) (MI := MI) (MA := MA) (ML := ML) (D := D) (r := k) (fr := x) (n := y) (f := q.2.2.2) (by omega) (by omega) (by omega) (fun i hi => c4 i (by omega)) (by
          intro a' k' h'
          obtain ⟨b1, b2⟩ := ssum_b (f := q.2.2.2) (a := x + a') k' (fun i hi => hva i (by omega))
          omega)
        rw [Int.toNat_natCast, Int.toNat_natCast]
        cases hcl : cl1 (fun a k => ssum q.2.2.2 (x + a) k) y y 1 with
        | none =>
          rw [hcl] at hc
          have hc : _ = some (some (Value.int (iO (-1))), hp XI XA XP XC MI MA ML D) := hc
          clear hV c4 hva
          simp (disch := (first | assumption | (unfold i32; omega) | (unfold i64; omega) | omega)) only [↓reduceIte, ki_0, ki_1, ki_2, ki_3, ki_4, ki_5, ki_6, ki_7, ki_8, ki_9, ki_10, ki_11, ki_12, ki_13, ki_14, ki_15, ki_20, ki_21, ki_30, ki_31, ki_40, ki_41, ki_50, ki_51, ki_60, ki_63, ki_64, ki_65, ki_100, ki_158, ki_160, ki_200, ki_212, ki_1000, ki_2000, ki_2001, ki_5000, ki_10000, ki_10001, ki_100000, ki_200000, ki_1000000, ki_2000000, ki_3000000, iO_neg, iO_add, iO_sub, iO_mul, kn_4, kn_8, kn_10, kn_20, kn_24, kn_40, kn_41, kn_50, kn_60, kn_158, kn_160, kn_200, kn_212, kn_2001, tn_lt, fn_lt, tn_le, fn_le, tn_eq, fn_eq, x_lt, x_le, x_eq, x_ix, x_nat, t_lt, f_lt, t_le, f_le, t_eq, f_eq, eq_self, and_self, true_and, and_true, false_and, and_false, if_true, if_false, Int.toNat_natCast, bI_s, bL_s, bA_s, bA_n, bV_s, mq_s, mq_n, en_le, bl_0, bl_1, u_eq, u_ne, w_eq, w_ne, v_eq, v_ne, hp_cc_26, hp_g_26_0, hp_p_26_0, hp_g_26_1, hp_p_26_1, hp_g_26_2, hp_p_26_2, hp_g_26_3, hp_g_26_4, hp_g_26_5, hp_g_26_6, hp_g_26_7, hp_g_26_8, hp_g_26_9, hp_g_26_10, hp_g_26_11, hp_g_26_12, hp_g_26_13, hp_g_26_14, hp_g_26_15, hp_p_26_15, hp_g_26_16, hp_g_26_17, hp_g_26_18, hp_p_26_18, hp_g_26_19, hp_p_26_19, hp_g_26_20, hp_g_26_21, hp_p_26_21, hp_g_26_22, hp_g_26_23, hp_g_26_24, hp_g_26_25, hp_g_26_26, hp_g_26_27, hp_g_26_28, hp_g_26_29, hp_g_26_30, hp_p_26_30, hp_g_26_31, hp_g_26_32, hp_p_26_32, hp_a_27, hp_s_27, hp_l_27, hp_a_28, hp_s_28, hp_l_28, hp_a_29, hp_s_29, hp_l_29, hp_a_30, hp_s_30, hp_l_30, hp_a_31, hp_s_31, hp_l_31, hp_a_32, hp_s_32, hp_l_32, hp_a_33, hp_s_33, hp_l_33, hp_a_34, hp_s_34, hp_l_34, hp_a_35, hp_s_35, hp_l_35, hp_a_36, hp_s_36, hp_l_36, hp_a_37, hp_s_37, hp_l_37, hp_a_38, hp_s_38, hp_l_38, hp_a_39, hp_s_39, hp_a_40, hp_s_40, hp_a_41, hp_s_41, hp_l_41, hp_a_42, hp_s_42, hp_l_42, hp_a_43, hp_s_43, hp_l_43, hp_a_44, hp_s_44, hp_l_44, hp_a_45, hp_s_45, hp_l_45, hp_a_46, hp_s_46, hp_l_46, hp_a_47, hp_s_47, hp_l_47, hp_a_48, hp_s_48, hp_l_48, hp_a_49, hp_s_49, hp_l_49, hp_a_50, hp_s_50, hp_l_50, e_X12_in, hc]
        | some c =>
          have q1 := cl1_pos _ _ hcl
          have q2 := cl1_ub (by omega) _ _ (by omega) hcl
          rw [hcl] at hc
          have hc : _ = some (some (Value.int (iO c)), hp XI XA XP XC MI MA ML D) := hc
          have d1 : iO c / iO 10000 = iO (c / 10000) := iO_divp (by omega) (by unfold i32; omega) (by omega) (by unfold i32; omega)
          have d2 : iO c / iO 100 = iO (c / 100) := iO_divp (by omega) (by unfold i32; omega) (by omega) (by unfold i32; omega)
          have d3 : iO (c / 100) / iO 100 = iO (c / 100 / 100) := iO_divp (by omega) (by unfold i32; omega) (by omega) (by unfold i32; omega)
          clear hV c4 hva
          obtain rfl | rfl | rfl : w = 0 ∨ w = 1 ∨ w = 2 := by omega
          · simp (disch := (first | assumption | (unfold i32; omega) | (unfold i64; omega) | omega)) only [↓reduceIte, ki_0, ki_1, ki_2, ki_3, ki_4, ki_5, ki_6, ki_7, ki_8, ki_9, ki_10, ki_11, ki_12, ki_13, ki_14, ki_15, ki_20, ki_21, ki_30, ki_31, ki_40, ki_41, ki_50, ki_51, ki_60, ki_63, ki_64, ki_65, ki_100, ki_158, ki_160, ki_200, ki_212, ki_1000, ki_2000, ki_2001, ki_5000, ki_10000, ki_10001, ki_100000, ki_200000, ki_1000000, ki_2000000, ki_3000000, iO_neg, iO_add, iO_sub, iO_mul, kn_4, kn_8, kn_10, kn_20, kn_24, kn_40, kn_41, kn_50, kn_60, kn_158, kn_160, kn_200, kn_212, kn_2001, tn_lt, fn_lt, tn_le, fn_le, tn_eq, fn_eq, x_lt, x_le, x_eq, x_ix, x_nat, t_lt, f_lt, t_le, f_le, t_eq, f_eq, eq_self, and_self, true_and, and_true, false_and, and_false, if_true, if_false, Int.toNat_natCast, bI_s, bL_s, bA_s, bA_n, bV_s, mq_s, mq_n, en_le, bl_0, bl_1, u_eq, u_ne, w_eq, w_ne, v_eq, v_ne, hp_cc_26, hp_g_26_0, hp_p_26_0, hp_g_26_1, hp_p_26_1, hp_g_26_2, hp_p_26_2, hp_g_26_3, hp_g_26_4, hp_g_26_5, hp_g_26_6, hp_g_26_7, hp_g_26_8, hp_g_26_9, hp_g_26_10, hp_g_26_11, hp_g_26_12, hp_g_26_13, hp_g_26_14, hp_g_26_15, hp_p_26_15, hp_g_26_16, hp_g_26_17, hp_g_26_18, hp_p_26_18, hp_g_26_19, hp_p_26_19, hp_g_26_20, hp_g_26_21, hp_p_26_21, hp_g_26_22, hp_g_26_23, hp_g_26_24, hp_g_26_25, hp_g_26_26, hp_g_26_27, hp_g_26_28, hp_g_26_29, hp_g_26_30, hp_p_26_30, hp_g_26_31, hp_g_26_32, hp_p_26_32, hp_a_27, hp_s_27, hp_l_27, hp_a_28, hp_s_28, hp_l_28, hp_a_29, hp_s_29, hp_l_29, hp_a_30, hp_s_30, hp_l_30, hp_a_31, hp_s_31, hp_l_31, hp_a_32, hp_s_32, hp_l_32, hp_a_33, hp_s_33, hp_l_33, hp_a_34, hp_s_34, hp_l_34, hp_a_35, hp_s_35, hp_l_35, hp_a_36, hp_s_36, hp_l_36, hp_a_37, hp_s_37, hp_l_37, hp_a_38, hp_s_38, hp_l_38, hp_a_39, hp_s_39, hp_a_40, hp_s_40, hp_a_41, hp_s_41, hp_l_41, hp_a_42, hp_s_42, hp_l_42, hp_a_43, hp_s_43, hp_l_43, hp_a_44, hp_s_44, hp_l_44, hp_a_45, hp_s_45, hp_l_45, hp_a_46, hp_s_46, hp_l_46, hp_a_47, hp_s_47, hp_l_47, hp_a_48, hp_s_48, hp_l_48, hp_a_49, hp_s_49, hp_l_49, hp_a_50, hp_s_50, hp_l_50, e_X12_in, hc, d1]
          · simp (disch := (first | assumption | (unfold i32; omega) | (unfold i64; omega) | omega)) only [↓reduceIte, ki_0, ki_1, ki_2, ki_3, ki_4, ki_5, ki_6, ki_7, ki_8, ki_9, ki_10, ki_11, ki_12, ki_13, ki_14, ki_15, ki_20, ki_21, ki_30, ki_31, ki_40, ki_41, ki_50, ki_51, ki_60, ki_63, ki_64, ki_65, ki_100, ki_158, ki_160, ki_200, ki_212, ki_1000, ki_2000, ki_2001, ki_5000, ki_10000, ki_10001, ki_100000, ki_200000, ki_1000000, ki_2000000, ki_3000000, iO_neg, iO_add, iO_sub, iO_mul, kn_4, kn_8, kn_10, kn_20, kn_24, kn_40, kn_41, kn_50, kn_60, kn_158, kn_160, kn_200, kn_212, kn_2001, tn_lt, fn_lt, tn_le, fn_le, tn_eq, fn_eq, x_lt, x_le, x_eq, x_ix, x_nat, t_lt, f_lt, t_le, f_le, t_eq, f_eq, eq_self, and_self, true_and, and_true, false_and, and_false, if_true, if_false, Int.toNat_natCast, bI_s, bL_s, bA_s, bA_n, bV_s, mq_s, mq_n, en_le, bl_0, bl_1, u_eq, u_ne, w_eq, w_ne, v_eq, v_ne, hp_cc_26, hp_g_26_0, hp_p_26_0, hp_g_26_1, hp_p_26_1, hp_g_26_2, hp_p_26_2, hp_g_26_3, hp_g_26_4, hp_g_26_5, hp_g_26_6, hp_g_26_7, hp_g_26_8, hp_g_26_9, hp_g_26_10, hp_g_26_11, hp_g_26_12, hp_g_26_13, hp_g_26_14, hp_g_26_15, hp_p_26_15, hp_g_26_16, hp_g_26_17, hp_g_26_18, hp_p_26_18, hp_g_26_19, hp_p_26_19, hp_g_26_20, hp_g_26_21, hp_p_26_21, hp_g_26_22, hp_g_26_23, hp_g_26_24, hp_g_26_25, hp_g_26_26, hp_g_26_27, hp_g_26_28, hp_g_26_29, hp_g_26_30, hp_p_26_30, hp_g_26_31, hp_g_26_32, hp_p_26_32, hp_a_27, hp_s_27, hp_l_27, hp_a_28, hp_s_28, hp_l_28, hp_a_29, hp_s_29, hp_l_29, hp_a_30, hp_s_30, hp_l_30, hp_a_31, hp_s_31, hp_l_31, hp_a_32, hp_s_32, hp_l_32, hp_a_33, hp_s_33, hp_l_33, hp_a_34, hp_s_34, hp_l_34, hp_a_35, hp_s_35, hp_l_35, hp_a_36, hp_s_36, hp_l_36, hp_a_37, hp_s_37, hp_l_37, hp_a_38, hp_s_38, hp_l_38, hp_a_39, hp_s_39, hp_a_40, hp_s_40, hp_a_41, hp_s_41, hp_l_41, hp_a_42, hp_s_42, hp_l_42, hp_a_43, hp_s_43, hp_l_43, hp_a_44, hp_s_44, hp_l_44, hp_a_45, hp_s_45, hp_l_45, hp_a_46, hp_s_46, hp_l_46, hp_a_47, hp_s_47, hp_l_47, hp_a_48, hp_s_48, hp_l_48, hp_a_49, hp_s_49, hp_l_49, hp_a_50, hp_s_50, hp_l_50, e_X12_in, hc, d2, d3]
          · simp (disch := (first | assumption | (unfold i32; omega) | (unfold i64; omega) | omega)) only [↓reduceIte, ki_0, ki_1, ki_2, ki_3, ki_4, ki_5, ki_6, ki_7, ki_8, ki_9, ki_10, ki_11, ki_12, ki_13, ki_14, ki_15, ki_20, ki_21, ki_30, ki_31, ki_40, ki_41, ki_50, ki_51, ki_60, ki_63, ki_64, ki_65, ki_100, ki_158, ki_160, ki_200, ki_212, ki_1000, ki_2000, ki_2001, ki_5000, ki_10000, ki_10001, ki_100000, ki_200000, ki_1000000, ki_2000000, ki_3000000, iO_neg, iO_add, iO_sub, iO_mul, kn_4, kn_8, kn_10, kn_20, kn_24, kn_40, kn_41, kn_50, kn_60, kn_158, kn_160, kn_200, kn_212, kn_2001, tn_lt, fn_lt, tn_le, fn_le, tn_eq, fn_eq, x_lt, x_le, x_eq, x_ix, x_nat, t_lt, f_lt, t_le, f_le, t_eq, f_eq, eq_self, and_self, true_and, and_true, false_and, and_false, if_true, if_false, Int.toNat_natCast, bI_s, bL_s, bA_s, bA_n, bV_s, mq_s, mq_n, en_le, bl_0, bl_1, u_eq, u_ne, w_eq, w_ne, v_eq, v_ne, hp_cc_26, hp_g_26_0, hp_p_26_0, hp_g_26_1, hp_p_26_1, hp_g_26_2, hp_p_26_2, hp_g_26_3, hp_g_26_4, hp_g_26_5, hp_g_26_6, hp_g_26_7, hp_g_26_8, hp_g_26_9, hp_g_26_10, hp_g_26_11, hp_g_26_12, hp_g_26_13, hp_g_26_14, hp_g_26_15, hp_p_26_15, hp_g_26_16, hp_g_26_17, hp_g_26_18, hp_p_26_18, hp_g_26_19, hp_p_26_19, hp_g_26_20, hp_g_26_21, hp_p_26_21, hp_g_26_22, hp_g_26_23, hp_g_26_24, hp_g_26_25, hp_g_26_26, hp_g_26_27, hp_g_26_28, hp_g_26_29, hp_g_26_30, hp_p_26_30, hp_g_26_31, hp_g_26_32, hp_p_26_32, hp_a_27, hp_s_27, hp_l_27, hp_a_28, hp_s_28, hp_l_28, hp_a_29, hp_s_29, hp_l_29, hp_a_30, hp_s_30, hp_l_30, hp_a_31, hp_s_31, hp_l_31, hp_a_32, hp_s_32, hp_l_32, hp_a_33, hp_s_33, hp_l_33, hp_a_34, hp_s_34, hp_l_34, hp_a_35, hp_s_35, hp_l_35, hp_a_36, hp_s_36, hp_l_36, hp_a_37, hp_s_37, hp_l_37, hp_a_38, hp_s_38, hp_l_38, hp_a_39, hp_s_39, hp_a_40, hp_s_40, hp_a_41, hp_s_41, hp_l_41, hp_a_42, hp_s_42, hp_l_42, hp_a_43, hp_s_43, hp_l_43, hp_a_44, hp_s_44, hp_l_44, hp_a_45, hp_s_45, hp_l_45, hp_a_46, hp_s_46, hp_l_46, hp_a_47, hp_s_47, hp_l_47, hp_a_48, hp_s_48, hp_l_48, hp_a_49, hp_s_49, hp_l_49, hp_a_50, hp_s_50, hp_l_50, e_X12_in, hc, d2]
      · rw [if_neg (show ¬ (0 ≤ w ∧ w ≤ 2 ∧ 1 ≤ m ∧ m ≤ 40 ∧ 0 ≤ a ∧ a + m ≤ (q.2.2.1 : Nat)) by omega)]
        clear hV c4 hva g
        rcases Int.lt_or_le w 0 with g5 | g5
        · clear gw; simp (disch := (first | assumption | (unfold i32; omega) | (unfold i64; omega) | omega)) only [↓reduceIte, ki_0, ki_1, ki_2, ki_3, ki_4, ki_5, ki_6, ki_7, ki_8, ki_9, ki_10, ki_11, ki_12, ki_13, ki_14, ki_15, ki_20, ki_21, ki_30, ki_31, ki_40, ki_41, ki_50, ki_51, ki_60, ki_63, ki_64, ki_65, ki_100, ki_158, ki_160, ki_200, ki_212, ki_1000, ki_2000, ki_2001, ki_5000, ki_10000, ki_10001, ki_100000, ki_200000, ki_1000000, ki_2000000, ki_3000000, iO_neg, iO_add, iO_sub, iO_mul, kn_4, kn_8, kn_10, kn_20, kn_24, kn_40, kn_41, kn_50, kn_60, kn_158, kn_160, kn_200, kn_212, kn_2001, tn_lt, fn_lt, tn_le, fn_le, tn_eq, fn_eq, x_lt, x_le, x_eq, x_ix, x_nat, t_lt, f_lt, t_le, f_le, t_eq, f_eq, eq_self, and_self, true_and, and_true, false_and, and_false, if_true, if_false, Int.toNat_natCast, bI_s, bL_s, bA_s, bA_n, bV_s, mq_s, mq_n, en_le, bl_0, bl_1, u_eq, u_ne, w_eq, w_ne, v_eq, v_ne, hp_cc_26, hp_g_26_0, hp_p_26_0, hp_g_26_1, hp_p_26_1, hp_g_26_2, hp_p_26_2, hp_g_26_3, hp_g_26_4, hp_g_26_5, hp_g_26_6, hp_g_26_7, hp_g_26_8, hp_g_26_9, hp_g_26_10, hp_g_26_11, hp_g_26_12, hp_g_26_13, hp_g_26_14, hp_g_26_15, hp_p_26_15, hp_g_26_16, hp_g_26_17, hp_g_26_18, hp_p_26_18, hp_g_26_19, hp_p_26_19, hp_g_26_20, hp_g_26_21, hp_p_26_21, hp_g_26_22, hp_g_26_23, hp_g_26_24, hp_g_26_25, hp_g_26_26, hp_g_26_27, hp_g_26_28, hp_g_26_29, hp_g_26_30, hp_p_26_30, hp_g_26_31, hp_g_26_32, hp_p_26_32, hp_a_27, hp_s_27, hp_l_27, hp_a_28, hp_s_28, hp_l_28, hp_a_29, hp_s_29, hp_l_29, hp_a_30, hp_s_30, hp_l_30, hp_a_31, hp_s_31, hp_l_31, hp_a_32, hp_s_32, hp_l_32, hp_a_33, hp_s_33, hp_l_33, hp_a_34, hp_s_34, hp_l_34, hp_a_35, hp_s_35, hp_l_35, hp_a_36, hp_s_36, hp_l_36, hp_a_37, hp_s_37, hp_l_37, hp_a_38, hp_s_38, hp_l_38, hp_a_39, hp_s_39, hp_a_40, hp_s_40, hp_a_41, hp_s_41, hp_l_41, hp_a_42, hp_s_42, hp_l_42, hp_a_43, hp_s_43, hp_l_43, hp_a_44, hp_s_44, hp_l_44, hp_a_45, hp_s_45, hp_l_45, hp_a_46, hp_s_46, hp_l_46, hp_a_47, hp_s_47, hp_l_47, hp_a_48, hp_s_48, hp_l_48, hp_a_49, hp_s_49, hp_l_49, hp_a_50, hp_s_50, hp_l_50, e_X12_in]
        · have g6 : 2 < w := by omega
          clear gw; simp (disch := (first | assumption | (unfold i32; omega) | (unfold i64; omega) | omega)) only [↓reduceIte, ki_0, ki_1, ki_2, ki_3, ki_4, ki_5, ki_6, ki_7, ki_8, ki_9, ki_10, ki_11, ki_12, ki_13, ki_14, ki_15, ki_20, ki_21, ki_30, ki_31, ki_40, ki_41, ki_50, ki_51, ki_60, ki_63, ki_64, ki_65, ki_100, ki_158, ki_160, ki_200, ki_212, ki_1000, ki_2000, ki_2001, ki_5000, ki_10000, ki_10001, ki_100000, ki_200000, ki_1000000, ki_2000000, ki_3000000, iO_neg, iO_add, iO_sub, iO_mul, kn_4, kn_8, kn_10, kn_20, kn_24, kn_40, kn_41, kn_50, kn_60, kn_158, kn_160, kn_200, kn_212, kn_2001, tn_lt, fn_lt, tn_le, fn_le, tn_eq, fn_eq, x_lt, x_le, x_eq, x_ix, x_nat, t_lt, f_lt, t_le, f_le, t_eq, f_eq, eq_self, and_self, true_and, and_true, false_and, and_false, if_true, if_false, Int.toNat_natCast, bI_s, bL_s, bA_s, bA_n, bV_s, mq_s, mq_n, en_le, bl_0, bl_1, u_eq, u_ne, w_eq, w_ne, v_eq, v_ne, hp_cc_26, hp_g_26_0, hp_p_26_0, hp_g_26_1, hp_p_26_1, hp_g_26_2, hp_p_26_2, hp_g_26_3, hp_g_26_4, hp_g_26_5, hp_g_26_6, hp_g_26_7, hp_g_26_8, hp_g_26_9, hp_g_26_10, hp_g_26_11, hp_g_26_12, hp_g_26_13, hp_g_26_14, hp_g_26_15, hp_p_26_15, hp_g_26_16, hp_g_26_17, hp_g_26_18, hp_p_26_18, hp_g_26_19, hp_p_26_19, hp_g_26_20, hp_g_26_21, hp_p_26_21, hp_g_26_22, hp_g_26_23, hp_g_26_24, hp_g_26_25, hp_g_26_26, hp_g_26_27, hp_g_26_28, hp_g_26_29, hp_g_26_30, hp_p_26_30, hp_g_26_31, hp_g_26_32, hp_p_26_32, hp_a_27, hp_s_27, hp_l_27, hp_a_28, hp_s_28, hp_l_28, hp_a_29, hp_s_29, hp_l_29, hp_a_30, hp_s_30, hp_l_30, hp_a_31, hp_s_31, hp_l_31, hp_a_32, hp_s_32, hp_l_32, hp_a_33, hp_s_33, hp_l_33, hp_a_34, hp_s_34, hp_l_34, hp_a_35, hp_s_35, hp_l_35, hp_a_36, hp_s_36, hp_l_36, hp_a_37, hp_s_37, hp_l_37, hp_a_38, hp_s_38, hp_l_38, hp_a_39, hp_s_39, hp_a_40, hp_s_40, hp_a_41, hp_s_41, hp_l_41, hp_a_42, hp_s_42, hp_l_42, hp_a_43, hp_s_43, hp_l_43, hp_a_44, hp_s_44, hp_l_44, hp_a_45, hp_s_45, hp_l_45, hp_a_46, hp_s_46, hp_l_46, hp_a_47, hp_s_47, hp_l_47, hp_a_48, hp_s_48, hp_l_48, hp_a_49, hp_s_49, hp_l_49, hp_a_50, hp_s_50, hp_l_50, e_X12_in]
    · rw [if_neg g, if_neg (show ¬ (0 ≤ w ∧ w ≤ 2 ∧ 1 ≤ m ∧ m ≤ 40 ∧ 0 ≤ a ∧ a + m ≤ (q.2.2.1 : Nat)) by omega)]
      rfl
theorem cs_isEven (hS : OK5 S) {r a m : Int} (hr : i32 r) (ha : i32 a) (hm : i32 m) : CS S S (p_isEven S r a m) (fun z => f_X11_isEven sc (n + 40) 1 (iO r) (iO a) (iO m) z) := by
  unfold p_isEven
  cases hq : rowq S r with
  | none =>
    apply cs_ask
    intro XI XA XP XC MI MA ML D Γ hV
    show f_X11_isEven sc (n + 40) 1 (iO r) (iO a) (iO m) _ = _
    rw [e_X11_isEven]
    simp (disch := (first | assumption | (unfold i32; omega) | (unfold i64; omega) | omega)) only [↓reduceIte, ki_0, ki_1, ki_2, ki_3, ki_4, ki_5, ki_6, ki_7, ki_8, ki_9, ki_10, ki_11, ki_12, ki_13, ki_14, ki_15, ki_20, ki_21, ki_30, ki_31, ki_40, ki_41, ki_50, ki_51, ki_60, ki_63, ki_64, ki_65, ki_100, ki_158, ki_160, ki_200, ki_212, ki_1000, ki_2000, ki_2001, ki_5000, ki_10000, ki_10001, ki_100000, ki_200000, ki_1000000, ki_2000000, ki_3000000, iO_neg, iO_add, iO_sub, iO_mul, kn_4, kn_8, kn_10, kn_20, kn_24, kn_40, kn_41, kn_50, kn_60, kn_158, kn_160, kn_200, kn_212, kn_2001, tn_lt, fn_lt, tn_le, fn_le, tn_eq, fn_eq, x_lt, x_le, x_eq, x_ix, x_nat, t_lt, f_lt, t_le, f_le, t_eq, f_eq, eq_self, and_self, true_and, and_true, false_and, and_false, if_true, if_false, Int.toNat_natCast, bI_s, bL_s, bA_s, bA_n, bV_s, mq_s, mq_n, en_le, bl_0, bl_1, u_eq, u_ne, w_eq, w_ne, v_eq, v_ne, hp_cc_1, hp_g_1_0, hp_g_1_1, hp_g_1_2, hp_g_1_3, hp_g_1_4, hp_g_1_5, hp_g_1_6, hp_g_1_7, hp_g_1_8, hp_p_1_8, hp_g_1_9, hp_p_1_9, hp_g_1_10, hp_p_1_10, hp_a_2, hp_n_2, hp_a_3, hp_n_3, hp_a_4, hp_cc_7, hp_g_7_0, hp_p_7_0, hp_g_7_1, hp_p_7_1, hp_g_7_2, hp_p_7_2, hp_g_7_3, hp_p_7_3, hp_g_7_4, hp_p_7_4, hp_g_7_5, hp_p_7_5, hp_g_7_6, hp_p_7_6, hp_g_7_7, hp_g_7_8, hp_p_7_8, hp_g_7_9, hp_p_7_9, hp_g_7_10, hp_p_7_10, hp_a_8, hp_s_8, hp_l_8, x_rowAt0 hV hS hr hq, e_X8_read_N1]
  | some q =>
    intro XI XA XP XC MI MA ML D Γ hV
    dsimp only
    obtain ⟨k, rfl, hk, hq2⟩ := rowq_some hq
    have hR := hS.2.2.2.1 q (List.mem_of_getElem? hq2)
    have hsz : q.2.2.1 ≤ 10001 := hR.2.2.2.2.1
    have hva := hR.2.2.2.2.2.1
    obtain ⟨p, g, c1, c2, c3, c4, c5, c6, c7, c8, c9⟩ := hV.2.2.2.2.2.1 k q hq2
    have h9 := (hV.2.2.2.2.2.2.2.2 p g c2).1
    obtain ⟨XI1, XA1, D1, f1, f2, f3, f4, f5, f6⟩ := x_read (sc := sc) c2 h9 n XI XA XP XC MI MA ML D hV.2.2.2.2.2.2.2.2 ha hm
    rw [c7, c8] at f6
    rw [c7] at f1
    have hrow := x_rowAt1 (sc := sc) (n := n + 38) (XC := XC) (MI := MI) (MA := MA) (ML := ML) hV hS hq2 c1
    have hV1 : CV S Γ XI1 XA1 XP D1 := (hV.step f2 f3.2.2.1).scr (fun i hi => f4 i (by omega)) (fun i hi => f5 i (by omega))
    have hGR : GR D D1 := ⟨by rw [f3.1]; omega, by rw [f3.2.1]; omega⟩
    by_cases gg : 1 ≤ m ∧ m ≤ 40 ∧ 0 ≤ a ∧ a + m ≤ (q.2.2.1 : Nat)
    · rw [if_pos gg] at f1
      obtain ⟨u1, u2⟩ := f6 gg
      rw [if_pos gg]
      obtain ⟨g1, g2, g3, g4⟩ := gg
      obtain ⟨y, rfl⟩ : ∃ y : Nat, m = y := ⟨m.toNat, by omega⟩
      obtain ⟨x, rfl⟩ : ∃ x : Nat, a = x := ⟨a.toNat, by omega⟩
      rw [Int.toNat_natCast] at u2
      rw [Int.toNat_natCast] at u2
      rw [Int.toNat_natCast, Int.toNat_natCast]
      have hfc := x_findClash (sc := sc) (d := n + 36) (XP := XP) (XC := XC) (MI := MI) (MA := MA) (ML := ML) (D := D1) (fr := x) (n := y) (f := q.2.2.2) (by omega) u2 (by
        intro a' k' h'
        obtain ⟨b1, b2⟩ := ssum_b (f := q.2.2.2) (a := x + a') k' (fun i hi => hva i (by omega))
        omega) y 1 XI1 u1 (by omega) (by omega)
      clear hV f6 u2 hva
      cases hcl : cl1 (fun a k => ssum q.2.2.2 (x + a) k) y y 1 with
      | none =>
        rw [hcl] at hfc
        obtain ⟨XI2, e1, e2⟩ := hfc
        have e1 : b_X8_findClash_1 sc (n + 38) 7 (iO 1) (hp XI1 XA1 XP XC MI MA ML D1) = _ := e1
        refine ⟨XI2, XA1, XP, XC, D1, Γ, ?_, hV1.scr e2 (fun _ _ => rfl), hGR⟩
        show f_X11_isEven sc (n + 40) 1 (iO (k : Int)) (iO (x : Int)) (iO (y : Int)) _ = _
        rw [e_X11_isEven]
        simp (disch := (first | assumption | (unfold i32; omega) | (unfold i64; omega) | omega)) only [↓reduceIte, ki_0, ki_1, ki_2, ki_3, ki_4, ki_5, ki_6, ki_7, ki_8, ki_9, ki_10, ki_11, ki_12, ki_13, ki_14, ki_15, ki_20, ki_21, ki_30, ki_31, ki_40, ki_41, ki_50, ki_51, ki_60, ki_63, ki_64, ki_65, ki_100, ki_158, ki_160, ki_200, ki_212, ki_1000, ki_2000, ki_2001, ki_5000, ki_10000, ki_10001, ki_100000, ki_200000, ki_1000000, ki_2000000, ki_3000000, iO_neg, iO_add, iO_sub, iO_mul, kn_4, kn_8, kn_10, kn_20, kn_24, kn_40, kn_41, kn_50, kn_60, kn_158, kn_160, kn_200, kn_212, kn_2001, tn_lt, fn_lt, tn_le, fn_le, tn_eq, fn_eq, x_lt, x_le, x_eq, x_ix, x_nat, t_lt, f_lt, t_le, f_le, t_eq, f_eq, eq_self, and_self, true_and, and_true, false_and, and_false, if_true, if_false, Int.toNat_natCast, bI_s, bL_s, bA_s, bA_n, bV_s, mq_s, mq_n, en_le, bl_0, bl_1, u_eq, u_ne, w_eq, w_ne, v_eq, v_ne, hp_cc_1, hp_g_1_0, hp_g_1_1, hp_g_1_2, hp_g_1_3, hp_g_1_4, hp_g_1_5, hp_g_1_6, hp_g_1_7, hp_g_1_8, hp_p_1_8, hp_g_1_9, hp_p_1_9, hp_g_1_10, hp_p_1_10, hp_a_2, hp_n_2, hp_a_3, hp_n_3, hp_a_4, hp_cc_7, hp_g_7_0, hp_p_7_0, hp_g_7_1, hp_p_7_1, hp_g_7_2, hp_p_7_2, hp_g_7_3, hp_p_7_3, hp_g_7_4, hp_p_7_4, hp_g_7_5, hp_p_7_5, hp_g_7_6, hp_p_7_6, hp_g_7_7, hp_g_7_8, hp_p_7_8, hp_g_7_9, hp_p_7_9, hp_g_7_10, hp_p_7_10, hp_a_8, hp_s_8, hp_l_8, hrow, f1, e_X8_findClash, e1]
      | some c =>
        rw [hcl] at hfc
        obtain ⟨k', a', b', XI2, -, -, -, -, e1, -, -, -, e2⟩ := hfc
        have e1 : b_X8_findClash_1 sc (n + 38) 7 (iO 1) (hp XI1 XA1 XP XC MI MA ML D1) = _ := e1
        refine ⟨XI2, XA1, XP, XC, D1, Γ, ?_, hV1.scr e2 (fun _ _ => rfl), hGR⟩
        show f_X11_isEven sc (n + 40) 1 (iO (k : Int)) (iO (x : Int)) (iO (y : Int)) _ = _
        rw [e_X11_isEven]
        simp (disch := (first | assumption | (unfold i32; omega) | (unfold i64; omega) | omega)) only [↓reduceIte, ki_0, ki_1, ki_2, ki_3, ki_4, ki_5, ki_6, ki_7, ki_8, ki_9, ki_10, ki_11, ki_12, ki_13, ki_14, ki_15, ki_20, ki_21, ki_30, ki_31, ki_40, ki_41, ki_50, ki_51, ki_60, ki_63, ki_64, ki_65, ki_100, ki_158, ki_160, ki_200, ki_212, ki_1000, ki_2000, ki_2001, ki_5000, ki_10000, ki_10001, ki_100000, ki_200000, ki_1000000, ki_2000000, ki_3000000, iO_neg, iO_add, iO_sub, iO_mul, kn_4, kn_8, kn_10, kn_20, kn_24, kn_40, kn_41, kn_50, kn_60, kn_158, kn_160, kn_200, kn_212, kn_2001, tn_lt, fn_lt, tn_le, fn_le, tn_eq, fn_eq, x_lt, x_le, x_eq, x_ix, x_nat, t_lt, f_lt, t_le, f_le, t_eq, f_eq, eq_self, and_self, true_and, and_true, false_and, and_false, if_true, if_false, Int.toNat_natCast, bI_s, bL_s, bA_s, bA_n, bV_s, mq_s, mq_n, en_le, bl_0, bl_1, u_eq, u_ne, w_eq, w_ne, v_eq, v_ne, hp_cc_1, hp_g_1_0, hp_g_1_1, hp_g_1_2, hp_g_1_3, hp_g_1_4, hp_g_1_5, hp_g_1_6, hp_g_1_7, hp_g_1_8, hp_p_1_8, hp_g_1_9, hp_p_1_9, hp_g_1_10, hp_p_1_10, hp_a_2, hp_n_2, hp_a_3, hp_n_3, hp_a_4, hp_cc_7, hp_g_7_0, hp_p_7_0, hp_g_7_1, hp_p_7_1, hp_g_7_2, hp_p_7_2, hp_g_7_3, hp_p_7_3, hp_g_7_4, hp_p_7_4, hp_g_7_5, hp_p_7_5, hp_g_7_6, hp_p_7_6, hp_g_7_7, hp_g_7_8, hp_p_7_8, hp_g_7_9, hp_p_7_9, hp_g_7_10, hp_p_7_10, hp_a_8, hp_s_8, hp_l_8, hrow, f1, e_X8_findClash, e1]
    · rw [if_neg gg] at f1
      rw [if_neg gg]
      clear gg f6
      refine ⟨XI1, XA1, XP, XC, D1, Γ, ?_, hV1, hGR⟩
      show f_X11_isEven sc (n + 40) 1 (iO (k : Int)) (iO a) (iO m) _ = _
      rw [e_X11_isEven]
      simp (disch := (first | assumption | (unfold i32; omega) | (unfold i64; omega) | omega)) only [↓reduceIte, ki_0, ki_1, ki_2, ki_3, ki_4, ki_5, ki_6, ki_7, ki_8, ki_9, ki_10, ki_11, ki_12, ki_13, ki_14, ki_15, ki_20, ki_21, ki_30, ki_31, ki_40, ki_41, ki_50, ki_51, ki_60, ki_63, ki_64, ki_65, ki_100, ki_158, ki_160, ki_200, ki_212, ki_1000, ki_2000, ki_2001, ki_5000, ki_10000, ki_10001, ki_100000, ki_200000, ki_1000000, ki_2000000, ki_3000000, iO_neg, iO_add, iO_sub, iO_mul, kn_4, kn_8, kn_10, kn_20, kn_24, kn_40, kn_41, kn_50, kn_60, kn_158, kn_160, kn_200, kn_212, kn_2001, tn_lt, fn_lt, tn_le, fn_le, tn_eq, fn_eq, x_lt, x_le, x_eq, x_ix, x_nat, t_lt, f_lt, t_le, f_le, t_eq, f_eq, eq_self, and_self, true_and, and_true, false_and, and_false, if_true, if_false, Int.toNat_natCast, bI_s, bL_s, bA_s, bA_n, bV_s, mq_s, mq_n, en_le, bl_0, bl_1, u_eq, u_ne, w_eq, w_ne, v_eq, v_ne, hp_cc_1, hp_g_1_0, hp_g_1_1, hp_g_1_2, hp_g_1_3, hp_g_1_4, hp_g_1_5, hp_g_1_6, hp_g_1_7, hp_g_1_8, hp_p_1_8, hp_g_1_9, hp_p_1_9, hp_g_1_10, hp_p_1_10, hp_a_2, hp_n_2, hp_a_3, hp_n_3, hp_a_4, hp_cc_7, hp_g_7_0, hp_p_7_0, hp_g_7_1, hp_p_7_1, hp_g_7_2, hp_p_7_2, hp_g_7_3, hp_p_7_3, hp_g_7_4, hp_p_7_4, hp_g_7_5, hp_p_7_5, hp_g_7_6, hp_p_7_6, hp_g_7_7, hp_g_7_8, hp_p_7_8, hp_g_7_9, hp_p_7_9, hp_g_7_10, hp_p_7_10, hp_a_8, hp_s_8, hp_l_8, hrow, f1]
theorem cs_clash (hS : OK5 S) {r a m w : Int} (hr : i32 r) (ha : i32 a) (hm : i32 m) (hw : i32 w) : CS S S (p_clash S r a m w) (fun z => f_X11_clash sc (n + 40) 1 (iO r) (iO a) (iO m) (iO w) z) := by
  obtain ⟨w1, w2⟩ := id hw
  unfold p_clash
  by_cases gw : 0 ≤ w ∧ w ≤ 2
  · obtain ⟨gw1, gw2⟩ := gw
    cases hq : rowq S r with
    | none =>
      apply cs_ask
      intro XI XA XP XC MI MA ML D Γ hV
      show f_X11_clash sc (n + 40) 1 (iO r) (iO a) (iO m) (iO w) _ = _
      rw [e_X11_clash]
      have hrow := x_rowAt0 (sc := sc) (n := n + 38) (XC := XC) (MI := MI) (MA := MA) (ML := ML) hV hS hr hq
      rw [if_neg (show ¬ (iO w < 0) from nlt (a := w) (b := 0) hw (by unfold i32; omega) (by omega)), if_neg (show ¬ (2 < iO w) from nlt (a := 2) (b := w) (by unfold i32; omega) hw (by omega)), hp_g_1_4, hp_cc_1, if_pos rfl, hrow, bA_n, hp_cc_7, if_pos rfl, e_X8_read_N1, bI_s, if_pos rfl]
      rfl
    | some q =>
      intro XI XA XP XC MI MA ML D Γ hV
      dsimp only
      obtain ⟨k, rfl, hk, hq2⟩ := rowq_some hq
      have hR := hS.2.2.2.1 q (List.mem_of_getElem? hq2)
      have hsz : q.2.2.1 ≤ 10001 := hR.2.2.2.2.1
      have hva := hR.2.2.2.2.2.1
      obtain ⟨p, g, c1, c2, c3, c4, c5, c6, c7, c8, c9⟩ := hV.2.2.2.2.2.1 k q hq2
      have h9 := (hV.2.2.2.2.2.2.2.2 p g c2).1
      obtain ⟨XI1, XA1, D1, f1, f2, f3, f4, f5, f6⟩ := x_read (sc := sc) c2 h9 n XI XA XP XC MI MA ML D hV.2.2.2.2.2.2.2.2 ha hm
      rw [c7, c8] at f6
      rw [c7] at f1
      have hrow := x_rowAt1 (sc := sc) (n := n + 38) (XC := XC) (MI := MI) (MA := MA) (ML := ML) hV hS hq2 c1
      have hV1 : CV S Γ XI1 XA1 XP D1 := (hV.step f2 f3.2.2.1).scr (fun i hi => f4 i (by omega)) (fun i hi => f5 i (by omega))
      have hGR : GR D D1 := ⟨by rw [f3.1]; omega, by rw [f3.2.1]; omega⟩
      by_cases gg : 1 ≤ m ∧ m ≤ 40 ∧ 0 ≤ a ∧ a + m ≤ (q.2.2.1 : Nat)
      · rw [if_pos gg] at f1
        obtain ⟨u1, u2⟩ := f6 gg
        rw [if_pos (show 0 ≤ w ∧ w ≤ 2 ∧ 1 ≤ m ∧ m ≤ 40 ∧ 0 ≤ a ∧ a + m ≤ (q.2.2.1 : Nat) from ⟨gw1, gw2, gg⟩)]
        obtain ⟨g1, g2, g3, g4⟩ := gg
        obtain ⟨y, rfl⟩ : ∃ y : Nat, m = y := ⟨m.toNat, by omega⟩
        obtain ⟨x, rfl⟩ : ∃ x : Nat, a = x := ⟨a.toNat, by omega⟩
        rw [Int.toNat_natCast] at u2
        rw [Int.toNat_natCast] at u2
        rw [Int.toNat_natCast, Int.toNat_natCast]
        have hfc := x_findClash (sc := sc) (d := n + 36) (XP := XP) (XC := XC) (MI := MI) (MA := MA) (ML := ML) (D := D1) (fr := x) (n := y) (f := q.2.2.2) (by omega) u2 (by
          intro a' k' h'
          obtain ⟨b1, b2⟩ := ssum_b (f := q.2.2.2) (a := x + a') k' (fun i hi => hva i (by omega))
          omega) y 1 XI1 u1 (by omega) (by omega)
        clear hV f6 u2 hva
        cases hcl : cl1 (fun a k => ssum q.2.2.2 (x + a) k) y y 1 with
        | none =>
          rw [hcl] at hfc
          obtain ⟨XI2, e1, e2⟩ := hfc
          have e1 : f_X8_findClash sc (n + 39) 7 (hp XI1 XA1 XP XC MI MA ML D1) = _ := (e_X8_findClash _ _ _ _).trans e1
          refine ⟨XI2, XA1, XP, XC, D1, Γ, ?_, hV1.scr e2 (fun _ _ => rfl), hGR⟩
          show f_X11_clash sc (n + 40) 1 (iO (k : Int)) (iO (x : Int)) (iO (y : Int)) (iO w) _ = _
          rw [e_X11_clash, if_neg (show ¬ (iO w < 0) from nlt (a := w) (b := 0) hw (by unfold i32; omega) (by omega)), if_neg (show ¬ (2 < iO w) from nlt (a := 2) (b := w) (by unfold i32; omega) hw (by omega)), hp_g_1_4, hp_cc_1, if_pos rfl, hrow, bA_s, hp_cc_7, if_pos rfl, f1, bI_s, if_neg (show ¬ iO 1 = 0 by decide), hp_g_1_4, hp_cc_7, if_pos rfl, e1]
          rfl
        | some c =>
          rw [hcl] at hfc
          obtain ⟨k', a', b', XI2, q1, q2, q3, q4, e1, e4, e5, e6, e2⟩ := hfc
          have e1 : f_X8_findClash sc (n + 39) 7 (hp XI1 XA1 XP XC MI MA ML D1) = _ := (e_X8_findClash _ _ _ _).trans e1
          refine ⟨XI2, XA1, XP, XC, D1, Γ, ?_, hV1.scr e2 (fun _ _ => rfl), hGR⟩
          show f_X11_clash sc (n + 40) 1 (iO (k : Int)) (iO (x : Int)) (iO (y : Int)) (iO w) _ = _
          rw [e_X11_clash, if_neg (show ¬ (iO w < 0) from nlt (a := w) (b := 0) hw (by unfold i32; omega) (by omega)), if_neg (show ¬ (2 < iO w) from nlt (a := 2) (b := w) (by unfold i32; omega) hw (by omega)), hp_g_1_4, hp_cc_1, if_pos rfl, hrow, bA_s, hp_cc_7, if_pos rfl, f1, bI_s, if_neg (show ¬ iO 1 = 0 by decide), hp_g_1_4, hp_cc_7, if_pos rfl, e1, bI_s, if_neg (show ¬ iO 1 = 0 by decide)]
          obtain rfl | rfl | rfl : w = 0 ∨ w = 1 ∨ w = 2 := by omega
          · dsimp only
            rw [if_pos (show iO 0 = 0 from rfl), hp_g_1_4, hp_g_7_0, e4, if_pos rfl, show c / 10000 = (k' : Int) by omega]
          · dsimp only
            rw [if_neg (show ¬ iO 1 = 0 by decide), if_pos (show iO 1 = 1 from rfl), hp_g_1_4, hp_g_7_1, e5, iO_add, if_neg (show ¬ (1 : Int) = 0 by decide), if_pos rfl, show (x : Int) + (c / 100 - c / 100 / 100 * 100) = (x : Int) + (a' : Int) by omega]
          · dsimp only
            rw [if_neg (show ¬ iO 2 = 0 by decide), if_neg (show ¬ iO 2 = 1 by decide), hp_g_1_4, hp_g_7_2, e6, iO_add, if_neg (show ¬ (2 : Int) = 0 by decide), if_neg (show ¬ (2 : Int) = 1 by decide), show (x : Int) + (c - c / 100 * 100) = (x : Int) + (b' : Int) by omega]
      · rw [if_neg gg] at f1
        rw [if_neg (show ¬ (0 ≤ w ∧ w ≤ 2 ∧ 1 ≤ m ∧ m ≤ 40 ∧ 0 ≤ a ∧ a + m ≤ (q.2.2.1 : Nat)) by omega)]
        clear gg f6
        refine ⟨XI1, XA1, XP, XC, D1, Γ, ?_, hV1, hGR⟩
        show f_X11_clash sc (n + 40) 1 (iO (k : Int)) (iO a) (iO m) (iO w) _ = _
        rw [e_X11_clash, if_neg (show ¬ (iO w < 0) from nlt (a := w) (b := 0) hw (by unfold i32; omega) (by omega)), if_neg (show ¬ (2 < iO w) from nlt (a := 2) (b := w) (by unfold i32; omega) hw (by omega)), hp_g_1_4, hp_cc_1, if_pos rfl, hrow, bA_s, hp_cc_7, if_pos rfl, f1, bI_s, if_pos (show iO 0 = 0 from rfl)]
        rfl
  · have hno : (match rowq S r with
      | none => (-1 : Int)
      | some q => if 0 ≤ w ∧ w ≤ 2 ∧ 1 ≤ m ∧ m ≤ 40 ∧ 0 ≤ a ∧ a + m ≤ (q.2.2.1 : Nat) then (match cl1 (fun x k => ssum q.2.2.2 (a.toNat + x) k) m.toNat m.toNat 1 with
        | none => -1
        | some c => if w = 0 then c / 10000 else if w = 1 then a + (c / 100 - c / 100 / 100 * 100) else a + (c - c / 100 * 100)) else -1) = -1 := by
      cases rowq S r with
      | none => rfl
      | some q => exact if_neg (by omega)
    rw [hno]
    apply cs_ask
    intro XI XA XP XC MI MA ML D Γ hV
    show f_X11_clash sc (n + 40) 1 (iO r) (iO a) (iO m) (iO w) _ = _
    rw [e_X11_clash]
    by_cases g1 : w < 0
    · rw [if_pos (show iO w < 0 from plt (a := w) (b := 0) hw (by unfold i32; omega) g1)]; rfl
    · rw [if_neg (show ¬ (iO w < 0) from nlt (a := w) (b := 0) hw (by unfold i32; omega) (by omega)), if_pos (show 2 < iO w from plt (a := 2) (b := w) (by unfold i32; omega) hw (by omega))]; rfl
end CLA
-- FILE 88
/-! turning: both sides -/
def bt (x : Int64) (i : Nat) : Int := if x.toBitVec.getLsbD i = true then 1 else 0
theorem bt_01 (x : Int64) (i : Nat) : bt x i = 0 ∨ bt x i = 1 := by unfold bt; split <;> simp
/-- bits as a number, the first the highest -/
def vl (u : Nat → Int) : Nat → Int
  | 0 => 0
  | m + 1 => 2 * vl u m + u m
theorem p2_le {m k : Nat} (h : m ≤ k) : (2 : Int) ^ m ≤ 2 ^ k := by
  have h1 := Nat.pow_le_pow_right (n := 2) (by omega) h
  have h2 : ((2 ^ m : Nat) : Int) ≤ ((2 ^ k : Nat) : Int) := Int.ofNat_le.mpr h1
  rw [Int.natCast_pow, Int.natCast_pow] at h2
  exact h2
theorem vl_bd {u : Nat → Int} (h : ∀ i, u i = 0 ∨ u i = 1) : ∀ m, 0 ≤ vl u m ∧ vl u m < 2 ^ m
  | 0 => by simp [vl]
  | m + 1 => by
    have h1 := vl_bd h m
    have h2 := h m
    rw [vl, Int.pow_succ]
    omega
theorem vl_shift {u : Nat → Int} : ∀ m, vl u (m + 1) = 2 ^ m * u 0 + vl (fun i => u (i + 1)) m
  | 0 => by simp [vl]
  | m + 1 => by
    rw [vl, vl_shift m, vl, Int.pow_succ]
    have : (2 : Int) ^ m * 2 * u 0 = 2 * (2 ^ m * u 0) := by rw [Int.mul_comm (2 ^ m) 2, Int.mul_assoc]
    omega
theorem vl_cg {u v : Nat → Int} : ∀ m, (∀ i, i < m → u i = v i) → vl u m = vl v m
  | 0, _ => rfl
  | m + 1, h => by
    rw [vl, vl, vl_cg m (fun i hi => h i (by omega)), h m (by omega)]
theorem vl_lt {u v : Nat → Int} (hu : ∀ i, u i = 0 ∨ u i = 1) (hv : ∀ i, v i = 0 ∨ v i = 1) : ∀ (m k : Nat), k < m → (∀ i, i < k → u i = v i) → u k = 0 → v k = 1 → vl u m < vl v m
  | 0, k, hk, _, _, _ => by omega
  | m + 1, k, hk, h, h0, h1 => by
    rw [vl, vl]
    by_cases e : k = m
    · subst e
      have := vl_cg k h
      omega
    · have := vl_lt hu hv m k (by omega) h h0 h1
      have := hu m
      have := hv m
      omega
theorem lO_bv (k : Nat) (h : k < 9223372036854775808) : (lO k).toBitVec.toNat = k := by
  show (BitVec.ofInt 64 k).toNat = k
  rw [BitVec.toNat_ofInt]
  omega
theorem bt_of (x : Int64) {k : Nat} (hk : k < 64) : rsh x k &&& 1 = lO (bt x k) := by
  apply Int64.toBitVec_inj.mp
  apply BitVec.eq_of_getLsbD_eq
  intro i hi
  rw [Int64.toBitVec_and, BitVec.getLsbD_and]
  show ((x.toBitVec.sshiftRight k).getLsbD i && (1#64).getLsbD i) = _
  rw [BitVec.getLsbD_sshiftRight]
  unfold bt
  by_cases e : i = 0
  · subst e
    rw [if_pos (by omega), Nat.add_zero]
    by_cases q : x.toBitVec.getLsbD k = true
    · rw [if_pos q]
      show _ = (1#64).getLsbD 0
      simp [q]
    · rw [if_neg q]
      show _ = (0#64).getLsbD 0
      simp only [Bool.not_eq_true] at q
      simp [q]
  · have h1 : (1#64).getLsbD i = false := by simp [e]
    rw [h1, Bool.and_false]
    split
    · exact h1.symm
    · show _ = (0#64).getLsbD i
      simp
theorem lO_dbl (x : Nat) (hx : x < 1099511627776) : lO (x : Int) <<< ((1 : Int32).toInt64 &&& 63) = lO ((2 * x : Nat) : Int) := by
  have h := lsh_of (x := lO (x : Int)) (k := 1) (by decide)
  have h : lO (x : Int) <<< ((1 : Int32).toInt64 &&& 63) = lsh (lO (x : Int)) 1 := h
  rw [h]
  apply Int64.toBitVec_inj.mp
  apply BitVec.eq_of_toNat_eq
  show ((lO (x : Int)).toBitVec <<< 1).toNat = _
  rw [BitVec.toNat_shiftLeft, lO_bv x (by omega), lO_bv (2 * x) (by omega), Nat.shiftLeft_eq]
  omega
theorem lO_or1 (x b : Nat) (hx : x < 1099511627776) (hb : b < 2) : lO ((2 * x : Nat) : Int) ||| lO (b : Int) = lO ((2 * x + b : Nat) : Int) := by
  apply Int64.toBitVec_inj.mp
  apply BitVec.eq_of_toNat_eq
  rw [Int64.toBitVec_or, BitVec.toNat_or, lO_bv (2 * x) (by omega), lO_bv b (by omega), lO_bv (2 * x + b) (by omega)]
  have := Nat.two_pow_add_eq_or_of_lt (i := 1) (b := b) (by omega) x
  rw [Nat.pow_one] at this
  exact this.symm
theorem lO_shr (x k : Nat) (hx : x < 1099511627776) (hk : k < 64) : rsh (lO (x : Int)) k = lO ((x / 2 ^ k : Nat) : Int) := by
  have hle : x / 2 ^ k ≤ x := Nat.div_le_self _ _
  apply Int64.toBitVec_inj.mp
  apply BitVec.eq_of_toNat_eq
  show ((lO (x : Int)).toBitVec.sshiftRight k).toNat = _
  have hm : (lO (x : Int)).toBitVec.msb = false := by
    rw [BitVec.msb_eq_decide, lO_bv x (by omega)]
    simp
    omega
  rw [BitVec.sshiftRight_eq_of_msb_false hm, BitVec.toNat_ushiftRight, lO_bv x (by omega), lO_bv _ (by omega), Nat.shiftRight_eq_div_pow]
theorem mask_of : ∀ m : Nat, m < 41 → (1 : Int64) <<< ((iO (m : Int)).toInt64 &&& 63) - 1 = lO ((2 ^ m - 1 : Nat) : Int) := by decide +kernel
theorem lO_mask (x m : Nat) (hx : x < 2199023255552) (hm : m < 41) : lO (x : Int) &&& lO ((2 ^ m - 1 : Nat) : Int) = lO ((x % 2 ^ m : Nat) : Int) := by
  have h1 : x % 2 ^ m ≤ x := Nat.mod_le _ _
  have h2 : 2 ^ m ≤ 2 ^ 40 := Nat.pow_le_pow_right (by omega) (by omega)
  have h2 : 2 ^ m ≤ 1099511627776 := h2
  apply Int64.toBitVec_inj.mp
  apply BitVec.eq_of_toNat_eq
  rw [Int64.toBitVec_and, BitVec.toNat_and, lO_bv x (by omega), lO_bv _ (by omega), lO_bv (x % 2 ^ m) (by omega)]
  exact Nat.and_two_pow_sub_one_eq_mod x m
theorem i_mod {x y : Nat} (hx : x < 2147483648) (hy : 0 < y) (hy2 : y < 2147483648) : iO (x : Int) - iO (x : Int) / iO (y : Int) * iO (y : Int) = iO ((x % y : Nat) : Int) := by
  rw [iO_divp (by omega) (by unfold i32; omega) (by omega) (by unfold i32; omega), iO_mul, iO_sub]
  congr 1
  rw [Int.natCast_emod, Int.emod_def, Int.mul_comm (y : Int)]
/-- one turning further: the first bit goes to the end -/
theorem turn1 {M V : Nat} {b W : Nat} (hM : M < 40) (hb : b < 2) (hW : W < 2 ^ M) (hV : V = 2 ^ M * b + W) : ((lO (V : Int) <<< ((1 : Int32).toInt64 &&& 63)) &&& lO ((2 ^ (M + 1) - 1 : Nat) : Int)) ||| (lO (V : Int) >>> ((iO (M : Int)).toInt64 &&& 63)) = lO ((2 * W + b : Nat) : Int) := by
  have h2 : 2 ^ M ≤ 2 ^ 39 := Nat.pow_le_pow_right (by omega) (by omega)
  have h2 : 2 ^ M ≤ 549755813888 := h2
  have hVb : V < 1099511627776 := by
    rcases (show b = 0 ∨ b = 1 by omega) with h | h <;> subst h <;> omega
  have e1 : 2 * V % 2 ^ (M + 1) = 2 * W := by
    rw [Nat.pow_succ]
    have hh : 2 * V = 2 * W + 2 ^ M * 2 * b := by
      rw [hV, Nat.mul_add, Nat.mul_assoc (2 ^ M) 2 b, Nat.mul_left_comm]
      omega
    rw [hh, Nat.add_mul_mod_self_left, Nat.mod_eq_of_lt (by omega)]
  have e2 : V / 2 ^ M = b := by
    rw [hV, Nat.mul_add_div (Nat.two_pow_pos M), Nat.div_eq_of_lt hW, Nat.add_zero]
  rw [lO_dbl V hVb, lO_mask _ _ (by omega) (by omega), rsh_of (by omega), lO_shr V M hVb (by omega), e1, e2, lO_or1 W b (by omega) hb]
/-- the least turning -/
def tbest (V : Nat → Int) : Nat → Nat → Nat → Nat
  | 0, _, b => b
  | j + 1, a, b => tbest V j (a + 1) (if V a < V b then a else b)
def vt (x : Int64) (m a : Nat) : Int := vl (fun i => bt x ((a + i) % m)) m
def p_turning (x : Int64) (m : Int) : Int := if 1 ≤ m ∧ m ≤ 40 then ((tbest (vt x m.toNat) (m.toNat - 1) 1 0 : Nat) : Int) else -1
theorem vt_bd (x : Int64) (m a : Nat) (hm : m ≤ 40) : 0 ≤ vt x m a ∧ vt x m a < 1099511627776 := by
  have h := vl_bd (u := fun i => bt x ((a + i) % m)) (fun i => bt_01 _ _) m
  have h2 : (2 : Int) ^ m ≤ 2 ^ 40 := p2_le hm
  have h2 : (2 : Int) ^ m ≤ 1099511627776 := h2
  unfold vt
  omega
section TRN
variable {sc : en_S} {n : Nat} {S : ST5} {z : en_H}
theorem x_backward {x : Int64} {m : Nat} (hm : m ≤ 40) : f_X11_backward sc (n + 1) x (iO (m : Int)) z = some (some (.long (lO (vt x m 0))), z) := by
  have key : ∀ (j i : Nat), i + j = m → b_X11_backward_1 sc n x (iO (m : Int)) (lO (vl (fun i => bt x ((0 + i) % m)) i)) (iO (i : Int)) z = some (some (.long (lO (vt x m 0))), z) := by
    intro j
    induction j with
    | zero =>
      intro i hi
      obtain rfl : i = m := by omega
      rw [eb_X11_backward_1]
      simp (disch := (first | assumption | (unfold i32; omega) | (unfold i64; omega) | omega)) only [↓reduceIte, ki_0, ki_1, ki_2, ki_3, ki_4, ki_5, ki_6, ki_7, ki_8, ki_9, ki_10, ki_11, ki_12, ki_13, ki_14, ki_15, ki_20, ki_21, ki_30, ki_31, ki_40, ki_41, ki_50, ki_51, ki_60, ki_63, ki_64, ki_65, ki_100, ki_158, ki_160, ki_200, ki_212, ki_1000, ki_2000, ki_2001, ki_5000, ki_10000, ki_10001, ki_100000, ki_200000, ki_1000000, ki_2000000, ki_3000000, iO_neg, iO_add, iO_sub, iO_mul, kn_4, kn_8, kn_10, kn_20, kn_24, kn_40, kn_41, kn_50, kn_60, kn_158, kn_160, kn_200, kn_212, kn_2001, tn_lt, fn_lt, tn_le, fn_le, tn_eq, fn_eq, x_lt, x_le, x_eq, x_ix, x_nat, t_lt, f_lt, t_le, f_le, t_eq, f_eq, eq_self, and_self, true_and, and_true, false_and, and_false, if_true, if_false, Int.toNat_natCast, bI_s, bL_s, bA_s, bA_n, bV_s, mq_s, mq_n, en_le, bl_0, bl_1, u_eq, u_ne, w_eq, w_ne, v_eq, v_ne]
      rfl
    | succ j ih =>
      intro i hi
      rw [← ih (i + 1) (by omega), eb_X11_backward_1]
      have hb := vl_bd (u := fun i => bt x ((0 + i) % m)) (fun i => bt_01 _ _) i
      have h2 : (2 : Int) ^ i ≤ 2 ^ 39 := p2_le (by omega)
      have h2 : (2 : Int) ^ i ≤ 549755813888 := h2
      obtain ⟨V, hV⟩ : ∃ V : Nat, vl (fun i => bt x ((0 + i) % m)) i = V := ⟨(vl (fun i => bt x ((0 + i) % m)) i).toNat, by omega⟩
      have e1 : (0 + i) % m = i := by rw [Nat.zero_add, Nat.mod_eq_of_lt (by omega)]
      obtain ⟨b, hbb, hb2⟩ : ∃ b : Nat, bt x i = b ∧ b < 2 := ⟨(bt x i).toNat, by have := bt_01 x i; omega, by have := bt_01 x i; omega⟩
      have e2 : vl (fun i => bt x ((0 + i) % m)) (i + 1) = ((2 * V + b : Nat) : Int) := by
        rw [vl, hV, e1, hbb]
        omega
      rw [if_neg (nle (a := (m : Int)) (b := (i : Int)) (by unfold i32; omega) (by unfold i32; omega) (by omega)), rsh_of (by omega), bt_of x (by omega), hV, hbb, lO_dbl V (by omega), lO_or1 V b (by omega) hb2, e2, en_le, en_le, ki_1, iO_add]
      rfl
  rw [e_X11_backward]
  exact key m 0 (by omega)
theorem vt_next {x : Int64} {M a : Nat} : ∃ b W : Nat, b < 2 ∧ W < 2 ^ M ∧ vt x (M + 1) a = ((2 ^ M * b + W : Nat) : Int) ∧ vt x (M + 1) (a + 1) = ((2 * W + b : Nat) : Int) := by
  have h1 := vl_shift (u := fun i => bt x ((a + i) % (M + 1))) M
  have hw := vl_bd (u := fun i => bt x ((a + (i + 1)) % (M + 1))) (fun i => bt_01 _ _) M
  have hc : vl (fun i => bt x ((a + 1 + i) % (M + 1))) M = vl (fun i => bt x ((a + (i + 1)) % (M + 1))) M := vl_cg M (fun i _ => by
    show bt x ((a + 1 + i) % (M + 1)) = bt x ((a + (i + 1)) % (M + 1))
    rw [Nat.add_assoc, Nat.add_comm 1 i])
  have hl : bt x ((a + 1 + M) % (M + 1)) = bt x ((a + 0) % (M + 1)) := by
    show _ = bt x (a % (M + 1))
    rw [Nat.add_assoc, Nat.add_comm 1 M, Nat.add_mod_right]
  have hb := bt_01 x ((a + 0) % (M + 1))
  refine ⟨(bt x ((a + 0) % (M + 1))).toNat, (vl (fun i => bt x ((a + (i + 1)) % (M + 1))) M).toNat, by omega, ?_, ?_, ?_⟩
  · have h2 : ((2 ^ M : Nat) : Int) = (2 : Int) ^ M := by simp
    omega
  · unfold vt
    rw [h1]
    have h2 : ((2 ^ M : Nat) : Int) = (2 : Int) ^ M := by simp
    rw [Int.natCast_add, Int.natCast_mul, h2, Int.toNat_of_nonneg hw.1, Int.toNat_of_nonneg (show 0 ≤ bt x ((a + 0) % (M + 1)) by omega)]
  · unfold vt
    rw [vl, hc, hl]
    omega
theorem x_turning_loop {x : Int64} {M : Nat} (hm : M < 40) : ∀ (j a b : Nat), a + j = M + 1 → 1 ≤ a → b ≤ M → b_X11_turning_3 sc n (iO ((M + 1 : Nat) : Int)) (lO ((2 ^ (M + 1) - 1 : Nat) : Int)) (lO (vt x (M + 1) (a - 1))) (lO (vt x (M + 1) b)) (iO (b : Int)) (iO (a : Int)) z = some (some (.int (iO ((tbest (vt x (M + 1)) j a b : Nat) : Int))), z) := by
  intro j
  induction j with
  | zero =>
    intro a b ha h1 hb
    rw [eb_X11_turning_3, if_pos (ple (a := ((M + 1 : Nat) : Int)) (b := (a : Int)) (by unfold i32; omega) (by unfold i32; omega) (by omega))]
    rfl
  | succ j ih =>
    intro a b ha h1 hb
    obtain ⟨c, W, q1, q2, q3, q4⟩ := vt_next (x := x) (M := M) (a := a - 1)
    rw [show a - 1 + 1 = a by omega] at q4
    have ht := turn1 hm q1 q2 rfl
    rw [← q3, ← q4] at ht
    have b1 := vt_bd x (M + 1) a (by omega)
    have b2 := vt_bd x (M + 1) b (by omega)
    have e1 : iO ((M + 1 : Nat) : Int) - 1 = iO (M : Int) := by
      rw [ki_1, iO_sub]
      congr 1
      omega
    rw [eb_X11_turning_3, if_neg (nle (a := ((M + 1 : Nat) : Int)) (b := (a : Int)) (by unfold i32; omega) (by unfold i32; omega) (by omega)), e1, ht, tbest]
    by_cases g : vt x (M + 1) a < vt x (M + 1) b
    · rw [if_pos g, ← ih (a + 1) a (by omega) (by omega) (by omega)]
      clear ih ht q3 q4
      rw [show a + 1 - 1 = a by omega]
      generalize vt x (M + 1) a = P at *
      generalize vt x (M + 1) b = Q at *
      simp (disch := (first | assumption | (unfold i32; omega) | (unfold i64; omega) | omega)) only [↓reduceIte, ki_0, ki_1, ki_2, ki_3, ki_4, ki_5, ki_6, ki_7, ki_8, ki_9, ki_10, ki_11, ki_12, ki_13, ki_14, ki_15, ki_20, ki_21, ki_30, ki_31, ki_40, ki_41, ki_50, ki_51, ki_60, ki_63, ki_64, ki_65, ki_100, ki_158, ki_160, ki_200, ki_212, ki_1000, ki_2000, ki_2001, ki_5000, ki_10000, ki_10001, ki_100000, ki_200000, ki_1000000, ki_2000000, ki_3000000, iO_neg, iO_add, iO_sub, iO_mul, kn_4, kn_8, kn_10, kn_20, kn_24, kn_40, kn_41, kn_50, kn_60, kn_158, kn_160, kn_200, kn_212, kn_2001, tn_lt, fn_lt, tn_le, fn_le, tn_eq, fn_eq, x_lt, x_le, x_eq, x_ix, x_nat, t_lt, f_lt, t_le, f_le, t_eq, f_eq, eq_self, and_self, true_and, and_true, false_and, and_false, if_true, if_false, Int.toNat_natCast, bI_s, bL_s, bA_s, bA_n, bV_s, mq_s, mq_n, en_le, bl_0, bl_1, u_eq, u_ne, w_eq, w_ne, v_eq, v_ne, lc_lt, lc_le, lc_gt, lc_ge, lc_eq, y_lt, y_le, y_eq]
      rfl
    · rw [if_neg g, ← ih (a + 1) b (by omega) (by omega) (by omega)]
      have g : vt x (M + 1) b ≤ vt x (M + 1) a := by omega
      clear ih ht q3 q4
      have e3 : a + 1 - 1 = a := by omega
      rw [e3]
      generalize vt x (M + 1) a = P at *
      generalize vt x (M + 1) b = Q at *
      simp (disch := (first | assumption | (unfold i32; omega) | (unfold i64; omega) | omega)) only [↓reduceIte, ki_0, ki_1, ki_2, ki_3, ki_4, ki_5, ki_6, ki_7, ki_8, ki_9, ki_10, ki_11, ki_12, ki_13, ki_14, ki_15, ki_20, ki_21, ki_30, ki_31, ki_40, ki_41, ki_50, ki_51, ki_60, ki_63, ki_64, ki_65, ki_100, ki_158, ki_160, ki_200, ki_212, ki_1000, ki_2000, ki_2001, ki_5000, ki_10000, ki_10001, ki_100000, ki_200000, ki_1000000, ki_2000000, ki_3000000, iO_neg, iO_add, iO_sub, iO_mul, kn_4, kn_8, kn_10, kn_20, kn_24, kn_40, kn_41, kn_50, kn_60, kn_158, kn_160, kn_200, kn_212, kn_2001, tn_lt, fn_lt, tn_le, fn_le, tn_eq, fn_eq, x_lt, x_le, x_eq, x_ix, x_nat, t_lt, f_lt, t_le, f_le, t_eq, f_eq, eq_self, and_self, true_and, and_true, false_and, and_false, if_true, if_false, Int.toNat_natCast, bI_s, bL_s, bA_s, bA_n, bV_s, mq_s, mq_n, en_le, bl_0, bl_1, u_eq, u_ne, w_eq, w_ne, v_eq, v_ne, lc_lt, lc_le, lc_gt, lc_ge, lc_eq, y_lt, y_le, y_eq]
      rfl
theorem cs_turning {x : Int64} {m : Int} (hm : i32 m) : CS S S (p_turning x m) (fun z => f_X11_turning sc (n + 40) 1 x (iO m) z) := by
  obtain ⟨m1, m2⟩ := id hm
  apply cs_ask
  intro XI XA XP XC MI MA ML D Γ hV
  show f_X11_turning sc (n + 40) 1 x (iO m) _ = _
  rw [e_X11_turning]
  unfold p_turning
  by_cases g : 1 ≤ m ∧ m ≤ 40
  · rw [if_pos g]
    obtain ⟨M, rfl⟩ : ∃ M : Nat, m = ((M + 1 : Nat) : Int) := ⟨m.toNat - 1, by omega⟩
    rw [if_neg (show ¬ (iO ((M + 1 : Nat) : Int) < 1) from nlt (a := ((M + 1 : Nat) : Int)) (b := 1) (by unfold i32; omega) (by unfold i32; omega) (by omega)), if_pos (show iO ((M + 1 : Nat) : Int) ≤ 40 from ple (a := ((M + 1 : Nat) : Int)) (b := 40) (by unfold i32; omega) (by unfold i32; omega) (by omega)), mask_of (M + 1) (by omega), en_le, x_backward (by omega), bL_s, Int.toNat_natCast]
    exact x_turning_loop (by omega) M 1 0 (by omega) (by omega) (by omega)
  · rw [if_neg g]
    rcases Int.lt_or_le m 1 with g2 | g2
    · rw [if_pos (show iO m < 1 from plt (a := m) (b := 1) hm (by unfold i32; omega) g2)]
      rfl
    · rw [if_neg (show ¬ (iO m < 1) from nlt (a := m) (b := 1) hm (by unfold i32; omega) (by omega)), if_neg (show ¬ (iO m ≤ 40) from nle (a := m) (b := 40) hm (by unfold i32; omega) (by omega))]
      rfl
theorem m_turning_3 {x : Int64} {m a b : Nat} (hm : m ≤ 40) (h1 : 1 ≤ m) (ha : a < m) (hb : b < m) : ∀ (j i : Nat), i + j = m → (∀ t, t < i → bt x ((a + t) % m) = bt x ((b + t) % m)) → b_X12_turning_3 sc n x (iO (m : Int)) (iO (b : Int)) (iO (a : Int)) (iO (i : Int)) z = b_X12_turning_2 sc n x (iO (m : Int)) (iO ((if vt x m a < vt x m b then a else b : Nat) : Int)) (iO ((a + 1 : Nat) : Int)) z := by
  intro j
  induction j with
  | zero =>
    intro i hi h
    obtain rfl : i = m := by omega
    have e : vt x i a = vt x i b := vl_cg i h
    rw [eb_X12_turning_3, if_pos (ple (a := (i : Int)) (b := (i : Int)) (by unfold i32; omega) (by unfold i32; omega) (by omega)), eb_X12_turning_4, if_pos (ple (a := (i : Int)) (b := (i : Int)) (by unfold i32; omega) (by unfold i32; omega) (by omega)), if_neg (show ¬ vt x i a < vt x i b by omega), en_le, ki_1, iO_add]
    rfl
  | succ j ih =>
    intro i hi h
    have k1 := Nat.mod_lt (a + i) (show 0 < m by omega)
    have k2 := Nat.mod_lt (b + i) (show 0 < m by omega)
    have e1 : iO (a : Int) + iO (i : Int) - (iO (a : Int) + iO (i : Int)) / iO (m : Int) * iO (m : Int) = iO (((a + i) % m : Nat) : Int) := by
      rw [iO_add, ← i_mod (x := a + i) (y := m) (by omega) (by omega) (by omega)]
      rfl
    have e2 : iO (b : Int) + iO (i : Int) - (iO (b : Int) + iO (i : Int)) / iO (m : Int) * iO (m : Int) = iO (((b + i) % m : Nat) : Int) := by
      rw [iO_add, ← i_mod (x := b + i) (y := m) (by omega) (by omega) (by omega)]
      rfl
    have n0 : ¬ iO (m : Int) = 0 := fun q => by
      have := (iO_eq (a := (m : Int)) (b := 0) (by unfold i32; omega) (by unfold i32; omega)).mp q
      omega
    have hl := ih (i + 1) (by omega)
    have ba := bt_01 x ((a + i) % m)
    have bb := bt_01 x ((b + i) % m)
    have hlg : ∀ P Q : Int, (P = 0 ∨ P = 1) → (Q = 0 ∨ Q = 1) → (lg_cmp (lO P) (lO Q) = 0 ↔ P = Q) := by
      intro P Q hP hQ
      rw [show (lg_cmp (lO P) (lO Q) = 0) = (lO P = lO Q) from lc_eq (lO P) (lO Q)]
      exact lO_eq (by unfold i64; omega) (by unfold i64; omega)
    rw [eb_X12_turning_3, if_neg (nle (a := (m : Int)) (b := (i : Int)) (by unfold i32; omega) (by unfold i32; omega) (by omega)), if_neg n0, if_neg n0, e1, e2, rsh_of (by omega), rsh_of (by omega), bt_of x (by omega), bt_of x (by omega)]
    by_cases g : bt x ((a + i) % m) = bt x ((b + i) % m)
    · rw [if_pos ((hlg _ _ ba bb).mpr g), en_le]
      refine Eq.trans ?_ (hl (fun t ht => ?_))
      · rw [ki_1, iO_add]
        rfl
      · by_cases e : t = i
        · subst e; exact g
        · exact h t (by omega)
    · rw [if_neg (fun q => g ((hlg _ _ ba bb).mp q)), eb_X12_turning_4, if_neg (nle (a := (m : Int)) (b := (i : Int)) (by unfold i32; omega) (by unfold i32; omega) (by omega)), if_neg n0, e1, rsh_of (by omega), bt_of x (by omega)]
      rcases ba with q | q
      · have q2 : bt x ((b + i) % m) = 1 := by omega
        have hlt : vt x m a < vt x m b := vl_lt (fun i => bt_01 _ _) (fun i => bt_01 _ _) m i (by omega) h q q2
        rw [if_pos hlt, q, if_pos (show lg_cmp (lO 0) 0 = 0 from (hlg 0 0 (by omega) (by omega)).mpr rfl), en_le, ki_1, iO_add]
        rfl
      · have q2 : bt x ((b + i) % m) = 0 := by omega
        have hlt : vt x m b < vt x m a := vl_lt (fun i => bt_01 _ _) (fun i => bt_01 _ _) m i (by omega) (fun t ht => (h t ht).symm) q2 q
        rw [if_neg (show ¬ vt x m a < vt x m b by omega), q, if_neg (show ¬ lg_cmp (lO 1) 0 = 0 from fun r => absurd ((hlg 1 0 (by omega) (by omega)).mp r) (by decide)), en_le, ki_1, iO_add]
        rfl
theorem m_turning_2 {x : Int64} {m : Nat} (hm : m ≤ 40) (h1 : 1 ≤ m) : ∀ (j a b : Nat), a + j = m → b < m → b_X12_turning_2 sc n x (iO (m : Int)) (iO (b : Int)) (iO (a : Int)) z = some (some (.int (iO ((tbest (vt x m) j a b : Nat) : Int))), z) := by
  intro j
  induction j with
  | zero =>
    intro a b ha hb
    rw [eb_X12_turning_2, if_pos (ple (a := (m : Int)) (b := (a : Int)) (by unfold i32; omega) (by unfold i32; omega) (by omega))]
    rfl
  | succ j ih =>
    intro a b ha hb
    have h3 := m_turning_3 (sc := sc) (n := n) (z := z) (x := x) hm h1 (a := a) (b := b) (by omega) hb m 0 (by omega) (fun t ht => by omega)
    rw [eb_X12_turning_2, if_neg (nle (a := (m : Int)) (b := (a : Int)) (by unfold i32; omega) (by unfold i32; omega) (by omega)), tbest]
    refine Eq.trans h3 ?_
    exact ih (a + 1) _ (by omega) (by split <;> omega)
theorem mc_turning {x : Int64} {m : Int} (hm : i32 m) : MC S S (p_turning x m) (fun z => f_X12_turning sc (n + 40) 26 x (iO m) z) := by
  obtain ⟨m1, m2⟩ := id hm
  apply mc_ask
  intro XI XA XP XC MI MA ML D hV
  show f_X12_turning sc (n + 40) 26 x (iO m) _ = _
  rw [e_X12_turning, ki_1, ki_40, e_in hm (by unfold i32; omega) (by unfold i32; omega), bI_s]
  unfold p_turning
  by_cases g : 1 ≤ m ∧ m ≤ 40
  · rw [if_pos g, if_pos g]
    obtain ⟨y, rfl⟩ : ∃ y : Nat, m = y := ⟨m.toNat, by omega⟩
    rw [if_neg (show ¬ iO 1 = 0 by decide), Int.toNat_natCast]
    exact m_turning_2 (by omega) (by omega) (y - 1) 1 0 (by omega) (by omega)
  · rw [if_neg g, if_neg g, if_pos (show iO 0 = 0 from rfl)]
    rfl
end TRN
