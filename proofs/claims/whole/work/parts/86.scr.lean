/-! SCRATCH: what no state speaks of; a stretch is read -/
theorem CV.scr {S : ST5} {Γ : Nat → Option GD} {XI XI' : Nat → Int32} {XA XA' : Nat → Nat → Int32} {XP : Nat → Nat → Option Nat} {D : en_H} (h : CV S Γ XI XA XP D) (h1 : ∀ i, i < 4 ∨ 15 ≤ i → XI' i = XI i) (h2 : ∀ i, i = 0 ∨ 10 ≤ i → XA' i = XA i) : CV S Γ XI' XA' XP D := by
  obtain ⟨a1, a2, a3, a4, a5, a6, a7, a8, a9⟩ := h
  refine ⟨by rw [h1 0 (by omega)]; exact a1, by rw [h1 1 (by omega)]; exact a2, by rw [h1 2 (by omega)]; exact a3, by rw [h1 3 (by omega)]; exact a4, a5, a6, ?_, ?_, a9⟩
  · intro k hk
    obtain ⟨b1, b2, b3⟩ := a7 k hk
    rw [h1 _ (by omega), h1 _ (by omega), h2 _ (by omega)]
    exact ⟨b1, b2, b3⟩
  · intro i x hx
    rw [h2 0 (by omega)]
    exact a8 i x hx
theorem MV.scr {S : ST5} {MI MI' : Nat → Int32} {MA MA' : Nat → Nat → Int32} (h : MV S MI MA) (h1 : ∀ i, i < 4 → MI' i = MI i) (h2 : ∀ i, i < 12 → MA' i = MA i) : MV S MI' MA' := by
  obtain ⟨a1, a2, a3, a4, a5, a6, a7, a8⟩ := h
  refine ⟨by rw [h1 0 (by omega)]; exact a1, by rw [h1 1 (by omega)]; exact a2, by rw [h1 2 (by omega)]; exact a3, by rw [h1 3 (by omega)]; exact a4, ?_, ?_, ?_, ?_⟩
  · intro s q hq
    obtain ⟨b1, b2, b3, b4⟩ := a5 s q hq
    exact ⟨by rw [h2 0 (by omega)]; exact b1, by rw [h2 1 (by omega)]; exact b2, by rw [h2 2 (by omega)]; exact b3, by rw [h2 3 (by omega)]; exact b4⟩
  · intro r q hq
    rw [h2 4 (by omega), h2 5 (by omega), h2 6 (by omega), h2 7 (by omega)]
    exact a6 r q hq
  · intro k hk
    rw [h2 8 (by omega), h2 9 (by omega), h2 10 (by omega)]
    exact a7 k hk
  · intro i x hx
    rw [h2 11 (by omega)]
    exact a8 i x hx
theorem nlt {a b : Int} (ha : i32 a) (hb : i32 b) (h : b ≤ a) : ¬ (iO a < iO b) := fun q => by have := (iO_lt ha hb).mp q; omega
theorem nle {a b : Int} (ha : i32 a) (hb : i32 b) (h : b < a) : ¬ (iO a ≤ iO b) := fun q => by have := (iO_le ha hb).mp q; omega
theorem plt {a b : Int} (ha : i32 a) (hb : i32 b) (h : a < b) : iO a < iO b := (iO_lt ha hb).mpr h
theorem ple {a b : Int} (ha : i32 a) (hb : i32 b) (h : a ≤ b) : iO a ≤ iO b := (iO_le ha hb).mpr h
theorem i32_sub (x : Int32) (P Q : Int) : (x + iO P) - (x + iO Q) = iO (P - Q) := by
  rw [← iO_as x, iO_add, iO_add, iO_sub]
  congr 1
  omega
theorem i32_adds (x : Int32) (P Q : Int) : (x + iO P) + iO Q = x + iO (P + Q) := by
  rw [← iO_as x, iO_add, iO_add, iO_add]
  congr 1
  omega
theorem ssum_split (f : Nat → Int) (fr a : Nat) : ∀ k, ssum f fr (a + k) = ssum f fr a + ssum f (fr + a) k
  | 0 => by
    show ssum f fr a = ssum f fr a + 0
    omega
  | k + 1 => by
    have h1 : ssum f fr (a + (k + 1)) = ssum f fr (a + k) + f (fr + (a + k)) := rfl
    have h2 : ssum f (fr + a) (k + 1) = ssum f (fr + a) k + f (fr + a + k) := rfl
    rw [h1, h2, ssum_split f fr a k, Nat.add_assoc fr a k]
    omega
section RDS
variable {sc : en_S} {Γ : Nat → Option GD}
theorem x_read_loop {p : Nat} {g : GD} (hg : Γ p = some g) (h9 : g.2.1 ≤ 9) {m : Nat} (hm : 24 ≤ m) (XI : Nat → Int32) (XP : Nat → Nat → Option Nat) (XC : Value) (MI : Nat → Int32) (MA : Nat → Nat → Int32) (ML : Nat → Nat → Int64) {fr n : Nat} (hfr : fr ≤ 10000) (hn : n ≤ 40) (hn1 : 1 ≤ n) : ∀ (j i : Nat) (XA : Nat → Nat → Int32) (D : en_H), i + j = n → HV Γ D → (i = 0 ∨ fr + i ≤ g.2.2.2.2.1) → (∀ t, t ≤ i → XA 1 t = XA 1 0 + iO (ssum g.2.2.2.2.2.1 fr t)) →
    ∃ XA' D', b_X8_read_3 sc m 7 (p + 51) (iO (fr : Nat)) (iO (n : Nat)) (iO (i : Nat)) (hp XI XA XP XC MI MA ML D) = some (some (.int (iO (if fr + n ≤ g.2.2.2.2.1 then 1 else 0))), hp XI XA' XP XC MI MA ML D') ∧ HV Γ D' ∧ KP Γ g.2.1 D D' ∧ (∀ t, t ≠ 1 → XA' t = XA t) ∧ (fr + n ≤ g.2.2.2.2.1 → ∀ t, t ≤ n → XA' 1 t = XA' 1 0 + iO (ssum g.2.2.2.2.2.1 fr t)) := by
  intro j
  induction j with
  | zero =>
    intro i XA D hi hV hsz hs
    obtain rfl : i = n := by omega
    refine ⟨XA, D, ?_, hV, KP.refl, fun _ _ => rfl, fun _ => hs⟩
    rw [eb_X8_read_3, if_pos (show fr + i ≤ g.2.2.2.2.1 by omega)]
    simp (disch := (first | assumption | (unfold i32; omega) | (unfold i64; omega) | omega)) only [↓reduceIte, ki_0, ki_1, ki_2, ki_3, ki_4, ki_5, ki_6, ki_7, ki_8, ki_9, ki_10, ki_11, ki_12, ki_13, ki_14, ki_15, ki_20, ki_21, ki_30, ki_31, ki_40, ki_41, ki_50, ki_51, ki_60, ki_63, ki_64, ki_65, ki_100, ki_158, ki_160, ki_200, ki_212, ki_1000, ki_2000, ki_2001, ki_5000, ki_10000, ki_10001, ki_100000, ki_200000, ki_1000000, ki_2000000, ki_3000000, iO_neg, iO_add, iO_sub, iO_mul, kn_4, kn_8, kn_10, kn_20, kn_24, kn_40, kn_41, kn_50, kn_60, kn_158, kn_160, kn_200, kn_212, kn_2001, tn_lt, fn_lt, tn_le, fn_le, tn_eq, fn_eq, x_lt, x_le, x_eq, x_ix, x_nat, t_lt, f_lt, t_le, f_le, t_eq, f_eq, eq_self, and_self, true_and, and_true, false_and, and_false, if_true, if_false, Int.toNat_natCast, bI_s, bL_s, bA_s, bA_n, bV_s, mq_s, mq_n, en_le, bl_0, bl_1, u_eq, u_ne, w_eq, w_ne, v_eq, v_ne]
  | succ j ih =>
    intro i XA D hi hV hsz hs
    obtain ⟨D1, s1, s2, s3⟩ := step_ok (sc := sc) g.2.1 p g hg rfl m XI XA XP XC MI MA ML D ((fr : Int) + (i : Int)) hV (by unfold i32; omega) (by omega)
    obtain ⟨-, g2, g3, -⟩ := hV p g hg
    by_cases e : fr + i < g.2.2.2.2.1
    · have hst : stp g ((fr : Int) + (i : Int)) = g.2.2.2.2.2.1 (fr + i) := by
        unfold stp
        rw [if_pos (by omega)]
        congr 1
      obtain ⟨v1, v2⟩ := g3 (fr + i) e
      obtain ⟨XA', D', f1, f2, f3, f4, f5⟩ := ih (i + 1) (va_up XA 1 (upd (XA 1) (i + 1) (XA 1 i + iO (g.2.2.2.2.2.1 (fr + i))))) D1 (by omega) s2 (Or.inr (by omega)) (by
        intro t ht
        rw [w_eq rfl, u_ne (show 0 ≠ i + 1 by omega)]
        by_cases e2 : t = i + 1
        · subst e2
          rw [u_eq rfl, hs i (by omega), i32_adds]
          rfl
        · rw [u_ne e2]
          exact hs t (by omega))
      refine ⟨XA', D', ?_, f2, s3.trans f3 (Nat.le_refl _), fun t ht => by rw [f4 t ht, w_ne ht], f5⟩
      rw [← f1, eb_X8_read_3]
      rw [hst] at s1
      clear f1 f2 f3 f4 f5 ih hs g3 s2 s3 hst hsz
      simp (disch := (first | assumption | (unfold i32; omega) | (unfold i64; omega) | omega)) only [↓reduceIte, ki_0, ki_1, ki_2, ki_3, ki_4, ki_5, ki_6, ki_7, ki_8, ki_9, ki_10, ki_11, ki_12, ki_13, ki_14, ki_15, ki_20, ki_21, ki_30, ki_31, ki_40, ki_41, ki_50, ki_51, ki_60, ki_63, ki_64, ki_65, ki_100, ki_158, ki_160, ki_200, ki_212, ki_1000, ki_2000, ki_2001, ki_5000, ki_10000, ki_10001, ki_100000, ki_200000, ki_1000000, ki_2000000, ki_3000000, iO_neg, iO_add, iO_sub, iO_mul, kn_4, kn_8, kn_10, kn_20, kn_24, kn_40, kn_41, kn_50, kn_60, kn_158, kn_160, kn_200, kn_212, kn_2001, tn_lt, fn_lt, tn_le, fn_le, tn_eq, fn_eq, x_lt, x_le, x_eq, x_ix, x_nat, t_lt, f_lt, t_le, f_le, t_eq, f_eq, eq_self, and_self, true_and, and_true, false_and, and_false, if_true, if_false, Int.toNat_natCast, bI_s, bL_s, bA_s, bA_n, bV_s, mq_s, mq_n, en_le, bl_0, bl_1, u_eq, u_ne, w_eq, w_ne, v_eq, v_ne, vt_bI, s1, hp_cc_7, hp_g_7_0, hp_p_7_0, hp_g_7_1, hp_p_7_1, hp_g_7_2, hp_p_7_2, hp_g_7_3, hp_p_7_3, hp_g_7_4, hp_p_7_4, hp_g_7_5, hp_p_7_5, hp_g_7_6, hp_p_7_6, hp_g_7_7, hp_g_7_8, hp_p_7_8, hp_g_7_9, hp_p_7_9, hp_g_7_10, hp_p_7_10, hp_a_8, hp_s_8, hp_l_8]
      rfl
    · have hst : stp g ((fr : Int) + (i : Int)) = -1 := by
        unfold stp
        rw [if_neg (by omega)]
      refine ⟨XA, D1, ?_, s2, s3, fun _ _ => rfl, fun h => by omega⟩
      rw [eb_X8_read_3, if_neg (show ¬ fr + n ≤ g.2.2.2.2.1 by omega)]
      rw [hst] at s1
      clear ih hs g3 s2 s3 hst hsz
      simp (disch := (first | assumption | (unfold i32; omega) | (unfold i64; omega) | omega)) only [↓reduceIte, ki_0, ki_1, ki_2, ki_3, ki_4, ki_5, ki_6, ki_7, ki_8, ki_9, ki_10, ki_11, ki_12, ki_13, ki_14, ki_15, ki_20, ki_21, ki_30, ki_31, ki_40, ki_41, ki_50, ki_51, ki_60, ki_63, ki_64, ki_65, ki_100, ki_158, ki_160, ki_200, ki_212, ki_1000, ki_2000, ki_2001, ki_5000, ki_10000, ki_10001, ki_100000, ki_200000, ki_1000000, ki_2000000, ki_3000000, iO_neg, iO_add, iO_sub, iO_mul, kn_4, kn_8, kn_10, kn_20, kn_24, kn_40, kn_41, kn_50, kn_60, kn_158, kn_160, kn_200, kn_212, kn_2001, tn_lt, fn_lt, tn_le, fn_le, tn_eq, fn_eq, x_lt, x_le, x_eq, x_ix, x_nat, t_lt, f_lt, t_le, f_le, t_eq, f_eq, eq_self, and_self, true_and, and_true, false_and, and_false, if_true, if_false, Int.toNat_natCast, bI_s, bL_s, bA_s, bA_n, bV_s, mq_s, mq_n, en_le, bl_0, bl_1, u_eq, u_ne, w_eq, w_ne, v_eq, v_ne, vt_bI, s1, hp_cc_7, hp_g_7_0, hp_p_7_0, hp_g_7_1, hp_p_7_1, hp_g_7_2, hp_p_7_2, hp_g_7_3, hp_p_7_3, hp_g_7_4, hp_p_7_4, hp_g_7_5, hp_p_7_5, hp_g_7_6, hp_p_7_6, hp_g_7_7, hp_g_7_8, hp_p_7_8, hp_g_7_9, hp_p_7_9, hp_g_7_10, hp_p_7_10, hp_a_8, hp_s_8, hp_l_8]
theorem x_read {p : Nat} {g : GD} (hg : Γ p = some g) (h9 : g.2.1 ≤ 9) (n0 : Nat) (XI : Nat → Int32) (XA : Nat → Nat → Int32) (XP : Nat → Nat → Option Nat) (XC : Value) (MI : Nat → Int32) (MA : Nat → Nat → Int32) (ML : Nat → Nat → Int64) (D : en_H) (hV : HV Γ D) {a m : Int} (ha : i32 a) (hm : i32 m) :
    ∃ XI' XA' D', f_X8_read sc (n0 + 39) 7 (p + 51) (iO a) (iO m) (hp XI XA XP XC MI MA ML D) = some (some (.int (iO (if 1 ≤ m ∧ m ≤ 40 ∧ 0 ≤ a ∧ a + m ≤ (g.2.2.2.2.1 : Nat) then 1 else 0))), hp XI' XA' XP XC MI MA ML D') ∧ HV Γ D' ∧ KP Γ g.2.1 D D' ∧ (∀ t, t ≠ 11 → XI' t = XI t) ∧ (∀ t, t ≠ 1 → XA' t = XA t) ∧ ((1 ≤ m ∧ m ≤ 40 ∧ 0 ≤ a ∧ a + m ≤ (g.2.2.2.2.1 : Nat)) → XI' 11 = iO m ∧ ∀ t, t ≤ m.toNat → XA' 1 t = XA' 1 0 + iO (ssum g.2.2.2.2.2.1 a.toNat t)) := by
  obtain ⟨a1, a2⟩ := id ha
  obtain ⟨m1, m2⟩ := id hm
  have hsz : g.2.2.2.2.1 ≤ 10001 := (hV p g hg).2.1
  by_cases t1 : a < 0
  · refine ⟨XI, XA, D, ?_, hV, KP.refl, fun _ _ => rfl, fun _ _ => rfl, fun h => by omega⟩
    rw [e_X8_read, if_neg (show ¬ (1 ≤ m ∧ m ≤ 40 ∧ 0 ≤ a ∧ a + m ≤ (g.2.2.2.2.1 : Nat)) by omega)]
    simp (disch := (first | assumption | (unfold i32; omega) | (unfold i64; omega) | omega)) only [↓reduceIte, ki_0, ki_1, ki_2, ki_3, ki_4, ki_5, ki_6, ki_7, ki_8, ki_9, ki_10, ki_11, ki_12, ki_13, ki_14, ki_15, ki_20, ki_21, ki_30, ki_31, ki_40, ki_41, ki_50, ki_51, ki_60, ki_63, ki_64, ki_65, ki_100, ki_158, ki_160, ki_200, ki_212, ki_1000, ki_2000, ki_2001, ki_5000, ki_10000, ki_10001, ki_100000, ki_200000, ki_1000000, ki_2000000, ki_3000000, iO_neg, iO_add, iO_sub, iO_mul, kn_4, kn_8, kn_10, kn_20, kn_24, kn_40, kn_41, kn_50, kn_60, kn_158, kn_160, kn_200, kn_212, kn_2001, tn_lt, fn_lt, tn_le, fn_le, tn_eq, fn_eq, x_lt, x_le, x_eq, x_ix, x_nat, t_lt, f_lt, t_le, f_le, t_eq, f_eq, eq_self, and_self, true_and, and_true, false_and, and_false, if_true, if_false, Int.toNat_natCast, bI_s, bL_s, bA_s, bA_n, bV_s, mq_s, mq_n, en_le, bl_0, bl_1, u_eq, u_ne, w_eq, w_ne, v_eq, v_ne]
  by_cases t2 : 10000 < a
  · refine ⟨XI, XA, D, ?_, hV, KP.refl, fun _ _ => rfl, fun _ _ => rfl, fun h => by omega⟩
    rw [e_X8_read, if_neg (show ¬ (1 ≤ m ∧ m ≤ 40 ∧ 0 ≤ a ∧ a + m ≤ (g.2.2.2.2.1 : Nat)) by omega)]
    simp (disch := (first | assumption | (unfold i32; omega) | (unfold i64; omega) | omega)) only [↓reduceIte, ki_0, ki_1, ki_2, ki_3, ki_4, ki_5, ki_6, ki_7, ki_8, ki_9, ki_10, ki_11, ki_12, ki_13, ki_14, ki_15, ki_20, ki_21, ki_30, ki_31, ki_40, ki_41, ki_50, ki_51, ki_60, ki_63, ki_64, ki_65, ki_100, ki_158, ki_160, ki_200, ki_212, ki_1000, ki_2000, ki_2001, ki_5000, ki_10000, ki_10001, ki_100000, ki_200000, ki_1000000, ki_2000000, ki_3000000, iO_neg, iO_add, iO_sub, iO_mul, kn_4, kn_8, kn_10, kn_20, kn_24, kn_40, kn_41, kn_50, kn_60, kn_158, kn_160, kn_200, kn_212, kn_2001, tn_lt, fn_lt, tn_le, fn_le, tn_eq, fn_eq, x_lt, x_le, x_eq, x_ix, x_nat, t_lt, f_lt, t_le, f_le, t_eq, f_eq, eq_self, and_self, true_and, and_true, false_and, and_false, if_true, if_false, Int.toNat_natCast, bI_s, bL_s, bA_s, bA_n, bV_s, mq_s, mq_n, en_le, bl_0, bl_1, u_eq, u_ne, w_eq, w_ne, v_eq, v_ne]
  by_cases t3 : m < 1
  · refine ⟨XI, XA, D, ?_, hV, KP.refl, fun _ _ => rfl, fun _ _ => rfl, fun h => by omega⟩
    rw [e_X8_read, if_neg (show ¬ (1 ≤ m ∧ m ≤ 40 ∧ 0 ≤ a ∧ a + m ≤ (g.2.2.2.2.1 : Nat)) by omega)]
    simp (disch := (first | assumption | (unfold i32; omega) | (unfold i64; omega) | omega)) only [↓reduceIte, ki_0, ki_1, ki_2, ki_3, ki_4, ki_5, ki_6, ki_7, ki_8, ki_9, ki_10, ki_11, ki_12, ki_13, ki_14, ki_15, ki_20, ki_21, ki_30, ki_31, ki_40, ki_41, ki_50, ki_51, ki_60, ki_63, ki_64, ki_65, ki_100, ki_158, ki_160, ki_200, ki_212, ki_1000, ki_2000, ki_2001, ki_5000, ki_10000, ki_10001, ki_100000, ki_200000, ki_1000000, ki_2000000, ki_3000000, iO_neg, iO_add, iO_sub, iO_mul, kn_4, kn_8, kn_10, kn_20, kn_24, kn_40, kn_41, kn_50, kn_60, kn_158, kn_160, kn_200, kn_212, kn_2001, tn_lt, fn_lt, tn_le, fn_le, tn_eq, fn_eq, x_lt, x_le, x_eq, x_ix, x_nat, t_lt, f_lt, t_le, f_le, t_eq, f_eq, eq_self, and_self, true_and, and_true, false_and, and_false, if_true, if_false, Int.toNat_natCast, bI_s, bL_s, bA_s, bA_n, bV_s, mq_s, mq_n, en_le, bl_0, bl_1, u_eq, u_ne, w_eq, w_ne, v_eq, v_ne]
  by_cases t4 : 40 < m
  · refine ⟨XI, XA, D, ?_, hV, KP.refl, fun _ _ => rfl, fun _ _ => rfl, fun h => by omega⟩
    rw [e_X8_read, if_neg (show ¬ (1 ≤ m ∧ m ≤ 40 ∧ 0 ≤ a ∧ a + m ≤ (g.2.2.2.2.1 : Nat)) by omega)]
    simp (disch := (first | assumption | (unfold i32; omega) | (unfold i64; omega) | omega)) only [↓reduceIte, ki_0, ki_1, ki_2, ki_3, ki_4, ki_5, ki_6, ki_7, ki_8, ki_9, ki_10, ki_11, ki_12, ki_13, ki_14, ki_15, ki_20, ki_21, ki_30, ki_31, ki_40, ki_41, ki_50, ki_51, ki_60, ki_63, ki_64, ki_65, ki_100, ki_158, ki_160, ki_200, ki_212, ki_1000, ki_2000, ki_2001, ki_5000, ki_10000, ki_10001, ki_100000, ki_200000, ki_1000000, ki_2000000, ki_3000000, iO_neg, iO_add, iO_sub, iO_mul, kn_4, kn_8, kn_10, kn_20, kn_24, kn_40, kn_41, kn_50, kn_60, kn_158, kn_160, kn_200, kn_212, kn_2001, tn_lt, fn_lt, tn_le, fn_le, tn_eq, fn_eq, x_lt, x_le, x_eq, x_ix, x_nat, t_lt, f_lt, t_le, f_le, t_eq, f_eq, eq_self, and_self, true_and, and_true, false_and, and_false, if_true, if_false, Int.toNat_natCast, bI_s, bL_s, bA_s, bA_n, bV_s, mq_s, mq_n, en_le, bl_0, bl_1, u_eq, u_ne, w_eq, w_ne, v_eq, v_ne]
  obtain ⟨x, rfl⟩ : ∃ x : Nat, a = x := ⟨a.toNat, by omega⟩
  obtain ⟨y, rfl⟩ : ∃ y : Nat, m = y := ⟨m.toNat, by omega⟩
  obtain ⟨XA', D', f1, f2, f3, f4, f5⟩ := x_read_loop (sc := sc) hg h9 (m := n0 + 38) (by omega) (va_up XI 11 (iO (y : Nat))) XP XC MI MA ML (fr := x) (n := y) (by omega) (by omega) (by omega) y 0 XA D (by omega) hV (Or.inl rfl) (by
    intro t ht
    obtain rfl : t = 0 := by omega
    show XA 1 0 = XA 1 0 + iO 0
    rw [← ki_0, Int32.add_zero])
  refine ⟨va_up XI 11 (iO (y : Nat)), XA', D', ?_, f2, f3, fun t ht => w_ne ht, f4, fun h => ⟨rfl, ?_⟩⟩
  · have e : (if 1 ≤ (y : Int) ∧ (y : Int) ≤ 40 ∧ 0 ≤ (x : Int) ∧ (x : Int) + (y : Int) ≤ (g.2.2.2.2.1 : Nat) then (1 : Int) else 0) = if x + y ≤ g.2.2.2.2.1 then 1 else 0 := by
      by_cases e : x + y ≤ g.2.2.2.2.1
      · rw [if_pos e, if_pos (by omega)]
      · rw [if_neg e, if_neg (by omega)]
    rw [e, ← f1, e_X8_read]
    clear f1 f2 f3 f4 f5 e
    simp (disch := (first | assumption | (unfold i32; omega) | (unfold i64; omega) | omega)) only [↓reduceIte, ki_0, ki_1, ki_2, ki_3, ki_4, ki_5, ki_6, ki_7, ki_8, ki_9, ki_10, ki_11, ki_12, ki_13, ki_14, ki_15, ki_20, ki_21, ki_30, ki_31, ki_40, ki_41, ki_50, ki_51, ki_60, ki_63, ki_64, ki_65, ki_100, ki_158, ki_160, ki_200, ki_212, ki_1000, ki_2000, ki_2001, ki_5000, ki_10000, ki_10001, ki_100000, ki_200000, ki_1000000, ki_2000000, ki_3000000, iO_neg, iO_add, iO_sub, iO_mul, kn_4, kn_8, kn_10, kn_20, kn_24, kn_40, kn_41, kn_50, kn_60, kn_158, kn_160, kn_200, kn_212, kn_2001, tn_lt, fn_lt, tn_le, fn_le, tn_eq, fn_eq, x_lt, x_le, x_eq, x_ix, x_nat, t_lt, f_lt, t_le, f_le, t_eq, f_eq, eq_self, and_self, true_and, and_true, false_and, and_false, if_true, if_false, Int.toNat_natCast, bI_s, bL_s, bA_s, bA_n, bV_s, mq_s, mq_n, en_le, bl_0, bl_1, u_eq, u_ne, w_eq, w_ne, v_eq, v_ne, hp_cc_7, hp_g_7_0, hp_p_7_0, hp_g_7_1, hp_p_7_1, hp_g_7_2, hp_p_7_2, hp_g_7_3, hp_p_7_3, hp_g_7_4, hp_p_7_4, hp_g_7_5, hp_p_7_5, hp_g_7_6, hp_p_7_6, hp_g_7_7, hp_g_7_8, hp_p_7_8, hp_g_7_9, hp_p_7_9, hp_g_7_10, hp_p_7_10, hp_a_8, hp_s_8, hp_l_8]
    rfl
  · rw [Int.toNat_natCast, Int.toNat_natCast]
    exact f5 (by omega)
end RDS
/-- least and greatest sums of a length -/
def mns (t : Nat → Nat → Int) (k : Nat) : Nat → Int
  | 0 => t 0 k
  | j + 1 => min (mns t k j) (t (j + 1) k)
def mxs (t : Nat → Nat → Int) (k : Nat) : Nat → Int
  | 0 => t 0 k
  | j + 1 => max (mxs t k j) (t (j + 1) k)
theorem mns_le {t : Nat → Nat → Int} {k : Nat} : ∀ (j a : Nat), a ≤ j → mns t k j ≤ t a k
  | 0, a, h => by
    obtain rfl : a = 0 := by omega
    exact Int.le_refl _
  | j + 1, a, h => by
    rw [mns]
    by_cases e : a = j + 1
    · subst e; omega
    · have := mns_le (t := t) (k := k) j a (by omega)
      omega
theorem le_mxs {t : Nat → Nat → Int} {k : Nat} : ∀ (j a : Nat), a ≤ j → t a k ≤ mxs t k j
  | 0, a, h => by
    obtain rfl : a = 0 := by omega
    exact Int.le_refl _
  | j + 1, a, h => by
    rw [mxs]
    by_cases e : a = j + 1
    · subst e; omega
    · have := le_mxs (t := t) (k := k) j a (by omega)
      omega
theorem mns_at {t : Nat → Nat → Int} {k : Nat} : ∀ (j : Nat), ∃ a, a ≤ j ∧ mns t k j = t a k
  | 0 => ⟨0, by omega, rfl⟩
  | j + 1 => by
    obtain ⟨a, h1, h2⟩ := mns_at (t := t) (k := k) j
    rw [mns]
    by_cases e : mns t k j ≤ t (j + 1) k
    · exact ⟨a, by omega, by omega⟩
    · exact ⟨j + 1, by omega, by omega⟩
theorem mxs_at {t : Nat → Nat → Int} {k : Nat} : ∀ (j : Nat), ∃ a, a ≤ j ∧ mxs t k j = t a k
  | 0 => ⟨0, by omega, rfl⟩
  | j + 1 => by
    obtain ⟨a, h1, h2⟩ := mxs_at (t := t) (k := k) j
    rw [mxs]
    by_cases e : mxs t k j ≤ t (j + 1) k
    · exact ⟨j + 1, by omega, by omega⟩
    · exact ⟨a, by omega, by omega⟩
theorem cl3_none {t : Nat → Nat → Int} {k a : Nat} : ∀ (j b : Nat), cl3 t k a j b = none ↔ ∀ x, b ≤ x → x < b + j → ¬ (1 < t a k - t x k ∨ t a k - t x k < -1)
  | 0, b => ⟨fun _ x h1 h2 => by omega, fun _ => rfl⟩
  | j + 1, b => by
    rw [cl3]
    by_cases g : 1 < t a k - t b k ∨ t a k - t b k < -1
    · rw [if_pos g]
      exact ⟨(fun h => by cases h), fun h => absurd g (h b (by omega) (by omega))⟩
    · rw [if_neg g, cl3_none j (b + 1)]
      constructor
      · intro h x h1 h2
        by_cases e : x = b
        · subst e; exact g
        · exact h x (by omega) (by omega)
      · intro h x h1 h2
        exact h x (by omega) (by omega)
theorem cl2_none {t : Nat → Nat → Int} {n k : Nat} : ∀ (j a : Nat), cl2 t n k j a = none ↔ ∀ x, a ≤ x → x < a + j → cl3 t k x (n - k - x) (x + 1) = none
  | 0, a => ⟨fun _ x h1 h2 => by omega, fun _ => rfl⟩
  | j + 1, a => by
    rw [cl2]
    cases hc : cl3 t k a (n - k - a) (a + 1) with
    | some c =>
      exact ⟨(fun h => by cases h), fun h => by have := h a (by omega) (by omega); rw [hc] at this; cases this⟩
    | none =>
      show cl2 t n k j (a + 1) = none ↔ _
      rw [cl2_none j (a + 1)]
      constructor
      · intro h x h1 h2
        by_cases e : x = a
        · subst e; exact hc
        · exact h x (by omega) (by omega)
      · intro h x h1 h2
        exact h x (by omega) (by omega)
theorem cl2_iff {t : Nat → Nat → Int} {n k : Nat} (hk : k ≤ n) : cl2 t n k (n + 1 - k) 0 = none ↔ mxs t k (n - k) - mns t k (n - k) ≤ 1 := by
  rw [cl2_none]
  constructor
  · intro h
    obtain ⟨a, a1, a2⟩ := mxs_at (t := t) (k := k) (n - k)
    obtain ⟨b, b1, b2⟩ := mns_at (t := t) (k := k) (n - k)
    rw [a2, b2]
    rcases Nat.lt_trichotomy a b with g | g | g
    · have := (cl3_none _ _).mp (h a (by omega) (by omega)) b (by omega) (by omega)
      omega
    · subst g; omega
    · have := (cl3_none _ _).mp (h b (by omega) (by omega)) a (by omega) (by omega)
      omega
  · intro h x h1 h2
    rw [cl3_none]
    intro y h3 h4
    have e1 := le_mxs (t := t) (k := k) (n - k) x (by omega)
    have e2 := le_mxs (t := t) (k := k) (n - k) y (by omega)
    have e3 := mns_le (t := t) (k := k) (n - k) x (by omega)
    have e4 := mns_le (t := t) (k := k) (n - k) y (by omega)
    omega
section STC
variable {sc : en_S} {d : Nat} {XI : Nat → Int32} {XA : Nat → Nat → Int32} {XP : Nat → Nat → Option Nat} {XC : Value} {MI : Nat → Int32} {MA : Nat → Nat → Int32} {ML : Nat → Nat → Int64} {D : en_H} {fr n : Nat} {f : Nat → Int}
theorem x_sumFrom (hn : n ≤ 40) (hs : ∀ t, t ≤ n → XA 1 t = XA 1 0 + iO (ssum f fr t)) {a k : Nat} (h : a + k ≤ n) : f_X8_sumFrom sc (d + 1) 7 (iO (a : Nat)) (iO (k : Nat)) (hp XI XA XP XC MI MA ML D) = some (some (.int (iO (ssum f (fr + a) k))), hp XI XA XP XC MI MA ML D) := by
  have e1 : ((a : Int) + (k : Int)).toNat = a + k := by omega
  have h1 := hs (a + k) h
  have h2 := hs a (by omega)
  have h3 : XA 1 (a + k) - XA 1 a = iO (ssum f (fr + a) k) := by
    rw [h1, h2, i32_sub, ssum_split]
    congr 1
    omega
  rw [e_X8_sumFrom]
  clear hs h1 h2
  simp (disch := (first | assumption | (unfold i32; omega) | (unfold i64; omega) | omega)) only [↓reduceIte, ki_0, ki_1, ki_2, ki_3, ki_4, ki_5, ki_6, ki_7, ki_8, ki_9, ki_10, ki_11, ki_12, ki_13, ki_14, ki_15, ki_20, ki_21, ki_30, ki_31, ki_40, ki_41, ki_50, ki_51, ki_60, ki_63, ki_64, ki_65, ki_100, ki_158, ki_160, ki_200, ki_212, ki_1000, ki_2000, ki_2001, ki_5000, ki_10000, ki_10001, ki_100000, ki_200000, ki_1000000, ki_2000000, ki_3000000, iO_neg, iO_add, iO_sub, iO_mul, kn_4, kn_8, kn_10, kn_20, kn_24, kn_40, kn_41, kn_50, kn_60, kn_158, kn_160, kn_200, kn_212, kn_2001, tn_lt, fn_lt, tn_le, fn_le, tn_eq, fn_eq, x_lt, x_le, x_eq, x_ix, x_nat, t_lt, f_lt, t_le, f_le, t_eq, f_eq, eq_self, and_self, true_and, and_true, false_and, and_false, if_true, if_false, Int.toNat_natCast, bI_s, bL_s, bA_s, bA_n, bV_s, mq_s, mq_n, en_le, bl_0, bl_1, u_eq, u_ne, w_eq, w_ne, v_eq, v_ne, hp_cc_7, hp_g_7_0, hp_p_7_0, hp_g_7_1, hp_p_7_1, hp_g_7_2, hp_p_7_2, hp_g_7_3, hp_p_7_3, hp_g_7_4, hp_p_7_4, hp_g_7_5, hp_p_7_5, hp_g_7_6, hp_p_7_6, hp_g_7_7, hp_g_7_8, hp_p_7_8, hp_g_7_9, hp_p_7_9, hp_g_7_10, hp_p_7_10, hp_a_8, hp_s_8, hp_l_8, e1, h3]
theorem x_cmp_loop (hn : n ≤ 40) (hs : ∀ t, t ≤ n → XA 1 t = XA 1 0 + iO (ssum f fr t)) (hb : ∀ a k, a + k ≤ n → 0 ≤ ssum f (fr + a) k ∧ ssum f (fr + a) k ≤ 10000) {k : Nat} (hk : 1 ≤ k) (hk2 : k ≤ n) : ∀ (j i : Nat) (XI : Nat → Int32), i + j = n - k → XI 11 = iO (n : Nat) → XI 12 = iO (mns (fun a k => ssum f (fr + a) k) k i) → XI 13 = iO (mxs (fun a k => ssum f (fr + a) k) k i) →
    ∃ XI', b_X8_compareSums_1 sc (d + 1) 7 (iO (k : Nat)) (iO ((i : Int) + 1)) (hp XI XA XP XC MI MA ML D) = some (none, hp XI' XA XP XC MI MA ML D) ∧ XI' 12 = iO (mns (fun a k => ssum f (fr + a) k) k (n - k)) ∧ XI' 13 = iO (mxs (fun a k => ssum f (fr + a) k) k (n - k)) ∧ ∀ s, s ≠ 12 → s ≠ 13 → XI' s = XI s := by
  intro j
  induction j with
  | zero =>
    intro i XI hi h11 h12 h13
    obtain rfl : i = n - k := by omega
    refine ⟨XI, ?_, h12, h13, fun _ _ _ => rfl⟩
    rw [eb_X8_compareSums_1]
    clear hs hb h12 h13
    simp (disch := (first | assumption | (unfold i32; omega) | (unfold i64; omega) | omega)) only [↓reduceIte, ki_0, ki_1, ki_2, ki_3, ki_4, ki_5, ki_6, ki_7, ki_8, ki_9, ki_10, ki_11, ki_12, ki_13, ki_14, ki_15, ki_20, ki_21, ki_30, ki_31, ki_40, ki_41, ki_50, ki_51, ki_60, ki_63, ki_64, ki_65, ki_100, ki_158, ki_160, ki_200, ki_212, ki_1000, ki_2000, ki_2001, ki_5000, ki_10000, ki_10001, ki_100000, ki_200000, ki_1000000, ki_2000000, ki_3000000, iO_neg, iO_add, iO_sub, iO_mul, kn_4, kn_8, kn_10, kn_20, kn_24, kn_40, kn_41, kn_50, kn_60, kn_158, kn_160, kn_200, kn_212, kn_2001, tn_lt, fn_lt, tn_le, fn_le, tn_eq, fn_eq, x_lt, x_le, x_eq, x_ix, x_nat, t_lt, f_lt, t_le, f_le, t_eq, f_eq, eq_self, and_self, true_and, and_true, false_and, and_false, if_true, if_false, Int.toNat_natCast, bI_s, bL_s, bA_s, bA_n, bV_s, mq_s, mq_n, en_le, bl_0, bl_1, u_eq, u_ne, w_eq, w_ne, v_eq, v_ne, hp_cc_7, hp_g_7_0, hp_p_7_0, hp_g_7_1, hp_p_7_1, hp_g_7_2, hp_p_7_2, hp_g_7_3, hp_p_7_3, hp_g_7_4, hp_p_7_4, hp_g_7_5, hp_p_7_5, hp_g_7_6, hp_p_7_6, hp_g_7_7, hp_g_7_8, hp_p_7_8, hp_g_7_9, hp_p_7_9, hp_g_7_10, hp_p_7_10, hp_a_8, hp_s_8, hp_l_8, h11]
  | succ j ih =>
    intro i XI hi h11 h12 h13
    have hsum := x_sumFrom (sc := sc) (d := d) (XI := XI) (XP := XP) (XC := XC) (MI := MI) (MA := MA) (ML := ML) (D := D) hn hs (a := i + 1) (k := k) (by omega)
    obtain ⟨u1, u2⟩ := hb (i + 1) k (by omega)
    obtain ⟨x, x1, x2⟩ := mns_at (t := fun a k => ssum f (fr + a) k) (k := k) i
    obtain ⟨y, y1, y2⟩ := mxs_at (t := fun a k => ssum f (fr + a) k) (k := k) i
    have v1 := hb x k (by omega)
    have v2 := hb y k (by omega)
    have x2 : mns (fun a k => ssum f (fr + a) k) k i = ssum f (fr + x) k := x2
    have y2 : mxs (fun a k => ssum f (fr + a) k) k i = ssum f (fr + y) k := y2
    obtain ⟨XI', f1, f2, f3, f4⟩ := ih (i + 1) (va_up (va_up XI 12 (iO (min (mns (fun a k => ssum f (fr + a) k) k i) (ssum f (fr + (i + 1)) k)))) 13 (iO (max (mxs (fun a k => ssum f (fr + a) k) k i) (ssum f (fr + (i + 1)) k)))) (by omega) h11 rfl rfl
    refine ⟨XI', ?_, f2, f3, fun s h1 h2 => by rw [f4 s h1 h2, w_ne h2, w_ne h1]⟩
    rw [← f1, eb_X8_compareSums_1]
    rw [show ((i + 1 : Nat) : Int) = (i : Int) + 1 by omega] at hsum
    rw [← x2] at v1
    rw [← y2] at v2
    generalize mns (fun a k => ssum f (fr + a) k) k i = P at *
    generalize mxs (fun a k => ssum f (fr + a) k) k i = Q at *
    generalize ssum f (fr + (i + 1)) k = R at *
    clear f1 f2 f3 f4 ih hs hb x2 y2
    simp (disch := (first | assumption | (unfold i32; omega) | (unfold i64; omega) | omega)) only [↓reduceIte, ki_0, ki_1, ki_2, ki_3, ki_4, ki_5, ki_6, ki_7, ki_8, ki_9, ki_10, ki_11, ki_12, ki_13, ki_14, ki_15, ki_20, ki_21, ki_30, ki_31, ki_40, ki_41, ki_50, ki_51, ki_60, ki_63, ki_64, ki_65, ki_100, ki_158, ki_160, ki_200, ki_212, ki_1000, ki_2000, ki_2001, ki_5000, ki_10000, ki_10001, ki_100000, ki_200000, ki_1000000, ki_2000000, ki_3000000, iO_neg, iO_add, iO_sub, iO_mul, kn_4, kn_8, kn_10, kn_20, kn_24, kn_40, kn_41, kn_50, kn_60, kn_158, kn_160, kn_200, kn_212, kn_2001, tn_lt, fn_lt, tn_le, fn_le, tn_eq, fn_eq, x_lt, x_le, x_eq, x_ix, x_nat, t_lt, f_lt, t_le, f_le, t_eq, f_eq, eq_self, and_self, true_and, and_true, false_and, and_false, if_true, if_false, Int.toNat_natCast, bI_s, bL_s, bA_s, bA_n, bV_s, mq_s, mq_n, en_le, bl_0, bl_1, u_eq, u_ne, w_eq, w_ne, v_eq, v_ne, hp_cc_7, hp_g_7_0, hp_p_7_0, hp_g_7_1, hp_p_7_1, hp_g_7_2, hp_p_7_2, hp_g_7_3, hp_p_7_3, hp_g_7_4, hp_p_7_4, hp_g_7_5, hp_p_7_5, hp_g_7_6, hp_p_7_6, hp_g_7_7, hp_g_7_8, hp_p_7_8, hp_g_7_9, hp_p_7_9, hp_g_7_10, hp_p_7_10, hp_a_8, hp_s_8, hp_l_8, h11, h12, h13, hsum, e_minI, e_maxI]
    rfl
theorem x_cmp (hn : n ≤ 40) (hs : ∀ t, t ≤ n → XA 1 t = XA 1 0 + iO (ssum f fr t)) (hb : ∀ a k, a + k ≤ n → 0 ≤ ssum f (fr + a) k ∧ ssum f (fr + a) k ≤ 10000) {k : Nat} (hk : 1 ≤ k) (hk2 : k ≤ n) (XI : Nat → Int32) (h11 : XI 11 = iO (n : Nat)) : ∃ XI', f_X8_compareSums sc (d + 2) 7 (iO (k : Nat)) (hp XI XA XP XC MI MA ML D) = some (none, hp XI' XA XP XC MI MA ML D) ∧ XI' 12 = iO (mns (fun a k => ssum f (fr + a) k) k (n - k)) ∧ XI' 13 = iO (mxs (fun a k => ssum f (fr + a) k) k (n - k)) ∧ ∀ s, s ≠ 12 → s ≠ 13 → XI' s = XI s := by
  have hsum := x_sumFrom (sc := sc) (d := d) (XI := XI) (XP := XP) (XC := XC) (MI := MI) (MA := MA) (ML := ML) (D := D) hn hs (a := 0) (k := k) (by omega)
  obtain ⟨XI', f1, f2, f3, f4⟩ := x_cmp_loop (sc := sc) (d := d) (XP := XP) (XC := XC) (MI := MI) (MA := MA) (ML := ML) (D := D) hn hs hb hk hk2 (n - k) 0 (va_up (va_up XI 12 (iO (ssum f (fr + 0) k))) 13 (iO (ssum f (fr + 0) k))) (by omega) h11 rfl rfl
  refine ⟨XI', ?_, f2, f3, fun s h1 h2 => by rw [f4 s h1 h2, w_ne h2, w_ne h1]⟩
  rw [← f1, e_X8_compareSums]
  have hsum : f_X8_sumFrom sc (d + 1) 7 (iO 0) (iO (k : Nat)) (hp XI XA XP XC MI MA ML D) = _ := hsum
  clear f1 f2 f3 f4 hs hb
  simp (disch := (first | assumption | (unfold i32; omega) | (unfold i64; omega) | omega)) only [↓reduceIte, ki_0, ki_1, ki_2, ki_3, ki_4, ki_5, ki_6, ki_7, ki_8, ki_9, ki_10, ki_11, ki_12, ki_13, ki_14, ki_15, ki_20, ki_21, ki_30, ki_31, ki_40, ki_41, ki_50, ki_51, ki_60, ki_63, ki_64, ki_65, ki_100, ki_158, ki_160, ki_200, ki_212, ki_1000, ki_2000, ki_2001, ki_5000, ki_10000, ki_10001, ki_100000, ki_200000, ki_1000000, ki_2000000, ki_3000000, iO_neg, iO_add, iO_sub, iO_mul, kn_4, kn_8, kn_10, kn_20, kn_24, kn_40, kn_41, kn_50, kn_60, kn_158, kn_160, kn_200, kn_212, kn_2001, tn_lt, fn_lt, tn_le, fn_le, tn_eq, fn_eq, x_lt, x_le, x_eq, x_ix, x_nat, t_lt, f_lt, t_le, f_le, t_eq, f_eq, eq_self, and_self, true_and, and_true, false_and, and_false, if_true, if_false, Int.toNat_natCast, bI_s, bL_s, bA_s, bA_n, bV_s, mq_s, mq_n, en_le, bl_0, bl_1, u_eq, u_ne, w_eq, w_ne, v_eq, v_ne, hp_cc_7, hp_g_7_0, hp_p_7_0, hp_g_7_1, hp_p_7_1, hp_g_7_2, hp_p_7_2, hp_g_7_3, hp_p_7_3, hp_g_7_4, hp_p_7_4, hp_g_7_5, hp_p_7_5, hp_g_7_6, hp_p_7_6, hp_g_7_7, hp_g_7_8, hp_p_7_8, hp_g_7_9, hp_p_7_9, hp_g_7_10, hp_p_7_10, hp_a_8, hp_s_8, hp_l_8, hsum]
  rfl
end STC
