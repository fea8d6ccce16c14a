/-! forge: the class -/
section FRC
variable {sc : en_S} {n : Nat} {S : ST5}
theorem x_isOf {Γ : Nat → Option GD} {XI : Nat → Int32} {XA : Nat → Nat → Int32} {XP : Nat → Nat → Option Nat} {XC : Value} {MI : Nat → Int32} {MA : Nat → Nat → Int32} {ML : Nat → Nat → Int64} {D : en_H} {p : Nat} {g : GD} (hV : HV Γ D) (hg : Γ p = some g) {b : Int} (hb : 0 ≤ b) (hb2 : b ≤ 4) : f_X11_isOfKind sc (n + 1) (p + 51) (iO b) (hp XI XA XP XC MI MA ML D) = some (some (.int (iO (if (b = 0 ∨ g.1 = b ∨ (b = 1 ∧ (g.1 = 2 ∨ g.1 = 4))) then 1 else 0))), hp XI XA XP XC MI MA ML D) := by
  obtain ⟨h1, fs, h2⟩ := rc_cls (hV p g hg).2.2.2
  rw [e_X11_isOfKind]
  simp only [d_io h2]
  obtain ⟨y, rfl⟩ : ∃ y : Nat, b = y := ⟨b.toNat, by omega⟩
  rcases (show y = 0 ∨ y = 1 ∨ y = 2 ∨ y = 3 ∨ y = 4 by omega) with rfl | rfl | rfl | rfl | rfl <;> rcases h1 with h | h | h | h | h <;> rw [h] <;> rfl
theorem nlt100 {m : Int} (hm : i32 m) (h : -100 ≤ m) : ¬ (iO m < -100) := by
  rw [ki_100, iO_neg]
  exact nlt hm (by unfold i32; omega) (by omega)
theorem plt100 {m : Int} (hm : i32 m) (h : m < -100) : iO m < -100 := by
  rw [ki_100, iO_neg]
  exact plt hm (by unfold i32; omega) (by omega)
set_option maxHeartbeats 3000000 in
theorem cs_forge (hS : OK5 S) {w m k : Int} (hw : i32 w) (hm : i32 m) (hk : i32 k) : CS S (p_forge S w m k).2 (p_forge S w m k).1 (fun z => f_X11_forge sc (n + 40) 1 (iO w) (iO m) (iO k) z) := by
  obtain ⟨w1, w2⟩ := id hw
  obtain ⟨m1, m2⟩ := id hm
  obtain ⟨k1, k2⟩ := id hk
  have h10 := hS.2.1
  unfold p_forge
  by_cases g : 0 ≤ w ∧ w ≤ 6 ∧ -100 ≤ m ∧ m ≤ 100 ∧ -100 ≤ k ∧ k ≤ 100
  · rw [if_pos g]
    obtain ⟨g1, g2, g3, g4, g5, g6⟩ := g
    have q1 := nlt100 hm g3
    have q2 : ¬ (100 < iO m) := nlt (a := 100) (b := m) (by unfold i32; omega) hm (by omega)
    have q3 := nlt100 hk g5
    have q4 : iO k ≤ 100 := ple (a := k) (b := 100) hk (by unfold i32; omega) (by omega)
    have r1 := Int.emod_nonneg k (show (10 : Int) ≠ 0 by omega)
    have r2 := Int.emod_lt_of_pos k (show (0 : Int) < 10 by omega)
    have r3 := Int.emod_nonneg k (show (4 : Int) ≠ 0 by omega)
    have r4 := Int.emod_lt_of_pos k (show (0 : Int) < 4 by omega)
    have r5 := Int.emod_nonneg m (show (5 : Int) ≠ 0 by omega)
    have r6 := Int.emod_lt_of_pos m (show (0 : Int) < 5 by omega)
    have md10 : ∀ (z : en_H) (f : Int32 → en_H → Option en_R), en_bI (f_J9_floorMod_7cf53 sc (n + 39) (iO k) 10 z) f = f (iO (k % 10)) z := fun z f => by
      rw [ki_10, e_floorModI (sc := sc) (n := n + 38) (a := k) (b := 10) (z := z) hk (by omega) (by unfold i32; omega) (by omega), bI_s]
    have md4 : ∀ (z : en_H) (f : Int32 → en_H → Option en_R), en_bI (f_J9_floorMod_7cf53 sc (n + 39) (iO k) 4 z) f = f (iO (k % 4)) z := fun z f => by
      rw [ki_4, e_floorModI (sc := sc) (n := n + 38) (a := k) (b := 4) (z := z) hk (by omega) (by unfold i32; omega) (by omega), bI_s]
    have md5 : ∀ (z : en_H) (f : Int32 → en_H → Option en_R), en_bI (f_J9_floorMod_7cf53 sc (n + 39) (iO m) 5 z) f = f (iO (m % 5)) z := fun z f => by
      rw [ki_5, e_floorModI (sc := sc) (n := n + 38) (a := m) (b := 5) (z := z) hm (by omega) (by unfold i32; omega) (by omega), bI_s]
    have md2 : ∀ (z : en_H) (f : Int32 → en_H → Option en_R), en_bI (f_J9_floorMod_7cf53 sc (n + 39) (iO m) 2 z) f = f (iO (m % 2)) z := fun z f => by
      rw [ki_2, e_floorModI (sc := sc) (n := n + 38) (a := m) (b := 2) (z := z) hm (by omega) (by unfold i32; omega) (by omega), bI_s]
    obtain ⟨x, hx⟩ : ∃ x : Nat, k % 4 = x := ⟨(k % 4).toNat, by omega⟩
    have hx4 : x < 4 := by omega
    rw [hx, Int.toNat_natCast]
    have hSV := hS.2.2.2.2.1 x hx4
    obtain ⟨s1, s2, s3, s4, -, s6⟩ := hSV
    rcases (show w = 0 ∨ w = 1 ∨ w = 2 ∨ w = 3 ∨ w = 4 ∨ w = 5 ∨ w = 6 by omega) with rfl | rfl | rfl | rfl | rfl | rfl | rfl
    · rw [if_pos rfl]
      cases hq : rowq S (k % 10) with
      | none =>
        apply cs_set
        intro XI XA XP XC MI MA ML D Γ hV
        have hrow := x_rowAt0 (sc := sc) (n := n + 38) (XC := XC) (MI := MI) (MA := MA) (ML := ML) hV hS (r := k % 10) (by unfold i32; omega) hq
        show f_X11_forge sc (n + 40) 1 (iO 0) (iO m) (iO k) _ = _
        rw [e_X11_forge, if_neg q1, if_neg q2, if_neg q3, if_pos q4, if_pos (show iO 0 = 0 from rfl)]
        clear hV
        simp (disch := (first | assumption | (unfold i32; omega) | (unfold i64; omega) | omega)) only [↓reduceIte, ki_0, ki_1, ki_2, ki_3, ki_4, ki_5, ki_6, ki_7, ki_8, ki_9, ki_10, ki_11, ki_12, ki_13, ki_14, ki_15, ki_20, ki_21, ki_30, ki_31, ki_40, ki_41, ki_50, ki_51, ki_60, ki_63, ki_64, ki_65, ki_100, ki_158, ki_160, ki_200, ki_212, ki_1000, ki_2000, ki_2001, ki_5000, ki_10000, ki_10001, ki_100000, ki_200000, ki_1000000, ki_2000000, ki_3000000, iO_neg, iO_add, iO_sub, iO_mul, kn_4, kn_8, kn_10, kn_20, kn_24, kn_40, kn_41, kn_50, kn_60, kn_158, kn_160, kn_200, kn_212, kn_2001, tn_lt, fn_lt, tn_le, fn_le, tn_eq, fn_eq, x_lt, x_le, x_eq, x_ix, x_nat, t_lt, f_lt, t_le, f_le, t_eq, f_eq, eq_self, and_self, true_and, and_true, false_and, and_false, if_true, if_false, Int.toNat_natCast, bI_s, bL_s, bA_s, bA_n, bV_s, mq_s, mq_n, en_le, bl_0, bl_1, u_eq, u_ne, w_eq, w_ne, v_eq, v_ne, ↓hp_cc_1, ↓hp_g_1_0, ↓hp_g_1_1, ↓hp_g_1_2, ↓hp_g_1_3, ↓hp_g_1_4, ↓hp_g_1_5, ↓hp_g_1_6, ↓hp_g_1_7, ↓hp_g_1_8, ↓hp_p_1_8, ↓hp_g_1_9, ↓hp_p_1_9, ↓hp_g_1_10, ↓hp_p_1_10, ↓hp_a_2, ↓hp_n_2, ↓hp_a_3, ↓hp_n_3, ↓hp_a_4, ↓md10, ↓md5, hrow, e_X11_forgeKind_N1, x_refuse]
      | some q =>
        obtain ⟨r, hr, hk2, hq2⟩ := rowq_some hq
        dsimp only
        have hmain : ∀ (a j : Int), ((m % 5 = 0 ∨ q.1 = m % 5 ∨ (m % 5 = 1 ∧ (q.1 = 2 ∨ q.1 = 4))) ∧ a = q.1 ∧ j = 0) ∨ (¬ (m % 5 = 0 ∨ q.1 = m % 5 ∨ (m % 5 = 1 ∧ (q.1 = 2 ∨ q.1 = 4))) ∧ a = -1 ∧ j = 11) → CS S (sst S j) a (fun z => f_X11_forge sc (n + 40) 1 (iO 0) (iO m) (iO k) z) := by
          intro a j haj
          apply cs_set
          intro XI XA XP XC MI MA ML D Γ hV
          obtain ⟨p, g, c1, c2, c3, -⟩ := hV.2.2.2.2.2.1 r q hq2
          have hrow := x_rowAt1 (sc := sc) (n := n + 38) (XC := XC) (MI := MI) (MA := MA) (ML := ML) hV hS hq2 c1
          have hun := x_isOf (sc := sc) (n := n + 37) (XI := XI) (XA := XA) (XP := XP) (XC := XC) (MI := MI) (MA := MA) (ML := ML) hV.2.2.2.2.2.2.2.2 c2 (b := m % 5) r5 (by omega)
          have hkd := kind_ok (sc := sc) (n := n + 37) (XI := XI) (XA := XA) (XP := XP) (XC := XC) (MI := MI) (MA := MA) (ML := ML) hV.2.2.2.2.2.2.2.2 c2
          rw [c3] at hun hkd
          rw [hr] at md10
          show f_X11_forge sc (n + 40) 1 (iO 0) (iO m) (iO k) _ = _
          rw [e_X11_forge, if_neg q1, if_neg q2, if_neg q3, if_pos q4, if_pos (show iO 0 = 0 from rfl)]
          rcases haj with ⟨u1, rfl, rfl⟩ | ⟨u1, rfl, rfl⟩
          · rw [if_pos u1] at hun
            clear hV u1
            simp (disch := (first | assumption | (unfold i32; omega) | (unfold i64; omega) | omega)) only [↓reduceIte, ki_0, ki_1, ki_2, ki_3, ki_4, ki_5, ki_6, ki_7, ki_8, ki_9, ki_10, ki_11, ki_12, ki_13, ki_14, ki_15, ki_20, ki_21, ki_30, ki_31, ki_40, ki_41, ki_50, ki_51, ki_60, ki_63, ki_64, ki_65, ki_100, ki_158, ki_160, ki_200, ki_212, ki_1000, ki_2000, ki_2001, ki_5000, ki_10000, ki_10001, ki_100000, ki_200000, ki_1000000, ki_2000000, ki_3000000, iO_neg, iO_add, iO_sub, iO_mul, kn_4, kn_8, kn_10, kn_20, kn_24, kn_40, kn_41, kn_50, kn_60, kn_158, kn_160, kn_200, kn_212, kn_2001, tn_lt, fn_lt, tn_le, fn_le, tn_eq, fn_eq, x_lt, x_le, x_eq, x_ix, x_nat, t_lt, f_lt, t_le, f_le, t_eq, f_eq, eq_self, and_self, true_and, and_true, false_and, and_false, if_true, if_false, Int.toNat_natCast, bI_s, bL_s, bA_s, bA_n, bV_s, mq_s, mq_n, en_le, bl_0, bl_1, u_eq, u_ne, w_eq, w_ne, v_eq, v_ne, ↓hp_cc_1, ↓hp_g_1_0, ↓hp_g_1_1, ↓hp_g_1_2, ↓hp_g_1_3, ↓hp_g_1_4, ↓hp_g_1_5, ↓hp_g_1_6, ↓hp_g_1_7, ↓hp_g_1_8, ↓hp_p_1_8, ↓hp_g_1_9, ↓hp_p_1_9, ↓hp_g_1_10, ↓hp_p_1_10, ↓hp_a_2, ↓hp_n_2, ↓hp_a_3, ↓hp_n_3, ↓hp_a_4, ↓md10, ↓md5, hrow, e_X11_forgeKind, hun, vt_bI, hkd, x_done]
          · rw [if_neg u1] at hun
            clear hV u1
            simp (disch := (first | assumption | (unfold i32; omega) | (unfold i64; omega) | omega)) only [↓reduceIte, ki_0, ki_1, ki_2, ki_3, ki_4, ki_5, ki_6, ki_7, ki_8, ki_9, ki_10, ki_11, ki_12, ki_13, ki_14, ki_15, ki_20, ki_21, ki_30, ki_31, ki_40, ki_41, ki_50, ki_51, ki_60, ki_63, ki_64, ki_65, ki_100, ki_158, ki_160, ki_200, ki_212, ki_1000, ki_2000, ki_2001, ki_5000, ki_10000, ki_10001, ki_100000, ki_200000, ki_1000000, ki_2000000, ki_3000000, iO_neg, iO_add, iO_sub, iO_mul, kn_4, kn_8, kn_10, kn_20, kn_24, kn_40, kn_41, kn_50, kn_60, kn_158, kn_160, kn_200, kn_212, kn_2001, tn_lt, fn_lt, tn_le, fn_le, tn_eq, fn_eq, x_lt, x_le, x_eq, x_ix, x_nat, t_lt, f_lt, t_le, f_le, t_eq, f_eq, eq_self, and_self, true_and, and_true, false_and, and_false, if_true, if_false, Int.toNat_natCast, bI_s, bL_s, bA_s, bA_n, bV_s, mq_s, mq_n, en_le, bl_0, bl_1, u_eq, u_ne, w_eq, w_ne, v_eq, v_ne, ↓hp_cc_1, ↓hp_g_1_0, ↓hp_g_1_1, ↓hp_g_1_2, ↓hp_g_1_3, ↓hp_g_1_4, ↓hp_g_1_5, ↓hp_g_1_6, ↓hp_g_1_7, ↓hp_g_1_8, ↓hp_p_1_8, ↓hp_g_1_9, ↓hp_p_1_9, ↓hp_g_1_10, ↓hp_p_1_10, ↓hp_a_2, ↓hp_n_2, ↓hp_a_3, ↓hp_n_3, ↓hp_a_4, ↓md10, ↓md5, hrow, e_X11_forgeKind, hun, x_refuse]
        by_cases u : (m % 5 = 0 ∨ q.1 = m % 5 ∨ (m % 5 = 1 ∧ (q.1 = 2 ∨ q.1 = 4)))
        · rw [if_pos u]; exact hmain _ _ (Or.inl ⟨u, rfl, rfl⟩)
        · rw [if_neg u]; exact hmain _ _ (Or.inr ⟨u, rfl, rfl⟩)
    · rw [if_neg (by decide), if_pos rfl]
      by_cases u : m < 0
      · rw [if_pos u]
        apply cs_set
        intro XI XA XP XC MI MA ML D Γ hV
        show f_X11_forge sc (n + 40) 1 (iO 1) (iO m) (iO k) _ = _
        rw [e_X11_forge, if_neg q1, if_neg q2, if_neg q3, if_pos q4, if_neg (show ¬ iO 1 = 0 by decide), if_pos (show iO 1 = 1 from rfl)]
        clear hV
        simp (disch := (first | assumption | (unfold i32; omega) | (unfold i64; omega) | omega)) only [↓reduceIte, ki_0, ki_1, ki_2, ki_3, ki_4, ki_5, ki_6, ki_7, ki_8, ki_9, ki_10, ki_11, ki_12, ki_13, ki_14, ki_15, ki_20, ki_21, ki_30, ki_31, ki_40, ki_41, ki_50, ki_51, ki_60, ki_63, ki_64, ki_65, ki_100, ki_158, ki_160, ki_200, ki_212, ki_1000, ki_2000, ki_2001, ki_5000, ki_10000, ki_10001, ki_100000, ki_200000, ki_1000000, ki_2000000, ki_3000000, iO_neg, iO_add, iO_sub, iO_mul, kn_4, kn_8, kn_10, kn_20, kn_24, kn_40, kn_41, kn_50, kn_60, kn_158, kn_160, kn_200, kn_212, kn_2001, tn_lt, fn_lt, tn_le, fn_le, tn_eq, fn_eq, x_lt, x_le, x_eq, x_ix, x_nat, t_lt, f_lt, t_le, f_le, t_eq, f_eq, eq_self, and_self, true_and, and_true, false_and, and_false, if_true, if_false, Int.toNat_natCast, bI_s, bL_s, bA_s, bA_n, bV_s, mq_s, mq_n, en_le, bl_0, bl_1, u_eq, u_ne, w_eq, w_ne, v_eq, v_ne, ↓hp_cc_1, ↓hp_g_1_0, ↓hp_g_1_1, ↓hp_g_1_2, ↓hp_g_1_3, ↓hp_g_1_4, ↓hp_g_1_5, ↓hp_g_1_6, ↓hp_g_1_7, ↓hp_g_1_8, ↓hp_p_1_8, ↓hp_g_1_9, ↓hp_p_1_9, ↓hp_g_1_10, ↓hp_p_1_10, ↓hp_a_2, ↓hp_n_2, ↓hp_a_3, ↓hp_n_3, ↓hp_a_4, x_refuse]
      · rw [if_neg u]
        apply cs_set
        intro XI XA XP XC MI MA ML D Γ hV
        show f_X11_forge sc (n + 40) 1 (iO 1) (iO m) (iO k) _ = _
        rw [e_X11_forge, if_neg q1, if_neg q2, if_neg q3, if_pos q4, if_neg (show ¬ iO 1 = 0 by decide), if_pos (show iO 1 = 1 from rfl)]
        clear hV
        simp (disch := (first | assumption | (unfold i32; omega) | (unfold i64; omega) | omega)) only [↓reduceIte, ki_0, ki_1, ki_2, ki_3, ki_4, ki_5, ki_6, ki_7, ki_8, ki_9, ki_10, ki_11, ki_12, ki_13, ki_14, ki_15, ki_20, ki_21, ki_30, ki_31, ki_40, ki_41, ki_50, ki_51, ki_60, ki_63, ki_64, ki_65, ki_100, ki_158, ki_160, ki_200, ki_212, ki_1000, ki_2000, ki_2001, ki_5000, ki_10000, ki_10001, ki_100000, ki_200000, ki_1000000, ki_2000000, ki_3000000, iO_neg, iO_add, iO_sub, iO_mul, kn_4, kn_8, kn_10, kn_20, kn_24, kn_40, kn_41, kn_50, kn_60, kn_158, kn_160, kn_200, kn_212, kn_2001, tn_lt, fn_lt, tn_le, fn_le, tn_eq, fn_eq, x_lt, x_le, x_eq, x_ix, x_nat, t_lt, f_lt, t_le, f_le, t_eq, f_eq, eq_self, and_self, true_and, and_true, false_and, and_false, if_true, if_false, Int.toNat_natCast, bI_s, bL_s, bA_s, bA_n, bV_s, mq_s, mq_n, en_le, bl_0, bl_1, u_eq, u_ne, w_eq, w_ne, v_eq, v_ne, ↓hp_cc_1, ↓hp_g_1_0, ↓hp_g_1_1, ↓hp_g_1_2, ↓hp_g_1_3, ↓hp_g_1_4, ↓hp_g_1_5, ↓hp_g_1_6, ↓hp_g_1_7, ↓hp_g_1_8, ↓hp_p_1_8, ↓hp_g_1_9, ↓hp_p_1_9, ↓hp_g_1_10, ↓hp_p_1_10, ↓hp_a_2, ↓hp_n_2, ↓hp_a_3, ↓hp_n_3, ↓hp_a_4, x_done]
    · rw [if_neg (by decide), if_neg (by decide), if_pos rfl]
      rw [hx] at md4
      by_cases u1 : (S.2.2.1 x).1 = -1
      · rw [if_pos u1]
        apply cs_set
        intro XI XA XP XC MI MA ML D Γ hV
        obtain ⟨t1, t2, t3⟩ := hV.2.2.2.2.2.2.1 x hx4
        show f_X11_forge sc (n + 40) 1 (iO 2) (iO m) (iO k) _ = _
        rw [e_X11_forge, if_neg q1, if_neg q2, if_neg q3, if_pos q4, if_neg (show ¬ iO 2 = 0 by decide), if_neg (show ¬ iO 2 = 1 by decide), if_pos (show iO 2 = 2 from rfl)]
        clear hV t3 s6
        simp (disch := (first | assumption | (unfold i32; omega) | (unfold i64; omega) | omega)) only [↓reduceIte, ki_0, ki_1, ki_2, ki_3, ki_4, ki_5, ki_6, ki_7, ki_8, ki_9, ki_10, ki_11, ki_12, ki_13, ki_14, ki_15, ki_20, ki_21, ki_30, ki_31, ki_40, ki_41, ki_50, ki_51, ki_60, ki_63, ki_64, ki_65, ki_100, ki_158, ki_160, ki_200, ki_212, ki_1000, ki_2000, ki_2001, ki_5000, ki_10000, ki_10001, ki_100000, ki_200000, ki_1000000, ki_2000000, ki_3000000, iO_neg, iO_add, iO_sub, iO_mul, kn_4, kn_8, kn_10, kn_20, kn_24, kn_40, kn_41, kn_50, kn_60, kn_158, kn_160, kn_200, kn_212, kn_2001, tn_lt, fn_lt, tn_le, fn_le, tn_eq, fn_eq, x_lt, x_le, x_eq, x_ix, x_nat, t_lt, f_lt, t_le, f_le, t_eq, f_eq, eq_self, and_self, true_and, and_true, false_and, and_false, if_true, if_false, Int.toNat_natCast, bI_s, bL_s, bA_s, bA_n, bV_s, mq_s, mq_n, en_le, bl_0, bl_1, u_eq, u_ne, w_eq, w_ne, v_eq, v_ne, ↓hp_cc_1, ↓hp_g_1_0, ↓hp_g_1_1, ↓hp_g_1_2, ↓hp_g_1_3, ↓hp_g_1_4, ↓hp_g_1_5, ↓hp_g_1_6, ↓hp_g_1_7, ↓hp_g_1_8, ↓hp_p_1_8, ↓hp_g_1_9, ↓hp_p_1_9, ↓hp_g_1_10, ↓hp_p_1_10, ↓hp_a_2, ↓hp_n_2, ↓hp_a_3, ↓hp_n_3, ↓hp_a_4, ↓md4, sh_q hx4, ↓sh_cc hx4, ↓sh_0 hx4, ↓sh_1 hx4, ↓sh_2 hx4, ↓sh_a hx4, e_X11_forgeNumber, e_X6_isMissing, t1, t2, x_refuse]
      rw [if_neg u1]
      by_cases u2 : (S.2.2.1 x).1 ≠ 1
      · rw [if_pos u2]
        apply cs_set
        intro XI XA XP XC MI MA ML D Γ hV
        obtain ⟨t1, t2, t3⟩ := hV.2.2.2.2.2.2.1 x hx4
        show f_X11_forge sc (n + 40) 1 (iO 2) (iO m) (iO k) _ = _
        rw [e_X11_forge, if_neg q1, if_neg q2, if_neg q3, if_pos q4, if_neg (show ¬ iO 2 = 0 by decide), if_neg (show ¬ iO 2 = 1 by decide), if_pos (show iO 2 = 2 from rfl)]
        clear hV t3 s6
        simp (disch := (first | assumption | (unfold i32; omega) | (unfold i64; omega) | omega)) only [↓reduceIte, ki_0, ki_1, ki_2, ki_3, ki_4, ki_5, ki_6, ki_7, ki_8, ki_9, ki_10, ki_11, ki_12, ki_13, ki_14, ki_15, ki_20, ki_21, ki_30, ki_31, ki_40, ki_41, ki_50, ki_51, ki_60, ki_63, ki_64, ki_65, ki_100, ki_158, ki_160, ki_200, ki_212, ki_1000, ki_2000, ki_2001, ki_5000, ki_10000, ki_10001, ki_100000, ki_200000, ki_1000000, ki_2000000, ki_3000000, iO_neg, iO_add, iO_sub, iO_mul, kn_4, kn_8, kn_10, kn_20, kn_24, kn_40, kn_41, kn_50, kn_60, kn_158, kn_160, kn_200, kn_212, kn_2001, tn_lt, fn_lt, tn_le, fn_le, tn_eq, fn_eq, x_lt, x_le, x_eq, x_ix, x_nat, t_lt, f_lt, t_le, f_le, t_eq, f_eq, eq_self, and_self, true_and, and_true, false_and, and_false, if_true, if_false, Int.toNat_natCast, bI_s, bL_s, bA_s, bA_n, bV_s, mq_s, mq_n, en_le, bl_0, bl_1, u_eq, u_ne, w_eq, w_ne, v_eq, v_ne, ↓hp_cc_1, ↓hp_g_1_0, ↓hp_g_1_1, ↓hp_g_1_2, ↓hp_g_1_3, ↓hp_g_1_4, ↓hp_g_1_5, ↓hp_g_1_6, ↓hp_g_1_7, ↓hp_g_1_8, ↓hp_p_1_8, ↓hp_g_1_9, ↓hp_p_1_9, ↓hp_g_1_10, ↓hp_p_1_10, ↓hp_a_2, ↓hp_n_2, ↓hp_a_3, ↓hp_n_3, ↓hp_a_4, ↓md4, sh_q hx4, ↓sh_cc hx4, ↓sh_0 hx4, ↓sh_1 hx4, ↓sh_2 hx4, ↓sh_a hx4, e_X11_forgeNumber, e_X6_isMissing, t1, t2, x_refuse]
      rw [if_neg u2]
      have u2 : (S.2.2.1 x).1 = 1 := by omega
      by_cases u3 : 0 ≤ m ∧ m < (S.2.2.1 x).2.1
      · rw [if_pos u3]
        obtain ⟨u4, u5⟩ := u3
        obtain ⟨y, hy⟩ : ∃ y : Nat, m = y := ⟨m.toNat, by omega⟩
        have hyn : m.toNat = y := by omega
        rw [hyn]
        apply cs_set
        intro XI XA XP XC MI MA ML D Γ hV
        obtain ⟨t1, t2, t3⟩ := hV.2.2.2.2.2.2.1 x hx4
        have t4 := t3 y (by omega)
        show f_X11_forge sc (n + 40) 1 (iO 2) (iO m) (iO k) _ = _
        rw [e_X11_forge, if_neg q1, if_neg q2, if_neg q3, if_pos q4, if_neg (show ¬ iO 2 = 0 by decide), if_neg (show ¬ iO 2 = 1 by decide), if_pos (show iO 2 = 2 from rfl)]
        clear hV t3 s6
        simp (disch := (first | assumption | (unfold i32; omega) | (unfold i64; omega) | omega)) only [↓reduceIte, ki_0, ki_1, ki_2, ki_3, ki_4, ki_5, ki_6, ki_7, ki_8, ki_9, ki_10, ki_11, ki_12, ki_13, ki_14, ki_15, ki_20, ki_21, ki_30, ki_31, ki_40, ki_41, ki_50, ki_51, ki_60, ki_63, ki_64, ki_65, ki_100, ki_158, ki_160, ki_200, ki_212, ki_1000, ki_2000, ki_2001, ki_5000, ki_10000, ki_10001, ki_100000, ki_200000, ki_1000000, ki_2000000, ki_3000000, iO_neg, iO_add, iO_sub, iO_mul, kn_4, kn_8, kn_10, kn_20, kn_24, kn_40, kn_41, kn_50, kn_60, kn_158, kn_160, kn_200, kn_212, kn_2001, tn_lt, fn_lt, tn_le, fn_le, tn_eq, fn_eq, x_lt, x_le, x_eq, x_ix, x_nat, t_lt, f_lt, t_le, f_le, t_eq, f_eq, eq_self, and_self, true_and, and_true, false_and, and_false, if_true, if_false, Int.toNat_natCast, bI_s, bL_s, bA_s, bA_n, bV_s, mq_s, mq_n, en_le, bl_0, bl_1, u_eq, u_ne, w_eq, w_ne, v_eq, v_ne, ↓hp_cc_1, ↓hp_g_1_0, ↓hp_g_1_1, ↓hp_g_1_2, ↓hp_g_1_3, ↓hp_g_1_4, ↓hp_g_1_5, ↓hp_g_1_6, ↓hp_g_1_7, ↓hp_g_1_8, ↓hp_p_1_8, ↓hp_g_1_9, ↓hp_p_1_9, ↓hp_g_1_10, ↓hp_p_1_10, ↓hp_a_2, ↓hp_n_2, ↓hp_a_3, ↓hp_n_3, ↓hp_a_4, ↓md4, sh_q hx4, ↓sh_cc hx4, ↓sh_0 hx4, ↓sh_1 hx4, ↓sh_2 hx4, ↓sh_a hx4, e_X11_forgeNumber, e_X6_isMissing, t1, t2, hyn, t4, x_done]
      · rw [if_neg u3]
        rcases Int.lt_or_le m 0 with v | v
        · clear u3
          apply cs_set
          intro XI XA XP XC MI MA ML D Γ hV
          obtain ⟨t1, t2, t3⟩ := hV.2.2.2.2.2.2.1 x hx4
          show f_X11_forge sc (n + 40) 1 (iO 2) (iO m) (iO k) _ = _
          rw [e_X11_forge, if_neg q1, if_neg q2, if_neg q3, if_pos q4, if_neg (show ¬ iO 2 = 0 by decide), if_neg (show ¬ iO 2 = 1 by decide), if_pos (show iO 2 = 2 from rfl)]
          clear hV t3 s6
          simp (disch := (first | assumption | (unfold i32; omega) | (unfold i64; omega) | omega)) only [↓reduceIte, ki_0, ki_1, ki_2, ki_3, ki_4, ki_5, ki_6, ki_7, ki_8, ki_9, ki_10, ki_11, ki_12, ki_13, ki_14, ki_15, ki_20, ki_21, ki_30, ki_31, ki_40, ki_41, ki_50, ki_51, ki_60, ki_63, ki_64, ki_65, ki_100, ki_158, ki_160, ki_200, ki_212, ki_1000, ki_2000, ki_2001, ki_5000, ki_10000, ki_10001, ki_100000, ki_200000, ki_1000000, ki_2000000, ki_3000000, iO_neg, iO_add, iO_sub, iO_mul, kn_4, kn_8, kn_10, kn_20, kn_24, kn_40, kn_41, kn_50, kn_60, kn_158, kn_160, kn_200, kn_212, kn_2001, tn_lt, fn_lt, tn_le, fn_le, tn_eq, fn_eq, x_lt, x_le, x_eq, x_ix, x_nat, t_lt, f_lt, t_le, f_le, t_eq, f_eq, eq_self, and_self, true_and, and_true, false_and, and_false, if_true, if_false, Int.toNat_natCast, bI_s, bL_s, bA_s, bA_n, bV_s, mq_s, mq_n, en_le, bl_0, bl_1, u_eq, u_ne, w_eq, w_ne, v_eq, v_ne, ↓hp_cc_1, ↓hp_g_1_0, ↓hp_g_1_1, ↓hp_g_1_2, ↓hp_g_1_3, ↓hp_g_1_4, ↓hp_g_1_5, ↓hp_g_1_6, ↓hp_g_1_7, ↓hp_g_1_8, ↓hp_p_1_8, ↓hp_g_1_9, ↓hp_p_1_9, ↓hp_g_1_10, ↓hp_p_1_10, ↓hp_a_2, ↓hp_n_2, ↓hp_a_3, ↓hp_n_3, ↓hp_a_4, ↓md4, sh_q hx4, ↓sh_cc hx4, ↓sh_0 hx4, ↓sh_1 hx4, ↓sh_2 hx4, ↓sh_a hx4, e_X11_forgeNumber, e_X6_isMissing, t1, t2, x_refuse]
        · have v2 : (S.2.2.1 x).2.1 ≤ m := by omega
          clear u3
          apply cs_set
          intro XI XA XP XC MI MA ML D Γ hV
          obtain ⟨t1, t2, t3⟩ := hV.2.2.2.2.2.2.1 x hx4
          show f_X11_forge sc (n + 40) 1 (iO 2) (iO m) (iO k) _ = _
          rw [e_X11_forge, if_neg q1, if_neg q2, if_neg q3, if_pos q4, if_neg (show ¬ iO 2 = 0 by decide), if_neg (show ¬ iO 2 = 1 by decide), if_pos (show iO 2 = 2 from rfl)]
          clear hV t3 s6
          simp (disch := (first | assumption | (unfold i32; omega) | (unfold i64; omega) | omega)) only [↓reduceIte, ki_0, ki_1, ki_2, ki_3, ki_4, ki_5, ki_6, ki_7, ki_8, ki_9, ki_10, ki_11, ki_12, ki_13, ki_14, ki_15, ki_20, ki_21, ki_30, ki_31, ki_40, ki_41, ki_50, ki_51, ki_60, ki_63, ki_64, ki_65, ki_100, ki_158, ki_160, ki_200, ki_212, ki_1000, ki_2000, ki_2001, ki_5000, ki_10000, ki_10001, ki_100000, ki_200000, ki_1000000, ki_2000000, ki_3000000, iO_neg, iO_add, iO_sub, iO_mul, kn_4, kn_8, kn_10, kn_20, kn_24, kn_40, kn_41, kn_50, kn_60, kn_158, kn_160, kn_200, kn_212, kn_2001, tn_lt, fn_lt, tn_le, fn_le, tn_eq, fn_eq, x_lt, x_le, x_eq, x_ix, x_nat, t_lt, f_lt, t_le, f_le, t_eq, f_eq, eq_self, and_self, true_and, and_true, false_and, and_false, if_true, if_false, Int.toNat_natCast, bI_s, bL_s, bA_s, bA_n, bV_s, mq_s, mq_n, en_le, bl_0, bl_1, u_eq, u_ne, w_eq, w_ne, v_eq, v_ne, ↓hp_cc_1, ↓hp_g_1_0, ↓hp_g_1_1, ↓hp_g_1_2, ↓hp_g_1_3, ↓hp_g_1_4, ↓hp_g_1_5, ↓hp_g_1_6, ↓hp_g_1_7, ↓hp_g_1_8, ↓hp_p_1_8, ↓hp_g_1_9, ↓hp_p_1_9, ↓hp_g_1_10, ↓hp_p_1_10, ↓hp_a_2, ↓hp_n_2, ↓hp_a_3, ↓hp_n_3, ↓hp_a_4, ↓md4, sh_q hx4, ↓sh_cc hx4, ↓sh_0 hx4, ↓sh_1 hx4, ↓sh_2 hx4, ↓sh_a hx4, e_X11_forgeNumber, e_X6_isMissing, t1, t2, x_refuse]
    · rw [if_neg (by decide), if_neg (by decide), if_neg (by decide), if_pos rfl]
      rw [hx] at md4
      by_cases u1 : (S.2.2.1 x).1 = -1
      · rw [if_pos u1]
        apply cs_set
        intro XI XA XP XC MI MA ML D Γ hV
        obtain ⟨t1, t2, t3⟩ := hV.2.2.2.2.2.2.1 x hx4
        show f_X11_forge sc (n + 40) 1 (iO 3) (iO m) (iO k) _ = _
        rw [e_X11_forge, if_neg q1, if_neg q2, if_neg q3, if_pos q4, if_neg (show ¬ iO 3 = 0 by decide), if_neg (show ¬ iO 3 = 1 by decide), if_neg (show ¬ iO 3 = 2 by decide), if_pos (show iO 3 = 3 from rfl)]
        clear hV t3 s6
        simp (disch := (first | assumption | (unfold i32; omega) | (unfold i64; omega) | omega)) only [↓reduceIte, ki_0, ki_1, ki_2, ki_3, ki_4, ki_5, ki_6, ki_7, ki_8, ki_9, ki_10, ki_11, ki_12, ki_13, ki_14, ki_15, ki_20, ki_21, ki_30, ki_31, ki_40, ki_41, ki_50, ki_51, ki_60, ki_63, ki_64, ki_65, ki_100, ki_158, ki_160, ki_200, ki_212, ki_1000, ki_2000, ki_2001, ki_5000, ki_10000, ki_10001, ki_100000, ki_200000, ki_1000000, ki_2000000, ki_3000000, iO_neg, iO_add, iO_sub, iO_mul, kn_4, kn_8, kn_10, kn_20, kn_24, kn_40, kn_41, kn_50, kn_60, kn_158, kn_160, kn_200, kn_212, kn_2001, tn_lt, fn_lt, tn_le, fn_le, tn_eq, fn_eq, x_lt, x_le, x_eq, x_ix, x_nat, t_lt, f_lt, t_le, f_le, t_eq, f_eq, eq_self, and_self, true_and, and_true, false_and, and_false, if_true, if_false, Int.toNat_natCast, bI_s, bL_s, bA_s, bA_n, bV_s, mq_s, mq_n, en_le, bl_0, bl_1, u_eq, u_ne, w_eq, w_ne, v_eq, v_ne, ↓hp_cc_1, ↓hp_g_1_0, ↓hp_g_1_1, ↓hp_g_1_2, ↓hp_g_1_3, ↓hp_g_1_4, ↓hp_g_1_5, ↓hp_g_1_6, ↓hp_g_1_7, ↓hp_g_1_8, ↓hp_p_1_8, ↓hp_g_1_9, ↓hp_p_1_9, ↓hp_g_1_10, ↓hp_p_1_10, ↓hp_a_2, ↓hp_n_2, ↓hp_a_3, ↓hp_n_3, ↓hp_a_4, ↓md4, sh_q hx4, ↓sh_cc hx4, ↓sh_0 hx4, ↓sh_1 hx4, ↓sh_2 hx4, ↓sh_a hx4, e_X11_forgeCopy, e_X6_isMissing, t1, t2, x_refuse]
      rw [if_neg u1]
      by_cases u2 : (S.2.2.1 x).1 ≠ 0
      · rw [if_pos u2]
        apply cs_set
        intro XI XA XP XC MI MA ML D Γ hV
        obtain ⟨t1, t2, t3⟩ := hV.2.2.2.2.2.2.1 x hx4
        show f_X11_forge sc (n + 40) 1 (iO 3) (iO m) (iO k) _ = _
        rw [e_X11_forge, if_neg q1, if_neg q2, if_neg q3, if_pos q4, if_neg (show ¬ iO 3 = 0 by decide), if_neg (show ¬ iO 3 = 1 by decide), if_neg (show ¬ iO 3 = 2 by decide), if_pos (show iO 3 = 3 from rfl)]
        clear hV t3 s6
        simp (disch := (first | assumption | (unfold i32; omega) | (unfold i64; omega) | omega)) only [↓reduceIte, ki_0, ki_1, ki_2, ki_3, ki_4, ki_5, ki_6, ki_7, ki_8, ki_9, ki_10, ki_11, ki_12, ki_13, ki_14, ki_15, ki_20, ki_21, ki_30, ki_31, ki_40, ki_41, ki_50, ki_51, ki_60, ki_63, ki_64, ki_65, ki_100, ki_158, ki_160, ki_200, ki_212, ki_1000, ki_2000, ki_2001, ki_5000, ki_10000, ki_10001, ki_100000, ki_200000, ki_1000000, ki_2000000, ki_3000000, iO_neg, iO_add, iO_sub, iO_mul, kn_4, kn_8, kn_10, kn_20, kn_24, kn_40, kn_41, kn_50, kn_60, kn_158, kn_160, kn_200, kn_212, kn_2001, tn_lt, fn_lt, tn_le, fn_le, tn_eq, fn_eq, x_lt, x_le, x_eq, x_ix, x_nat, t_lt, f_lt, t_le, f_le, t_eq, f_eq, eq_self, and_self, true_and, and_true, false_and, and_false, if_true, if_false, Int.toNat_natCast, bI_s, bL_s, bA_s, bA_n, bV_s, mq_s, mq_n, en_le, bl_0, bl_1, u_eq, u_ne, w_eq, w_ne, v_eq, v_ne, ↓hp_cc_1, ↓hp_g_1_0, ↓hp_g_1_1, ↓hp_g_1_2, ↓hp_g_1_3, ↓hp_g_1_4, ↓hp_g_1_5, ↓hp_g_1_6, ↓hp_g_1_7, ↓hp_g_1_8, ↓hp_p_1_8, ↓hp_g_1_9, ↓hp_p_1_9, ↓hp_g_1_10, ↓hp_p_1_10, ↓hp_a_2, ↓hp_n_2, ↓hp_a_3, ↓hp_n_3, ↓hp_a_4, ↓md4, sh_q hx4, ↓sh_cc hx4, ↓sh_0 hx4, ↓sh_1 hx4, ↓sh_2 hx4, ↓sh_a hx4, e_X11_forgeCopy, e_X6_isMissing, t1, t2, x_refuse]
      rw [if_neg u2]
      have u2 : (S.2.2.1 x).1 = 0 := by omega
      by_cases u3 : 0 ≤ m ∧ 1 + m ≤ (S.2.2.1 x).2.1 ∧ m + m ≤ 6
      · rw [if_pos u3]
        obtain ⟨u4, u5, u6⟩ := u3
        obtain ⟨y, hy⟩ : ∃ y : Nat, m = y := ⟨m.toNat, by omega⟩
        have hyn : m.toNat = y := by omega
        rw [hyn]
        apply cs_set
        intro XI XA XP XC MI MA ML D Γ hV
        obtain ⟨t1, t2, t3⟩ := hV.2.2.2.2.2.2.1 x hx4
        have hl := x_forge_loop (sc := sc) (n := n + 37) (XI := XI) (XP := XP) (XC := XC) (MI := MI) (MA := MA) (ML := ML) (D := D) hx4 (N := y) (by omega) t3 y 0 (by omega)
        rw [← hy] at hl
        have hl : b_X11_forgeCopy_5 sc (n + 38) 1 (18 + 2 * x) (iO m) (iO 0) (iO 1) (hp XI XA XP XC MI MA ML D) = _ := hl
        show f_X11_forge sc (n + 40) 1 (iO 3) (iO m) (iO k) _ = _
        rw [e_X11_forge, if_neg q1, if_neg q2, if_neg q3, if_pos q4, if_neg (show ¬ iO 3 = 0 by decide), if_neg (show ¬ iO 3 = 1 by decide), if_neg (show ¬ iO 3 = 2 by decide), if_pos (show iO 3 = 3 from rfl)]
        clear hV t3 s6
        simp (disch := (first | assumption | (unfold i32; omega) | (unfold i64; omega) | omega)) only [↓reduceIte, ki_0, ki_1, ki_2, ki_3, ki_4, ki_5, ki_6, ki_7, ki_8, ki_9, ki_10, ki_11, ki_12, ki_13, ki_14, ki_15, ki_20, ki_21, ki_30, ki_31, ki_40, ki_41, ki_50, ki_51, ki_60, ki_63, ki_64, ki_65, ki_100, ki_158, ki_160, ki_200, ki_212, ki_1000, ki_2000, ki_2001, ki_5000, ki_10000, ki_10001, ki_100000, ki_200000, ki_1000000, ki_2000000, ki_3000000, iO_neg, iO_add, iO_sub, iO_mul, kn_4, kn_8, kn_10, kn_20, kn_24, kn_40, kn_41, kn_50, kn_60, kn_158, kn_160, kn_200, kn_212, kn_2001, tn_lt, fn_lt, tn_le, fn_le, tn_eq, fn_eq, x_lt, x_le, x_eq, x_ix, x_nat, t_lt, f_lt, t_le, f_le, t_eq, f_eq, eq_self, and_self, true_and, and_true, false_and, and_false, if_true, if_false, Int.toNat_natCast, bI_s, bL_s, bA_s, bA_n, bV_s, mq_s, mq_n, en_le, bl_0, bl_1, u_eq, u_ne, w_eq, w_ne, v_eq, v_ne, ↓hp_cc_1, ↓hp_g_1_0, ↓hp_g_1_1, ↓hp_g_1_2, ↓hp_g_1_3, ↓hp_g_1_4, ↓hp_g_1_5, ↓hp_g_1_6, ↓hp_g_1_7, ↓hp_g_1_8, ↓hp_p_1_8, ↓hp_g_1_9, ↓hp_p_1_9, ↓hp_g_1_10, ↓hp_p_1_10, ↓hp_a_2, ↓hp_n_2, ↓hp_a_3, ↓hp_n_3, ↓hp_a_4, ↓md4, sh_q hx4, ↓sh_cc hx4, ↓sh_0 hx4, ↓sh_1 hx4, ↓sh_2 hx4, ↓sh_a hx4, e_X11_forgeCopy, e_X6_isMissing, t1, t2, hl, x_done]
      · rw [if_neg u3]
        rcases Int.lt_or_le m 0 with v | v
        · clear u3
          apply cs_set
          intro XI XA XP XC MI MA ML D Γ hV
          obtain ⟨t1, t2, t3⟩ := hV.2.2.2.2.2.2.1 x hx4
          show f_X11_forge sc (n + 40) 1 (iO 3) (iO m) (iO k) _ = _
          rw [e_X11_forge, if_neg q1, if_neg q2, if_neg q3, if_pos q4, if_neg (show ¬ iO 3 = 0 by decide), if_neg (show ¬ iO 3 = 1 by decide), if_neg (show ¬ iO 3 = 2 by decide), if_pos (show iO 3 = 3 from rfl)]
          clear hV t3 s6
          simp (disch := (first | assumption | (unfold i32; omega) | (unfold i64; omega) | omega)) only [↓reduceIte, ki_0, ki_1, ki_2, ki_3, ki_4, ki_5, ki_6, ki_7, ki_8, ki_9, ki_10, ki_11, ki_12, ki_13, ki_14, ki_15, ki_20, ki_21, ki_30, ki_31, ki_40, ki_41, ki_50, ki_51, ki_60, ki_63, ki_64, ki_65, ki_100, ki_158, ki_160, ki_200, ki_212, ki_1000, ki_2000, ki_2001, ki_5000, ki_10000, ki_10001, ki_100000, ki_200000, ki_1000000, ki_2000000, ki_3000000, iO_neg, iO_add, iO_sub, iO_mul, kn_4, kn_8, kn_10, kn_20, kn_24, kn_40, kn_41, kn_50, kn_60, kn_158, kn_160, kn_200, kn_212, kn_2001, tn_lt, fn_lt, tn_le, fn_le, tn_eq, fn_eq, x_lt, x_le, x_eq, x_ix, x_nat, t_lt, f_lt, t_le, f_le, t_eq, f_eq, eq_self, and_self, true_and, and_true, false_and, and_false, if_true, if_false, Int.toNat_natCast, bI_s, bL_s, bA_s, bA_n, bV_s, mq_s, mq_n, en_le, bl_0, bl_1, u_eq, u_ne, w_eq, w_ne, v_eq, v_ne, ↓hp_cc_1, ↓hp_g_1_0, ↓hp_g_1_1, ↓hp_g_1_2, ↓hp_g_1_3, ↓hp_g_1_4, ↓hp_g_1_5, ↓hp_g_1_6, ↓hp_g_1_7, ↓hp_g_1_8, ↓hp_p_1_8, ↓hp_g_1_9, ↓hp_p_1_9, ↓hp_g_1_10, ↓hp_p_1_10, ↓hp_a_2, ↓hp_n_2, ↓hp_a_3, ↓hp_n_3, ↓hp_a_4, ↓md4, sh_q hx4, ↓sh_cc hx4, ↓sh_0 hx4, ↓sh_1 hx4, ↓sh_2 hx4, ↓sh_a hx4, e_X11_forgeCopy, e_X6_isMissing, t1, t2, x_refuse]
        rcases Int.lt_or_le (S.2.2.1 x).2.1 (1 + m) with v2 | v2
        · clear u3
          apply cs_set
          intro XI XA XP XC MI MA ML D Γ hV
          obtain ⟨t1, t2, t3⟩ := hV.2.2.2.2.2.2.1 x hx4
          show f_X11_forge sc (n + 40) 1 (iO 3) (iO m) (iO k) _ = _
          rw [e_X11_forge, if_neg q1, if_neg q2, if_neg q3, if_pos q4, if_neg (show ¬ iO 3 = 0 by decide), if_neg (show ¬ iO 3 = 1 by decide), if_neg (show ¬ iO 3 = 2 by decide), if_pos (show iO 3 = 3 from rfl)]
          clear hV t3 s6
          simp (disch := (first | assumption | (unfold i32; omega) | (unfold i64; omega) | omega)) only [↓reduceIte, ki_0, ki_1, ki_2, ki_3, ki_4, ki_5, ki_6, ki_7, ki_8, ki_9, ki_10, ki_11, ki_12, ki_13, ki_14, ki_15, ki_20, ki_21, ki_30, ki_31, ki_40, ki_41, ki_50, ki_51, ki_60, ki_63, ki_64, ki_65, ki_100, ki_158, ki_160, ki_200, ki_212, ki_1000, ki_2000, ki_2001, ki_5000, ki_10000, ki_10001, ki_100000, ki_200000, ki_1000000, ki_2000000, ki_3000000, iO_neg, iO_add, iO_sub, iO_mul, kn_4, kn_8, kn_10, kn_20, kn_24, kn_40, kn_41, kn_50, kn_60, kn_158, kn_160, kn_200, kn_212, kn_2001, tn_lt, fn_lt, tn_le, fn_le, tn_eq, fn_eq, x_lt, x_le, x_eq, x_ix, x_nat, t_lt, f_lt, t_le, f_le, t_eq, f_eq, eq_self, and_self, true_and, and_true, false_and, and_false, if_true, if_false, Int.toNat_natCast, bI_s, bL_s, bA_s, bA_n, bV_s, mq_s, mq_n, en_le, bl_0, bl_1, u_eq, u_ne, w_eq, w_ne, v_eq, v_ne, ↓hp_cc_1, ↓hp_g_1_0, ↓hp_g_1_1, ↓hp_g_1_2, ↓hp_g_1_3, ↓hp_g_1_4, ↓hp_g_1_5, ↓hp_g_1_6, ↓hp_g_1_7, ↓hp_g_1_8, ↓hp_p_1_8, ↓hp_g_1_9, ↓hp_p_1_9, ↓hp_g_1_10, ↓hp_p_1_10, ↓hp_a_2, ↓hp_n_2, ↓hp_a_3, ↓hp_n_3, ↓hp_a_4, ↓md4, sh_q hx4, ↓sh_cc hx4, ↓sh_0 hx4, ↓sh_1 hx4, ↓sh_2 hx4, ↓sh_a hx4, e_X11_forgeCopy, e_X6_isMissing, t1, t2, x_refuse]
        · have v3 : 6 < m + m := by omega
          clear u3
          apply cs_set
          intro XI XA XP XC MI MA ML D Γ hV
          obtain ⟨t1, t2, t3⟩ := hV.2.2.2.2.2.2.1 x hx4
          show f_X11_forge sc (n + 40) 1 (iO 3) (iO m) (iO k) _ = _
          rw [e_X11_forge, if_neg q1, if_neg q2, if_neg q3, if_pos q4, if_neg (show ¬ iO 3 = 0 by decide), if_neg (show ¬ iO 3 = 1 by decide), if_neg (show ¬ iO 3 = 2 by decide), if_pos (show iO 3 = 3 from rfl)]
          clear hV t3 s6
          simp (disch := (first | assumption | (unfold i32; omega) | (unfold i64; omega) | omega)) only [↓reduceIte, ki_0, ki_1, ki_2, ki_3, ki_4, ki_5, ki_6, ki_7, ki_8, ki_9, ki_10, ki_11, ki_12, ki_13, ki_14, ki_15, ki_20, ki_21, ki_30, ki_31, ki_40, ki_41, ki_50, ki_51, ki_60, ki_63, ki_64, ki_65, ki_100, ki_158, ki_160, ki_200, ki_212, ki_1000, ki_2000, ki_2001, ki_5000, ki_10000, ki_10001, ki_100000, ki_200000, ki_1000000, ki_2000000, ki_3000000, iO_neg, iO_add, iO_sub, iO_mul, kn_4, kn_8, kn_10, kn_20, kn_24, kn_40, kn_41, kn_50, kn_60, kn_158, kn_160, kn_200, kn_212, kn_2001, tn_lt, fn_lt, tn_le, fn_le, tn_eq, fn_eq, x_lt, x_le, x_eq, x_ix, x_nat, t_lt, f_lt, t_le, f_le, t_eq, f_eq, eq_self, and_self, true_and, and_true, false_and, and_false, if_true, if_false, Int.toNat_natCast, bI_s, bL_s, bA_s, bA_n, bV_s, mq_s, mq_n, en_le, bl_0, bl_1, u_eq, u_ne, w_eq, w_ne, v_eq, v_ne, ↓hp_cc_1, ↓hp_g_1_0, ↓hp_g_1_1, ↓hp_g_1_2, ↓hp_g_1_3, ↓hp_g_1_4, ↓hp_g_1_5, ↓hp_g_1_6, ↓hp_g_1_7, ↓hp_g_1_8, ↓hp_p_1_8, ↓hp_g_1_9, ↓hp_p_1_9, ↓hp_g_1_10, ↓hp_p_1_10, ↓hp_a_2, ↓hp_n_2, ↓hp_a_3, ↓hp_n_3, ↓hp_a_4, ↓md4, sh_q hx4, ↓sh_cc hx4, ↓sh_0 hx4, ↓sh_1 hx4, ↓sh_2 hx4, ↓sh_a hx4, e_X11_forgeCopy, e_X6_isMissing, t1, t2, x_refuse]
    · rw [if_neg (by decide), if_neg (by decide), if_neg (by decide), if_neg (by decide), if_pos rfl]
      cases hq : rowq S (k % 10) with
      | none =>
        apply cs_set
        intro XI XA XP XC MI MA ML D Γ hV
        have hrow := x_rowAt0 (sc := sc) (n := n + 38) (XC := XC) (MI := MI) (MA := MA) (ML := ML) hV hS (r := k % 10) (by unfold i32; omega) hq
        show f_X11_forge sc (n + 40) 1 (iO 4) (iO m) (iO k) _ = _
        rw [e_X11_forge, if_neg q1, if_neg q2, if_neg q3, if_pos q4, if_neg (show ¬ iO 4 = 0 by decide), if_neg (show ¬ iO 4 = 1 by decide), if_neg (show ¬ iO 4 = 2 by decide), if_neg (show ¬ iO 4 = 3 by decide), if_pos (show iO 4 = 4 from rfl)]
        clear hV
        simp (disch := (first | assumption | (unfold i32; omega) | (unfold i64; omega) | omega)) only [↓reduceIte, ki_0, ki_1, ki_2, ki_3, ki_4, ki_5, ki_6, ki_7, ki_8, ki_9, ki_10, ki_11, ki_12, ki_13, ki_14, ki_15, ki_20, ki_21, ki_30, ki_31, ki_40, ki_41, ki_50, ki_51, ki_60, ki_63, ki_64, ki_65, ki_100, ki_158, ki_160, ki_200, ki_212, ki_1000, ki_2000, ki_2001, ki_5000, ki_10000, ki_10001, ki_100000, ki_200000, ki_1000000, ki_2000000, ki_3000000, iO_neg, iO_add, iO_sub, iO_mul, kn_4, kn_8, kn_10, kn_20, kn_24, kn_40, kn_41, kn_50, kn_60, kn_158, kn_160, kn_200, kn_212, kn_2001, tn_lt, fn_lt, tn_le, fn_le, tn_eq, fn_eq, x_lt, x_le, x_eq, x_ix, x_nat, t_lt, f_lt, t_le, f_le, t_eq, f_eq, eq_self, and_self, true_and, and_true, false_and, and_false, if_true, if_false, Int.toNat_natCast, bI_s, bL_s, bA_s, bA_n, bV_s, mq_s, mq_n, en_le, bl_0, bl_1, u_eq, u_ne, w_eq, w_ne, v_eq, v_ne, ↓hp_cc_1, ↓hp_g_1_0, ↓hp_g_1_1, ↓hp_g_1_2, ↓hp_g_1_3, ↓hp_g_1_4, ↓hp_g_1_5, ↓hp_g_1_6, ↓hp_g_1_7, ↓hp_g_1_8, ↓hp_p_1_8, ↓hp_g_1_9, ↓hp_p_1_9, ↓hp_g_1_10, ↓hp_p_1_10, ↓hp_a_2, ↓hp_n_2, ↓hp_a_3, ↓hp_n_3, ↓hp_a_4, ↓md10, hrow, e_X11_forgePut_N1, x_done]
      | some q =>
        obtain ⟨r, hr, hk2, hq2⟩ := rowq_some hq
        dsimp only
        have hmain : ∀ (a j : Int), ((q.1 = 1 ∨ q.1 = 2 ∨ q.1 = 4) ∧ a = q.1 ∧ j = 0) ∨ (¬ (q.1 = 1 ∨ q.1 = 2 ∨ q.1 = 4) ∧ a = -1 ∧ j = 14) → CS S (sst S j) a (fun z => f_X11_forge sc (n + 40) 1 (iO 4) (iO m) (iO k) z) := by
          intro a j haj
          apply cs_set
          intro XI XA XP XC MI MA ML D Γ hV
          obtain ⟨p, g, c1, c2, c3, -⟩ := hV.2.2.2.2.2.1 r q hq2
          have hrow := x_rowAt1 (sc := sc) (n := n + 38) (XC := XC) (MI := MI) (MA := MA) (ML := ML) hV hS hq2 c1
          have hkd := kind_ok (sc := sc) (n := n + 37) (XI := XI) (XA := XA) (XP := XP) (XC := XC) (MI := MI) (MA := MA) (ML := ML) hV.2.2.2.2.2.2.2.2 c2
          obtain ⟨h1, fs, h2⟩ := rc_cls (hV.2.2.2.2.2.2.2.2 p g c2).2.2.2
          have hio : ∀ f0 f1 : Option en_R, en_io (hp XI XA XP XC MI MA ML D) (p + 51) [(1, 0), (2, 1), (3, 1), (4, 1), (8, 0)] f0 f1 = if (q.1 = 1 ∨ q.1 = 2 ∨ q.1 = 4) then f1 else f0 := by
            intro f0 f1
            rw [d_io h2]
            rw [c3] at h1 ⊢
            rcases h1 with h | h | h | h | h <;> rw [h] <;> rfl
          rw [c3] at hkd
          rw [hr] at md10
          show f_X11_forge sc (n + 40) 1 (iO 4) (iO m) (iO k) _ = _
          rw [e_X11_forge, if_neg q1, if_neg q2, if_neg q3, if_pos q4, if_neg (show ¬ iO 4 = 0 by decide), if_neg (show ¬ iO 4 = 1 by decide), if_neg (show ¬ iO 4 = 2 by decide), if_neg (show ¬ iO 4 = 3 by decide), if_pos (show iO 4 = 4 from rfl)]
          rcases haj with ⟨u1, rfl, rfl⟩ | ⟨u1, rfl, rfl⟩
          · have hio2 : ∀ f0 f1 : Option en_R, en_io (hp XI XA XP XC MI MA ML D) (p + 51) [(1, 0), (2, 1), (3, 1), (4, 1), (8, 0)] f0 f1 = f1 := fun f0 f1 => (hio f0 f1).trans (if_pos u1)
            clear hV u1 hio h1
            simp (disch := (first | assumption | (unfold i32; omega) | (unfold i64; omega) | omega)) only [↓reduceIte, ki_0, ki_1, ki_2, ki_3, ki_4, ki_5, ki_6, ki_7, ki_8, ki_9, ki_10, ki_11, ki_12, ki_13, ki_14, ki_15, ki_20, ki_21, ki_30, ki_31, ki_40, ki_41, ki_50, ki_51, ki_60, ki_63, ki_64, ki_65, ki_100, ki_158, ki_160, ki_200, ki_212, ki_1000, ki_2000, ki_2001, ki_5000, ki_10000, ki_10001, ki_100000, ki_200000, ki_1000000, ki_2000000, ki_3000000, iO_neg, iO_add, iO_sub, iO_mul, kn_4, kn_8, kn_10, kn_20, kn_24, kn_40, kn_41, kn_50, kn_60, kn_158, kn_160, kn_200, kn_212, kn_2001, tn_lt, fn_lt, tn_le, fn_le, tn_eq, fn_eq, x_lt, x_le, x_eq, x_ix, x_nat, t_lt, f_lt, t_le, f_le, t_eq, f_eq, eq_self, and_self, true_and, and_true, false_and, and_false, if_true, if_false, Int.toNat_natCast, bI_s, bL_s, bA_s, bA_n, bV_s, mq_s, mq_n, en_le, bl_0, bl_1, u_eq, u_ne, w_eq, w_ne, v_eq, v_ne, ↓hp_cc_1, ↓hp_g_1_0, ↓hp_g_1_1, ↓hp_g_1_2, ↓hp_g_1_3, ↓hp_g_1_4, ↓hp_g_1_5, ↓hp_g_1_6, ↓hp_g_1_7, ↓hp_g_1_8, ↓hp_p_1_8, ↓hp_g_1_9, ↓hp_p_1_9, ↓hp_g_1_10, ↓hp_p_1_10, ↓hp_a_2, ↓hp_n_2, ↓hp_a_3, ↓hp_n_3, ↓hp_a_4, ↓md10, hrow, e_X11_forgePut, hio2, vt_bI, hkd, x_done]
          · have hio2 : ∀ f0 f1 : Option en_R, en_io (hp XI XA XP XC MI MA ML D) (p + 51) [(1, 0), (2, 1), (3, 1), (4, 1), (8, 0)] f0 f1 = f0 := fun f0 f1 => (hio f0 f1).trans (if_neg u1)
            clear hV u1 hio h1
            simp (disch := (first | assumption | (unfold i32; omega) | (unfold i64; omega) | omega)) only [↓reduceIte, ki_0, ki_1, ki_2, ki_3, ki_4, ki_5, ki_6, ki_7, ki_8, ki_9, ki_10, ki_11, ki_12, ki_13, ki_14, ki_15, ki_20, ki_21, ki_30, ki_31, ki_40, ki_41, ki_50, ki_51, ki_60, ki_63, ki_64, ki_65, ki_100, ki_158, ki_160, ki_200, ki_212, ki_1000, ki_2000, ki_2001, ki_5000, ki_10000, ki_10001, ki_100000, ki_200000, ki_1000000, ki_2000000, ki_3000000, iO_neg, iO_add, iO_sub, iO_mul, kn_4, kn_8, kn_10, kn_20, kn_24, kn_40, kn_41, kn_50, kn_60, kn_158, kn_160, kn_200, kn_212, kn_2001, tn_lt, fn_lt, tn_le, fn_le, tn_eq, fn_eq, x_lt, x_le, x_eq, x_ix, x_nat, t_lt, f_lt, t_le, f_le, t_eq, f_eq, eq_self, and_self, true_and, and_true, false_and, and_false, if_true, if_false, Int.toNat_natCast, bI_s, bL_s, bA_s, bA_n, bV_s, mq_s, mq_n, en_le, bl_0, bl_1, u_eq, u_ne, w_eq, w_ne, v_eq, v_ne, ↓hp_cc_1, ↓hp_g_1_0, ↓hp_g_1_1, ↓hp_g_1_2, ↓hp_g_1_3, ↓hp_g_1_4, ↓hp_g_1_5, ↓hp_g_1_6, ↓hp_g_1_7, ↓hp_g_1_8, ↓hp_p_1_8, ↓hp_g_1_9, ↓hp_p_1_9, ↓hp_g_1_10, ↓hp_p_1_10, ↓hp_a_2, ↓hp_n_2, ↓hp_a_3, ↓hp_n_3, ↓hp_a_4, ↓md10, hrow, e_X11_forgePut, hio2, x_refuse]
        by_cases u : (q.1 = 1 ∨ q.1 = 2 ∨ q.1 = 4)
        · rw [if_pos u]; exact hmain _ _ (Or.inl ⟨u, rfl, rfl⟩)
        · rw [if_neg u]; exact hmain _ _ (Or.inr ⟨u, rfl, rfl⟩)
    · rw [if_neg (by decide), if_neg (by decide), if_neg (by decide), if_neg (by decide), if_neg (by decide), if_pos rfl]
      by_cases u : m = 0
      · rw [if_pos u]
        apply cs_set
        intro XI XA XP XC MI MA ML D Γ hV
        show f_X11_forge sc (n + 40) 1 (iO 5) (iO m) (iO k) _ = _
        rw [e_X11_forge, if_neg q1, if_neg q2, if_neg q3, if_pos q4, if_neg (show ¬ iO 5 = 0 by decide), if_neg (show ¬ iO 5 = 1 by decide), if_neg (show ¬ iO 5 = 2 by decide), if_neg (show ¬ iO 5 = 3 by decide), if_neg (show ¬ iO 5 = 4 by decide), if_pos (show iO 5 = 5 from rfl)]
        clear hV
        simp (disch := (first | assumption | (unfold i32; omega) | (unfold i64; omega) | omega)) only [↓reduceIte, ki_0, ki_1, ki_2, ki_3, ki_4, ki_5, ki_6, ki_7, ki_8, ki_9, ki_10, ki_11, ki_12, ki_13, ki_14, ki_15, ki_20, ki_21, ki_30, ki_31, ki_40, ki_41, ki_50, ki_51, ki_60, ki_63, ki_64, ki_65, ki_100, ki_158, ki_160, ki_200, ki_212, ki_1000, ki_2000, ki_2001, ki_5000, ki_10000, ki_10001, ki_100000, ki_200000, ki_1000000, ki_2000000, ki_3000000, iO_neg, iO_add, iO_sub, iO_mul, kn_4, kn_8, kn_10, kn_20, kn_24, kn_40, kn_41, kn_50, kn_60, kn_158, kn_160, kn_200, kn_212, kn_2001, tn_lt, fn_lt, tn_le, fn_le, tn_eq, fn_eq, x_lt, x_le, x_eq, x_ix, x_nat, t_lt, f_lt, t_le, f_le, t_eq, f_eq, eq_self, and_self, true_and, and_true, false_and, and_false, if_true, if_false, Int.toNat_natCast, bI_s, bL_s, bA_s, bA_n, bV_s, mq_s, mq_n, en_le, bl_0, bl_1, u_eq, u_ne, w_eq, w_ne, v_eq, v_ne, ↓hp_cc_1, ↓hp_g_1_0, ↓hp_g_1_1, ↓hp_g_1_2, ↓hp_g_1_3, ↓hp_g_1_4, ↓hp_g_1_5, ↓hp_g_1_6, ↓hp_g_1_7, ↓hp_g_1_8, ↓hp_p_1_8, ↓hp_g_1_9, ↓hp_p_1_9, ↓hp_g_1_10, ↓hp_p_1_10, ↓hp_a_2, ↓hp_n_2, ↓hp_a_3, ↓hp_n_3, ↓hp_a_4, x_refuse]
      · rw [if_neg u]
        apply cs_set
        intro XI XA XP XC MI MA ML D Γ hV
        have hdv := div1000' g3 g4 u
        show f_X11_forge sc (n + 40) 1 (iO 5) (iO m) (iO k) _ = _
        rw [e_X11_forge, if_neg q1, if_neg q2, if_neg q3, if_pos q4, if_neg (show ¬ iO 5 = 0 by decide), if_neg (show ¬ iO 5 = 1 by decide), if_neg (show ¬ iO 5 = 2 by decide), if_neg (show ¬ iO 5 = 3 by decide), if_neg (show ¬ iO 5 = 4 by decide), if_pos (show iO 5 = 5 from rfl)]
        clear hV
        simp (disch := (first | assumption | (unfold i32; omega) | (unfold i64; omega) | omega)) only [↓reduceIte, ki_0, ki_1, ki_2, ki_3, ki_4, ki_5, ki_6, ki_7, ki_8, ki_9, ki_10, ki_11, ki_12, ki_13, ki_14, ki_15, ki_20, ki_21, ki_30, ki_31, ki_40, ki_41, ki_50, ki_51, ki_60, ki_63, ki_64, ki_65, ki_100, ki_158, ki_160, ki_200, ki_212, ki_1000, ki_2000, ki_2001, ki_5000, ki_10000, ki_10001, ki_100000, ki_200000, ki_1000000, ki_2000000, ki_3000000, iO_neg, iO_add, iO_sub, iO_mul, kn_4, kn_8, kn_10, kn_20, kn_24, kn_40, kn_41, kn_50, kn_60, kn_158, kn_160, kn_200, kn_212, kn_2001, tn_lt, fn_lt, tn_le, fn_le, tn_eq, fn_eq, x_lt, x_le, x_eq, x_ix, x_nat, t_lt, f_lt, t_le, f_le, t_eq, f_eq, eq_self, and_self, true_and, and_true, false_and, and_false, if_true, if_false, Int.toNat_natCast, bI_s, bL_s, bA_s, bA_n, bV_s, mq_s, mq_n, en_le, bl_0, bl_1, u_eq, u_ne, w_eq, w_ne, v_eq, v_ne, ↓hp_cc_1, ↓hp_g_1_0, ↓hp_g_1_1, ↓hp_g_1_2, ↓hp_g_1_3, ↓hp_g_1_4, ↓hp_g_1_5, ↓hp_g_1_6, ↓hp_g_1_7, ↓hp_g_1_8, ↓hp_p_1_8, ↓hp_g_1_9, ↓hp_p_1_9, ↓hp_g_1_10, ↓hp_p_1_10, ↓hp_a_2, ↓hp_n_2, ↓hp_a_3, ↓hp_n_3, ↓hp_a_4, hdv, x_done]
    · rw [if_neg (by decide), if_neg (by decide), if_neg (by decide), if_neg (by decide), if_neg (by decide), if_neg (by decide)]
      by_cases u : m % 2 = 0
      · rw [if_pos u]
        apply cs_set
        intro XI XA XP XC MI MA ML D Γ hV
        rw [u] at md2
        show f_X11_forge sc (n + 40) 1 (iO 6) (iO m) (iO k) _ = _
        rw [e_X11_forge, if_neg q1, if_neg q2, if_neg q3, if_pos q4, if_neg (show ¬ iO 6 = 0 by decide), if_neg (show ¬ iO 6 = 1 by decide), if_neg (show ¬ iO 6 = 2 by decide), if_neg (show ¬ iO 6 = 3 by decide), if_neg (show ¬ iO 6 = 4 by decide), if_neg (show ¬ iO 6 = 5 by decide), if_pos (show iO 6 = 6 from rfl)]
        clear hV
        simp (disch := (first | assumption | (unfold i32; omega) | (unfold i64; omega) | omega)) only [↓reduceIte, ki_0, ki_1, ki_2, ki_3, ki_4, ki_5, ki_6, ki_7, ki_8, ki_9, ki_10, ki_11, ki_12, ki_13, ki_14, ki_15, ki_20, ki_21, ki_30, ki_31, ki_40, ki_41, ki_50, ki_51, ki_60, ki_63, ki_64, ki_65, ki_100, ki_158, ki_160, ki_200, ki_212, ki_1000, ki_2000, ki_2001, ki_5000, ki_10000, ki_10001, ki_100000, ki_200000, ki_1000000, ki_2000000, ki_3000000, iO_neg, iO_add, iO_sub, iO_mul, kn_4, kn_8, kn_10, kn_20, kn_24, kn_40, kn_41, kn_50, kn_60, kn_158, kn_160, kn_200, kn_212, kn_2001, tn_lt, fn_lt, tn_le, fn_le, tn_eq, fn_eq, x_lt, x_le, x_eq, x_ix, x_nat, t_lt, f_lt, t_le, f_le, t_eq, f_eq, eq_self, and_self, true_and, and_true, false_and, and_false, if_true, if_false, Int.toNat_natCast, bI_s, bL_s, bA_s, bA_n, bV_s, mq_s, mq_n, en_le, bl_0, bl_1, u_eq, u_ne, w_eq, w_ne, v_eq, v_ne, ↓hp_cc_1, ↓hp_g_1_0, ↓hp_g_1_1, ↓hp_g_1_2, ↓hp_g_1_3, ↓hp_g_1_4, ↓hp_g_1_5, ↓hp_g_1_6, ↓hp_g_1_7, ↓hp_g_1_8, ↓hp_p_1_8, ↓hp_g_1_9, ↓hp_p_1_9, ↓hp_g_1_10, ↓hp_p_1_10, ↓hp_a_2, ↓hp_n_2, ↓hp_a_3, ↓hp_n_3, ↓hp_a_4, ↓md2, x_refuse]
      · rw [if_neg u]
        apply cs_set
        intro XI XA XP XC MI MA ML D Γ hV
        rw [show m % 2 = 1 by omega] at md2
        show f_X11_forge sc (n + 40) 1 (iO 6) (iO m) (iO k) _ = _
        rw [e_X11_forge, if_neg q1, if_neg q2, if_neg q3, if_pos q4, if_neg (show ¬ iO 6 = 0 by decide), if_neg (show ¬ iO 6 = 1 by decide), if_neg (show ¬ iO 6 = 2 by decide), if_neg (show ¬ iO 6 = 3 by decide), if_neg (show ¬ iO 6 = 4 by decide), if_neg (show ¬ iO 6 = 5 by decide), if_pos (show iO 6 = 6 from rfl)]
        clear hV
        simp (disch := (first | assumption | (unfold i32; omega) | (unfold i64; omega) | omega)) only [↓reduceIte, ki_0, ki_1, ki_2, ki_3, ki_4, ki_5, ki_6, ki_7, ki_8, ki_9, ki_10, ki_11, ki_12, ki_13, ki_14, ki_15, ki_20, ki_21, ki_30, ki_31, ki_40, ki_41, ki_50, ki_51, ki_60, ki_63, ki_64, ki_65, ki_100, ki_158, ki_160, ki_200, ki_212, ki_1000, ki_2000, ki_2001, ki_5000, ki_10000, ki_10001, ki_100000, ki_200000, ki_1000000, ki_2000000, ki_3000000, iO_neg, iO_add, iO_sub, iO_mul, kn_4, kn_8, kn_10, kn_20, kn_24, kn_40, kn_41, kn_50, kn_60, kn_158, kn_160, kn_200, kn_212, kn_2001, tn_lt, fn_lt, tn_le, fn_le, tn_eq, fn_eq, x_lt, x_le, x_eq, x_ix, x_nat, t_lt, f_lt, t_le, f_le, t_eq, f_eq, eq_self, and_self, true_and, and_true, false_and, and_false, if_true, if_false, Int.toNat_natCast, bI_s, bL_s, bA_s, bA_n, bV_s, mq_s, mq_n, en_le, bl_0, bl_1, u_eq, u_ne, w_eq, w_ne, v_eq, v_ne, ↓hp_cc_1, ↓hp_g_1_0, ↓hp_g_1_1, ↓hp_g_1_2, ↓hp_g_1_3, ↓hp_g_1_4, ↓hp_g_1_5, ↓hp_g_1_6, ↓hp_g_1_7, ↓hp_g_1_8, ↓hp_p_1_8, ↓hp_g_1_9, ↓hp_p_1_9, ↓hp_g_1_10, ↓hp_p_1_10, ↓hp_a_2, ↓hp_n_2, ↓hp_a_3, ↓hp_n_3, ↓hp_a_4, ↓md2, x_done]
  · rw [if_neg g]
    apply cs_set
    intro XI XA XP XC MI MA ML D Γ hV
    show f_X11_forge sc (n + 40) 1 (iO w) (iO m) (iO k) _ = _
    clear hV
    rw [e_X11_forge]
    by_cases t3 : m < -100
    · rw [if_pos (plt100 hm t3), hp_cc_1, if_pos rfl, x_refuse]; rfl
    rw [if_neg (nlt100 hm (by omega))]
    by_cases t4 : 100 < m
    · rw [if_pos (show 100 < iO m from plt (a := 100) (b := m) (by unfold i32; omega) hm t4), hp_cc_1, if_pos rfl, x_refuse]; rfl
    rw [if_neg (show ¬ (100 < iO m) from nlt (a := 100) (b := m) (by unfold i32; omega) hm (by omega))]
    by_cases t5 : k < -100
    · rw [if_pos (plt100 hk t5), hp_cc_1, if_pos rfl, x_refuse]; rfl
    rw [if_neg (nlt100 hk (by omega))]
    by_cases t6 : 100 < k
    · rw [if_neg (show ¬ iO k ≤ 100 from nle (a := k) (b := 100) hk (by unfold i32; omega) t6), hp_cc_1, if_pos rfl, x_refuse]; rfl
    rw [if_pos (show iO k ≤ 100 from ple (a := k) (b := 100) hk (by unfold i32; omega) (by omega))]
    have hne : ∀ c : Int, 0 ≤ c → c ≤ 6 → ¬ iO w = iO c := fun c h1 h2 q => by
      have := (iO_eq (a := w) (b := c) hw (by unfold i32; omega)).mp q
      omega
    rw [if_neg (show ¬ iO w = 0 from hne 0 (by omega) (by omega)), if_neg (show ¬ iO w = 1 from hne 1 (by omega) (by omega)), if_neg (show ¬ iO w = 2 from hne 2 (by omega) (by omega)), if_neg (show ¬ iO w = 3 from hne 3 (by omega) (by omega)), if_neg (show ¬ iO w = 4 from hne 4 (by omega) (by omega)), if_neg (show ¬ iO w = 5 from hne 5 (by omega) (by omega)), if_neg (show ¬ iO w = 6 from hne 6 (by omega) (by omega)), hp_cc_1, if_pos rfl, x_refuse]
    rfl
end FRC
