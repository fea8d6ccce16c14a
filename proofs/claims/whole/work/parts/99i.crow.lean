/-! row: the class -/
section CRW
variable {sc : en_S} {n : Nat} {S : ST5}
theorem x_tells {XI : Nat → Int32} {XA : Nat → Nat → Int32} {XP : Nat → Nat → Option Nat} {XC : Value} {MI : Nat → Int32} {MA : Nat → Nat → Int32} {ML : Nat → Nat → Int64} {D : en_H} {k N : Nat} (hk : k < 4) (hN : N ≤ 40) {f : Nat → Int} (hf : ∀ t, t < 40 → -100 ≤ f t ∧ f t ≤ 100) (hc : ∀ t, t < 40 → XA (10 + k) t = iO (f t)) : ∀ (j i : Nat), i + j = N → b_X6_tellsSteps_1 sc n (18 + 2 * k) (iO (N : Nat)) (iO (i : Nat)) (hp XI XA XP XC MI MA ML D) = some (some (.int (iO (if chk f j i = true then 1 else 0))), hp XI XA XP XC MI MA ML D) := by
  intro j
  induction j with
  | zero =>
    intro i hi
    rw [eb_X6_tellsSteps_1, chk, if_pos rfl]
    simp (disch := (first | assumption | (unfold i32; omega) | (unfold i64; omega) | omega)) only [↓reduceIte, ki_0, ki_1, ki_2, ki_3, ki_4, ki_5, ki_6, ki_7, ki_8, ki_9, ki_10, ki_11, ki_12, ki_13, ki_14, ki_15, ki_20, ki_21, ki_30, ki_31, ki_40, ki_41, ki_50, ki_51, ki_60, ki_63, ki_64, ki_65, ki_100, ki_158, ki_160, ki_200, ki_212, ki_1000, ki_2000, ki_2001, ki_5000, ki_10000, ki_10001, ki_100000, ki_200000, ki_1000000, ki_2000000, ki_3000000, iO_neg, iO_add, iO_sub, iO_mul, kn_4, kn_8, kn_10, kn_20, kn_24, kn_40, kn_41, kn_50, kn_60, kn_158, kn_160, kn_200, kn_212, kn_2001, tn_lt, fn_lt, tn_le, fn_le, tn_eq, fn_eq, x_lt, x_le, x_eq, x_ix, x_nat, t_lt, f_lt, t_le, f_le, t_eq, f_eq, eq_self, and_self, true_and, and_true, false_and, and_false, if_true, if_false, Int.toNat_natCast, bI_s, bL_s, bA_s, bA_n, bV_s, mq_s, mq_n, en_le, bl_0, bl_1, u_eq, u_ne, w_eq, w_ne, v_eq, v_ne]
  | succ j ih =>
    intro i hi
    have hci := hc i (by omega)
    obtain ⟨b1, b2⟩ := hf i (by omega)
    rw [eb_X6_tellsSteps_1, chk]
    by_cases g : 0 ≤ f i ∧ f i ≤ 100
    · rw [if_pos g, ← ih (i + 1) (by omega)]
      obtain ⟨g1, g2⟩ := g
      simp (disch := (first | assumption | (unfold i32; omega) | (unfold i64; omega) | omega)) only [↓reduceIte, ki_0, ki_1, ki_2, ki_3, ki_4, ki_5, ki_6, ki_7, ki_8, ki_9, ki_10, ki_11, ki_12, ki_13, ki_14, ki_15, ki_20, ki_21, ki_30, ki_31, ki_40, ki_41, ki_50, ki_51, ki_60, ki_63, ki_64, ki_65, ki_100, ki_158, ki_160, ki_200, ki_212, ki_1000, ki_2000, ki_2001, ki_5000, ki_10000, ki_10001, ki_100000, ki_200000, ki_1000000, ki_2000000, ki_3000000, iO_neg, iO_add, iO_sub, iO_mul, kn_4, kn_8, kn_10, kn_20, kn_24, kn_40, kn_41, kn_50, kn_60, kn_158, kn_160, kn_200, kn_212, kn_2001, tn_lt, fn_lt, tn_le, fn_le, tn_eq, fn_eq, x_lt, x_le, x_eq, x_ix, x_nat, t_lt, f_lt, t_le, f_le, t_eq, f_eq, eq_self, and_self, true_and, and_true, false_and, and_false, if_true, if_false, Int.toNat_natCast, bI_s, bL_s, bA_s, bA_n, bV_s, mq_s, mq_n, en_le, bl_0, bl_1, u_eq, u_ne, w_eq, w_ne, v_eq, v_ne, sh_0 hk, sh_l hk, sh_a hk, hci]
      try rfl
    · rw [if_neg g, if_neg (show ¬ (false = true) from Bool.false_ne_true)]
      have g1 : f i < 0 := by omega
      simp (disch := (first | assumption | (unfold i32; omega) | (unfold i64; omega) | omega)) only [↓reduceIte, ki_0, ki_1, ki_2, ki_3, ki_4, ki_5, ki_6, ki_7, ki_8, ki_9, ki_10, ki_11, ki_12, ki_13, ki_14, ki_15, ki_20, ki_21, ki_30, ki_31, ki_40, ki_41, ki_50, ki_51, ki_60, ki_63, ki_64, ki_65, ki_100, ki_158, ki_160, ki_200, ki_212, ki_1000, ki_2000, ki_2001, ki_5000, ki_10000, ki_10001, ki_100000, ki_200000, ki_1000000, ki_2000000, ki_3000000, iO_neg, iO_add, iO_sub, iO_mul, kn_4, kn_8, kn_10, kn_20, kn_24, kn_40, kn_41, kn_50, kn_60, kn_158, kn_160, kn_200, kn_212, kn_2001, tn_lt, fn_lt, tn_le, fn_le, tn_eq, fn_eq, x_lt, x_le, x_eq, x_ix, x_nat, t_lt, f_lt, t_le, f_le, t_eq, f_eq, eq_self, and_self, true_and, and_true, false_and, and_false, if_true, if_false, Int.toNat_natCast, bI_s, bL_s, bA_s, bA_n, bV_s, mq_s, mq_n, en_le, bl_0, bl_1, u_eq, u_ne, w_eq, w_ne, v_eq, v_ne, sh_0 hk, sh_l hk, sh_a hk, hci]
theorem x_copy_loop {XI : Nat → Int32} {XA : Nat → Nat → Int32} {XP : Nat → Nat → Option Nat} {XC : Value} {MI : Nat → Int32} {MA : Nat → Nat → Int32} {ML : Nat → Nat → Int64} {D : en_H} {k N q : Nat} {e : va_E} (he : en_nt D q = some e) (hk : k < 4) (hN : N ≤ 40) : ∀ (j i : Nat) (g : Nat → Int32), i + j = N → ∃ g', b_X6_copyOf_1 sc n (18 + 2 * k) (iO (N : Nat)) (q + 51) (iO (i : Nat)) (hp XI XA XP XC MI MA ML (D.set q (.inl (0, N, .inl g)))) = some (some (.ref (q + 51)), hp XI XA XP XC MI MA ML (D.set q (.inl (0, N, .inl g')))) ∧ (∀ t, t < i → g' t = g t) ∧ (∀ t, i ≤ t → t < N → g' t = XA (10 + k) t) := by
  intro j
  induction j with
  | zero =>
    intro i g hi
    obtain rfl : i = N := by omega
    refine ⟨g, ?_, fun _ _ => rfl, fun t h1 h2 => by omega⟩
    rw [eb_X6_copyOf_1]
    simp (disch := (first | assumption | (unfold i32; omega) | (unfold i64; omega) | omega)) only [↓reduceIte, ki_0, ki_1, ki_2, ki_3, ki_4, ki_5, ki_6, ki_7, ki_8, ki_9, ki_10, ki_11, ki_12, ki_13, ki_14, ki_15, ki_20, ki_21, ki_30, ki_31, ki_40, ki_41, ki_50, ki_51, ki_60, ki_63, ki_64, ki_65, ki_100, ki_158, ki_160, ki_200, ki_212, ki_1000, ki_2000, ki_2001, ki_5000, ki_10000, ki_10001, ki_100000, ki_200000, ki_1000000, ki_2000000, ki_3000000, iO_neg, iO_add, iO_sub, iO_mul, kn_4, kn_8, kn_10, kn_20, kn_24, kn_40, kn_41, kn_50, kn_60, kn_158, kn_160, kn_200, kn_212, kn_2001, tn_lt, fn_lt, tn_le, fn_le, tn_eq, fn_eq, x_lt, x_le, x_eq, x_ix, x_nat, t_lt, f_lt, t_le, f_le, t_eq, f_eq, eq_self, and_self, true_and, and_true, false_and, and_false, if_true, if_false, Int.toNat_natCast, bI_s, bL_s, bA_s, bA_n, bV_s, mq_s, mq_n, en_le, bl_0, bl_1, u_eq, u_ne, w_eq, w_ne, v_eq, v_ne]
  | succ j ih =>
    intro i g hi
    obtain ⟨g', f1, f2, f3⟩ := ih (i + 1) (upd g i (XA (10 + k) i)) (by omega)
    refine ⟨g', ?_, fun t ht => by rw [f2 t (by omega), u_ne (by omega)], fun t h1 h2 => ?_⟩
    · have hs : ∀ (i v : Int32) (f : en_H → Option en_R), en_sI (hp XI XA XP XC MI MA ML (D.set q (.inl (0, N, .inl g)))) (q + 51) i v f = if en_ix i N then f (hp XI XA XP XC MI MA ML (D.set q (.inl (0, N, .inl (upd g i.toNatClampNeg v))))) else none := by
        intro i v f
        rw [d_sI (nt_set_eq he), List.set_set]
      rw [eb_X6_copyOf_1]
      simp (disch := (first | assumption | (unfold i32; omega) | (unfold i64; omega) | omega)) only [↓reduceIte, ki_0, ki_1, ki_2, ki_3, ki_4, ki_5, ki_6, ki_7, ki_8, ki_9, ki_10, ki_11, ki_12, ki_13, ki_14, ki_15, ki_20, ki_21, ki_30, ki_31, ki_40, ki_41, ki_50, ki_51, ki_60, ki_63, ki_64, ki_65, ki_100, ki_158, ki_160, ki_200, ki_212, ki_1000, ki_2000, ki_2001, ki_5000, ki_10000, ki_10001, ki_100000, ki_200000, ki_1000000, ki_2000000, ki_3000000, iO_neg, iO_add, iO_sub, iO_mul, kn_4, kn_8, kn_10, kn_20, kn_24, kn_40, kn_41, kn_50, kn_60, kn_158, kn_160, kn_200, kn_212, kn_2001, tn_lt, fn_lt, tn_le, fn_le, tn_eq, fn_eq, x_lt, x_le, x_eq, x_ix, x_nat, t_lt, f_lt, t_le, f_le, t_eq, f_eq, eq_self, and_self, true_and, and_true, false_and, and_false, if_true, if_false, Int.toNat_natCast, bI_s, bL_s, bA_s, bA_n, bV_s, mq_s, mq_n, en_le, bl_0, bl_1, u_eq, u_ne, w_eq, w_ne, v_eq, v_ne, sh_0 hk, sh_l hk, sh_a hk, hs]
      exact f1
    · by_cases e : t = i
      · subst e; rw [f2 t (by omega), u_eq rfl]
      · exact f3 t (by omega) h2
set_option maxHeartbeats 3000000 in
theorem cs_row (hS : OK5 S) {sh so N : Int} (h1 : i32 sh) (h2 : i32 so) (h3 : i32 N) : CS S (p_row S sh so N).2 (p_row S sh so N).1 (fun z => f_X11_row sc (n + 40) 1 (iO sh) (iO so) (iO N) z) := by
  obtain ⟨a1, a2⟩ := id h1
  obtain ⟨b1, b2⟩ := id h2
  obtain ⟨c1, c2⟩ := id h3
  have h10 := hS.2.1
  unfold p_row
  by_cases g : 0 ≤ sh ∧ sh ≤ 3 ∧ 0 ≤ so ∧ so ≤ 2 ∧ 1 ≤ N ∧ N ≤ 40
  · rw [if_pos g]
    obtain ⟨g1, g2, g3, g4, g5, g6⟩ := g
    obtain ⟨x, rfl⟩ : ∃ x : Nat, sh = x := ⟨sh.toNat, by omega⟩
    obtain ⟨y, rfl⟩ : ∃ y : Nat, N = y := ⟨N.toNat, by omega⟩
    have hx : x < 4 := by omega
    have hsh : ∀ (XI : Nat → Int32) (XA : Nat → Nat → Int32) (XP : Nat → Nat → Option Nat) (XC : Value) (MI : Nat → Int32) (MA : Nat → Nat → Int32) (ML : Nat → Nat → Int64) (D : en_H) (f0 : Option en_R) (f : Nat → Option en_R), en_aA (hp XI XA XP XC MI MA ML D) 4 (iO (x : Int)) f0 f = f (18 + 2 * x) := by
      intro XI XA XP XC MI MA ML D f0 f
      rw [hp_a_4, if_pos ((iO_ix (by unfold i32; omega)).mpr (by omega)), iO_nat (by omega) (by unfold i32; omega), Int.toNat_natCast, sh_q hx]
      rfl
    have hms : ∀ (XI : Nat → Int32) (XA : Nat → Nat → Int32) (XP : Nat → Nat → Option Nat) (XC : Value) (MI : Nat → Int32) (MA : Nat → Nat → Int32) (ML : Nat → Nat → Int64) (D : en_H) (so : Int), XI (15 + 2 * x) = iO so → -1 ≤ so → so ≤ 2 → f_X6_isMissing sc (n + 39) (18 + 2 * x) (hp XI XA XP XC MI MA ML D) = some (some (.int (iO (if 0 ≤ so then 0 else 1))), hp XI XA XP XC MI MA ML D) := by
      intro XI XA XP XC MI MA ML D so h1 h2 h3
      rw [e_X6_isMissing, sh_1 hx, h1]
      by_cases g : 0 ≤ so
      · rw [if_pos g, if_pos (show 0 ≤ iO so from ple (a := 0) (b := so) (by unfold i32; omega) (by unfold i32; omega) g)]; rfl
      · rw [if_neg g, if_neg (show ¬ 0 ≤ iO so from nle (a := 0) (b := so) (by unfold i32; omega) (by unfold i32; omega) (by omega))]; rfl
    rw [Int.toNat_natCast, Int.toNat_natCast]
    obtain ⟨s1, s2, s3, s4, -, s6⟩ := hS.2.2.2.2.1 x (by omega)
    by_cases gl : 10 ≤ S.2.1.length
    · rw [if_pos gl]
      apply cs_ref
      intro XI XA XP XC MI MA ML D Γ hV
      have w2 := hV.2.1
      show f_X11_row sc (n + 40) 1 (iO (x : Int)) (iO so) (iO (y : Int)) _ = _
      rw [e_X11_row, if_neg (show ¬ (iO (x : Int) < 0) from nlt (a := (x : Int)) (b := 0) (by unfold i32; omega) (by unfold i32; omega) (by omega)), if_neg (show ¬ (4 ≤ iO (x : Int)) from nle (a := 4) (b := (x : Int)) (by unfold i32; omega) (by unfold i32; omega) (by omega)), if_neg (show ¬ (iO so < 0) from nlt (a := so) (b := 0) (by unfold i32; omega) (by unfold i32; omega) (by omega)), if_neg (show ¬ (2 < iO so) from nlt (a := 2) (b := so) (by unfold i32; omega) (by unfold i32; omega) (by omega)), if_neg (show ¬ (iO (y : Int) < 1) from nlt (a := (y : Int)) (b := 1) (by unfold i32; omega) (by unfold i32; omega) (by omega)), if_pos (show iO (y : Int) ≤ 40 from ple (a := (y : Int)) (b := 40) (by unfold i32; omega) (by unfold i32; omega) (by omega)), hp_g_1_9, w2, if_neg (show ¬ iO (S.2.1.length : Int) < 10 from nlt (a := (S.2.1.length : Int)) (b := 10) (by unfold i32; omega) (by unfold i32; omega) (by omega)), hp_cc_1, if_pos rfl, x_refuse]; rfl
    rw [if_neg gl]
    by_cases g7 : (S.2.2.1 x).1 = -1
    · rw [if_pos g7]
      apply cs_ref
      intro XI XA XP XC MI MA ML D Γ hV
      have w2 := hV.2.1
      obtain ⟨t1, t2, t3⟩ := hV.2.2.2.2.2.2.1 x (by omega)
      show f_X11_row sc (n + 40) 1 (iO (x : Int)) (iO so) (iO (y : Int)) _ = _
      rw [e_X11_row, if_neg (show ¬ (iO (x : Int) < 0) from nlt (a := (x : Int)) (b := 0) (by unfold i32; omega) (by unfold i32; omega) (by omega)), if_neg (show ¬ (4 ≤ iO (x : Int)) from nle (a := 4) (b := (x : Int)) (by unfold i32; omega) (by unfold i32; omega) (by omega)), if_neg (show ¬ (iO so < 0) from nlt (a := so) (b := 0) (by unfold i32; omega) (by unfold i32; omega) (by omega)), if_neg (show ¬ (2 < iO so) from nlt (a := 2) (b := so) (by unfold i32; omega) (by unfold i32; omega) (by omega)), if_neg (show ¬ (iO (y : Int) < 1) from nlt (a := (y : Int)) (b := 1) (by unfold i32; omega) (by unfold i32; omega) (by omega)), if_pos (show iO (y : Int) ≤ 40 from ple (a := (y : Int)) (b := 40) (by unfold i32; omega) (by unfold i32; omega) (by omega)), hp_g_1_9, w2, if_pos (show iO (S.2.1.length : Int) < 10 from plt (a := (S.2.1.length : Int)) (b := 10) (by unfold i32; omega) (by unfold i32; omega) (by omega)), hp_g_1_2, hsh, sh_cc hx, if_pos rfl, hms XI XA XP XC MI MA ML D _ t1 s1 s2, if_neg (show ¬ 0 ≤ (S.2.2.1 x).1 by omega), bI_s, if_neg (show ¬ iO 1 = 0 by decide), hp_cc_1, if_pos rfl, x_refuse]; rfl
    rw [if_neg g7]
    by_cases g8 : (S.2.2.1 x).1 ≠ so
    · rw [if_pos g8]
      apply cs_ref
      intro XI XA XP XC MI MA ML D Γ hV
      have w2 := hV.2.1
      obtain ⟨t1, t2, t3⟩ := hV.2.2.2.2.2.2.1 x (by omega)
      show f_X11_row sc (n + 40) 1 (iO (x : Int)) (iO so) (iO (y : Int)) _ = _
      rw [e_X11_row, if_neg (show ¬ (iO (x : Int) < 0) from nlt (a := (x : Int)) (b := 0) (by unfold i32; omega) (by unfold i32; omega) (by omega)), if_neg (show ¬ (4 ≤ iO (x : Int)) from nle (a := 4) (b := (x : Int)) (by unfold i32; omega) (by unfold i32; omega) (by omega)), if_neg (show ¬ (iO so < 0) from nlt (a := so) (b := 0) (by unfold i32; omega) (by unfold i32; omega) (by omega)), if_neg (show ¬ (2 < iO so) from nlt (a := 2) (b := so) (by unfold i32; omega) (by unfold i32; omega) (by omega)), if_neg (show ¬ (iO (y : Int) < 1) from nlt (a := (y : Int)) (b := 1) (by unfold i32; omega) (by unfold i32; omega) (by omega)), if_pos (show iO (y : Int) ≤ 40 from ple (a := (y : Int)) (b := 40) (by unfold i32; omega) (by unfold i32; omega) (by omega)), hp_g_1_9, w2, if_pos (show iO (S.2.1.length : Int) < 10 from plt (a := (S.2.1.length : Int)) (b := 10) (by unfold i32; omega) (by unfold i32; omega) (by omega)), hp_g_1_2, hsh, sh_cc hx, if_pos rfl, hms XI XA XP XC MI MA ML D _ t1 s1 s2, if_pos (show 0 ≤ (S.2.2.1 x).1 by omega), bI_s, if_pos (show iO 0 = 0 from rfl), sh_1 hx, t1, if_neg (fun q => g8 ((iO_eq (by unfold i32; omega) (by unfold i32; omega)).mp q)), hp_cc_1, if_pos rfl, x_refuse]; rfl
    rw [if_neg g8]
    have g8 : (S.2.2.1 x).1 = so := by omega
    by_cases g9 : (S.2.2.1 x).2.1 < (y : Int)
    · rw [if_pos g9]
      apply cs_ref
      intro XI XA XP XC MI MA ML D Γ hV
      have w2 := hV.2.1
      obtain ⟨t1, t2, t3⟩ := hV.2.2.2.2.2.2.1 x (by omega)
      show f_X11_row sc (n + 40) 1 (iO (x : Int)) (iO so) (iO (y : Int)) _ = _
      rw [e_X11_row, if_neg (show ¬ (iO (x : Int) < 0) from nlt (a := (x : Int)) (b := 0) (by unfold i32; omega) (by unfold i32; omega) (by omega)), if_neg (show ¬ (4 ≤ iO (x : Int)) from nle (a := 4) (b := (x : Int)) (by unfold i32; omega) (by unfold i32; omega) (by omega)), if_neg (show ¬ (iO so < 0) from nlt (a := so) (b := 0) (by unfold i32; omega) (by unfold i32; omega) (by omega)), if_neg (show ¬ (2 < iO so) from nlt (a := 2) (b := so) (by unfold i32; omega) (by unfold i32; omega) (by omega)), if_neg (show ¬ (iO (y : Int) < 1) from nlt (a := (y : Int)) (b := 1) (by unfold i32; omega) (by unfold i32; omega) (by omega)), if_pos (show iO (y : Int) ≤ 40 from ple (a := (y : Int)) (b := 40) (by unfold i32; omega) (by unfold i32; omega) (by omega)), hp_g_1_9, w2, if_pos (show iO (S.2.1.length : Int) < 10 from plt (a := (S.2.1.length : Int)) (b := 10) (by unfold i32; omega) (by unfold i32; omega) (by omega)), hp_g_1_2, hsh, sh_cc hx, if_pos rfl, hms XI XA XP XC MI MA ML D _ t1 s1 s2, if_pos (show 0 ≤ (S.2.2.1 x).1 by omega), bI_s, if_pos (show iO 0 = 0 from rfl), sh_1 hx, t1, if_pos (show iO (S.2.2.1 x).1 = iO so by rw [g8]), sh_2 hx, t2, if_neg (nle (a := (y : Int)) (b := (S.2.2.1 x).2.1) (by unfold i32; omega) (by unfold i32; omega) (by omega)), hp_cc_1, if_pos rfl, x_refuse]; rfl
    rw [if_neg g9]
    have tell : ∀ (XI : Nat → Int32) (XA : Nat → Nat → Int32) (XP : Nat → Nat → Option Nat) (XC : Value) (MI : Nat → Int32) (MA : Nat → Nat → Int32) (ML : Nat → Nat → Int64) (D : en_H) (Γ : Nat → Option GD), CV S Γ XI XA XP D → f_X6_tellsSteps sc (n + 39) (18 + 2 * x) (iO (y : Int)) (hp XI XA XP XC MI MA ML D) = some (some (.int (iO (if chk (S.2.2.1 x).2.2 y 0 = true then 1 else 0))), hp XI XA XP XC MI MA ML D) := by
      intro XI XA XP XC MI MA ML D Γ hV
      obtain ⟨t1, t2, t3⟩ := hV.2.2.2.2.2.2.1 x (by omega)
      rw [e_X6_tellsSteps]
      exact x_tells hx (by omega) s6 t3 y 0 (by omega)
    by_cases g11 : chk (S.2.2.1 x).2.2 y 0 = true
    · rw [if_pos g11]
      intro XI XA XP XC MI MA ML D Γ hV
      obtain ⟨t1, t2, t3⟩ := hV.2.2.2.2.2.2.1 x (by omega)
      have w2 := hV.2.1
      have hH := hV.2.2.2.2.2.2.2.2
      have ht := tell XI XA XP XC MI MA ML D Γ hV
      rw [if_pos g11] at ht
      have hΓ : Γ D.length = none := by
        cases hc : Γ D.length with
        | none => rfl
        | some y =>
          obtain ⟨-, fs, y2⟩ := rc_cls (hH D.length y hc).2.2.2
          have := nt_lt y2
          omega
      -- the copy
      obtain ⟨g', f1, f2, f3⟩ := x_copy_loop (sc := sc) (n := n + 38) (XI := XI) (XA := XA) (XP := XP) (XC := XC) (MI := MI) (MA := MA) (ML := ML) (k := x) (N := y) (a2n1 D (.inr (8, en_df 8)) (.inl (0, y, .inl (fun _ => 0)))) hx (by omega) y 0 (fun _ => 0) (by omega)
      rw [a2s1, a2s1] at f1
      have hfa : FA D (D ++ [.inr (8, [.int (iO (S.2.1.length : Nat)), .int (iO 0), .ref (D.length + 52)]), .inl (0, y, .inl g')]) := FA.app D _
      have hnew : HV (va_up Γ D.length (some (0, S.2.1.length, 0, -1, y, (S.2.2.1 x).2.2, (0, 0, 0, 0)))) (D ++ [.inr (8, [.int (iO (S.2.1.length : Nat)), .int (iO 0), .ref (D.length + 52)]), .inl (0, y, .inl g')]) := by
        refine HV_new hH hfa hΓ (by show S.2.1.length ≤ 9; omega) (by show y ≤ 10001; omega) (fun i hi => chk_ok g11 i (by omega) (by have : i < y := hi; omega)) ?_
        refine Or.inl ⟨rfl, g', a2n0 D _ _, a2n1 D _ _, fun i hi => ?_, by show y ≤ 40; omega⟩
        have hi : i < y := hi
        rw [f3 i (by omega) hi]
        exact t3 i (by omega)
      obtain ⟨XI', XP', D', Γ', k1, k2, k3, k4⟩ := x_keep (sc := sc) (n := n + 1) (XC := XC) (MI := MI) (MA := MA) (ML := ML) hV hS (by omega) hfa hnew (fun x y h => by rw [w_ne (fun e => by rw [e, hΓ] at h; cases h)]; exact h) hΓ (w_eq rfl) rfl (fun h => by rcases h with h | h <;> exact absurd (show (0 : Int) = _ from h) (by decide))
      refine ⟨XI', XA, XP', XC, D', Γ', ?_, k2, gr_app k3 k4 (by simp) ?_⟩
      · show f_X11_row sc (n + 40) 1 (iO (x : Int)) (iO so) (iO (y : Int)) _ = _
        have hcopy : f_X6_copyOf sc (n + 39) (18 + 2 * x) (iO (y : Int)) (hp XI XA XP XC MI MA ML (D ++ [.inr (8, en_df 8)])) = some (some (.ref (D.length + 52)), hp XI XA XP XC MI MA ML (D ++ [.inr (8, en_df 8), .inl (0, y, .inl g')])) := by
          have hmx := e_maxI (sc := sc) (n := n + 37) (a := 0) (b := (y : Int)) (z := hp XI XA XP XC MI MA ML (D ++ [.inr (8, en_df 8)])) (by unfold i32; omega) (by unfold i32; omega)
          rw [show max (0 : Int) (y : Int) = (y : Int) by omega] at hmx
          have hmx : f_J9_max_7cf53 sc (n + 38) 0 (iO (y : Int)) (hp XI XA XP XC MI MA ML (D ++ [.inr (8, en_df 8)])) = _ := hmx
          rw [e_X6_copyOf, hmx, bI_s, if_pos ((iO_ix (by unfold i32; omega)).mpr (by omega)), hp_nw, iO_nat (by omega) (by unfold i32; omega), Int.toNat_natCast, show (D ++ [.inr (8, en_df 8)]) ++ [.inl (0, y, .inl (fun _ => 0))] = (D ++ [.inr (8, en_df 8), .inl (0, y, .inl (fun _ => 0))] : en_H) by simp, show (D ++ [(.inr (8, en_df 8) : va_E)]).length + 51 = D.length + 52 by simp]
          exact f1
        have hinit : f_X9_init sc (n + 39) (D.length + 51) (iO (S.2.1.length : Nat)) (D.length + 52) (hp XI XA XP XC MI MA ML (D ++ [.inr (8, en_df 8), .inl (0, y, .inl g')])) = some (none, hp XI XA XP XC MI MA ML (D ++ [.inr (8, [.int (iO (S.2.1.length : Nat)), .int (iO 0), .ref (D.length + 52)]), .inl (0, y, .inl g')])) := by
          rw [e_X9_init, d_vt (a2n0 D _ _)]
          show en_bV (f_X5_init sc (n + 38) (D.length + 51) (iO (S.2.1.length : Nat)) (hp XI XA XP XC MI MA ML (D ++ [.inr (8, en_df 8), .inl (0, y, .inl g')]))) _ = _
          rw [e_X5_init, d_pf (a2n0 D _ _) (x := 0) rfl rfl, a2s0, bV_s, d_pf (a2n0 D _ _) (x := 0) rfl rfl, a2s0]
          rfl
        have hcc : ∀ (D1 : en_H) (fs : List Value), en_nt D1 D.length = some (.inr (8, fs)) → ∀ (g : Nat → Option en_R), en_cc (hp XI XA XP XC MI MA ML D1) (D.length + 51) g = g 8 := fun D1 fs h g => d_cc h g
        have hcc2 := hcc _ _ (a2n0 D (.inr (8, en_df 8)) (.inl (0, y, .inl g')))
        rw [e_X11_row, if_neg (show ¬ (iO (x : Int) < 0) from nlt (a := (x : Int)) (b := 0) (by unfold i32; omega) (by unfold i32; omega) (by omega)), if_neg (show ¬ (4 ≤ iO (x : Int)) from nle (a := 4) (b := (x : Int)) (by unfold i32; omega) (by unfold i32; omega) (by omega)), if_neg (show ¬ (iO so < 0) from nlt (a := so) (b := 0) (by unfold i32; omega) (by unfold i32; omega) (by omega)), if_neg (show ¬ (2 < iO so) from nlt (a := 2) (b := so) (by unfold i32; omega) (by unfold i32; omega) (by omega)), if_neg (show ¬ (iO (y : Int) < 1) from nlt (a := (y : Int)) (b := 1) (by unfold i32; omega) (by unfold i32; omega) (by omega)), if_pos (show iO (y : Int) ≤ 40 from ple (a := (y : Int)) (b := 40) (by unfold i32; omega) (by unfold i32; omega) (by omega)), hp_g_1_9, w2, if_pos (show iO (S.2.1.length : Int) < 10 from plt (a := (S.2.1.length : Int)) (b := 10) (by unfold i32; omega) (by unfold i32; omega) (by omega)), hp_g_1_2, hsh, sh_cc hx, if_pos rfl, hms XI XA XP XC MI MA ML D _ t1 s1 s2, if_pos (show 0 ≤ (S.2.2.1 x).1 by omega), bI_s, if_pos (show iO 0 = 0 from rfl), sh_1 hx, t1, if_pos (show iO (S.2.2.1 x).1 = iO so by rw [g8]), sh_2 hx, t2, if_pos (ple (a := (y : Int)) (b := (S.2.2.1 x).2.1) (by unfold i32; omega) (by unfold i32; omega) (by omega)), sh_cc hx, if_pos rfl, ht, bI_s, if_neg (show ¬ iO 1 = 0 by decide), hp_nw, hp_g_1_9, w2, sh_cc hx, if_pos rfl, hcopy, bA_s, hcc2, if_pos rfl, hinit, bV_s, hp_cc_1, if_pos rfl, k1]; rfl
      · have : en_sz [.inr (8, [.int (iO (S.2.1.length : Nat)), .int (iO 0), .ref (D.length + 52)]), .inl (0, y, .inl g')] = 3 + y := by simp [en_sz, en_s0]
        rw [this]; omega
    · rw [if_neg g11]
      apply cs_ref
      intro XI XA XP XC MI MA ML D Γ hV
      have w2 := hV.2.1
      obtain ⟨t1, t2, t3⟩ := hV.2.2.2.2.2.2.1 x (by omega)
      have ht := tell XI XA XP XC MI MA ML D Γ hV
      rw [if_neg g11] at ht
      show f_X11_row sc (n + 40) 1 (iO (x : Int)) (iO so) (iO (y : Int)) _ = _
      rw [e_X11_row, if_neg (show ¬ (iO (x : Int) < 0) from nlt (a := (x : Int)) (b := 0) (by unfold i32; omega) (by unfold i32; omega) (by omega)), if_neg (show ¬ (4 ≤ iO (x : Int)) from nle (a := 4) (b := (x : Int)) (by unfold i32; omega) (by unfold i32; omega) (by omega)), if_neg (show ¬ (iO so < 0) from nlt (a := so) (b := 0) (by unfold i32; omega) (by unfold i32; omega) (by omega)), if_neg (show ¬ (2 < iO so) from nlt (a := 2) (b := so) (by unfold i32; omega) (by unfold i32; omega) (by omega)), if_neg (show ¬ (iO (y : Int) < 1) from nlt (a := (y : Int)) (b := 1) (by unfold i32; omega) (by unfold i32; omega) (by omega)), if_pos (show iO (y : Int) ≤ 40 from ple (a := (y : Int)) (b := 40) (by unfold i32; omega) (by unfold i32; omega) (by omega)), hp_g_1_9, w2, if_pos (show iO (S.2.1.length : Int) < 10 from plt (a := (S.2.1.length : Int)) (b := 10) (by unfold i32; omega) (by unfold i32; omega) (by omega)), hp_g_1_2, hsh, sh_cc hx, if_pos rfl, hms XI XA XP XC MI MA ML D _ t1 s1 s2, if_pos (show 0 ≤ (S.2.2.1 x).1 by omega), bI_s, if_pos (show iO 0 = 0 from rfl), sh_1 hx, t1, if_pos (show iO (S.2.2.1 x).1 = iO so by rw [g8]), sh_2 hx, t2, if_pos (ple (a := (y : Int)) (b := (S.2.2.1 x).2.1) (by unfold i32; omega) (by unfold i32; omega) (by omega)), sh_cc hx, if_pos rfl, ht, bI_s, if_pos (show iO 0 = 0 from rfl), hp_cc_1, if_pos rfl, x_refuse]; rfl
  · rw [if_neg g]
    apply cs_ref
    intro XI XA XP XC MI MA ML D Γ hV
    show f_X11_row sc (n + 40) 1 (iO sh) (iO so) (iO N) _ = _
    rw [e_X11_row]
    by_cases t1 : sh < 0
    · clear g; rw [if_pos (show iO sh < 0 from plt (a := sh) (b := 0) (by unfold i32; omega) (by unfold i32; omega) (by omega)), hp_cc_1, if_pos rfl, x_refuse]; rfl
    rw [if_neg (show ¬ (iO sh < 0) from nlt (a := sh) (b := 0) (by unfold i32; omega) (by unfold i32; omega) (by omega))]
    by_cases t2 : 3 < sh
    · clear g; rw [if_pos (show 4 ≤ iO sh from ple (a := 4) (b := sh) (by unfold i32; omega) (by unfold i32; omega) (by omega)), hp_cc_1, if_pos rfl, x_refuse]; rfl
    rw [if_neg (show ¬ (4 ≤ iO sh) from nle (a := 4) (b := sh) (by unfold i32; omega) (by unfold i32; omega) (by omega))]
    by_cases t3 : so < 0
    · clear g; rw [if_pos (show iO so < 0 from plt (a := so) (b := 0) (by unfold i32; omega) (by unfold i32; omega) (by omega)), hp_cc_1, if_pos rfl, x_refuse]; rfl
    rw [if_neg (show ¬ (iO so < 0) from nlt (a := so) (b := 0) (by unfold i32; omega) (by unfold i32; omega) (by omega))]
    by_cases t4 : 2 < so
    · clear g; rw [if_pos (show 2 < iO so from plt (a := 2) (b := so) (by unfold i32; omega) (by unfold i32; omega) (by omega)), hp_cc_1, if_pos rfl, x_refuse]; rfl
    rw [if_neg (show ¬ (2 < iO so) from nlt (a := 2) (b := so) (by unfold i32; omega) (by unfold i32; omega) (by omega))]
    by_cases t5 : N < 1
    · clear g; rw [if_pos (show iO N < 1 from plt (a := N) (b := 1) (by unfold i32; omega) (by unfold i32; omega) (by omega)), hp_cc_1, if_pos rfl, x_refuse]; rfl
    rw [if_neg (show ¬ (iO N < 1) from nlt (a := N) (b := 1) (by unfold i32; omega) (by unfold i32; omega) (by omega))]
    have t6 : 40 < N := by omega
    clear g
    rw [if_neg (show ¬ (iO N ≤ 40) from nle (a := N) (b := 40) (by unfold i32; omega) (by unfold i32; omega) (by omega)), hp_cc_1, if_pos rfl, x_refuse]; rfl
end CRW
