/-! even, points, ring: the class -/
section EVC
variable {sc : en_S} {n : Nat} {XI : Nat → Int32} {XA : Nat → Nat → Int32} {XP : Nat → Nat → Option Nat} {XC : Value} {MI : Nat → Int32} {MA : Nat → Nat → Int32} {ML : Nat → Nat → Int64} {D : en_H}
theorem x_evinit {p ci q : Nat} {a1 a3 a4 a5 : Int32} (hci : ci = 2 ∨ ci = 3 ∨ ci = 4) (h : en_nt D p = some (.inr (ci, [.int 0, .int 0, .null, .int 0, .int 0, .int 0]))) : f_X2_init sc (n + 2) (p + 51) a1 q a3 a4 a5 (hp XI XA XP XC MI MA ML D) = some (none, hp XI XA XP XC MI MA ML (D.set p (.inr (ci, [.int a1, .int 0, .ref q, .int a3, .int a4, .int a5])))) := by
  have hfd : en_fd [(2, 0), (3, 0), (4, 0)] ci = some 0 := by rcases hci with rfl | rfl | rfl <;> rfl
  have hfd2 : en_fd [(1, 0), (2, 0), (3, 0), (4, 0), (8, 0)] ci = some 0 := by rcases hci with rfl | rfl | rfl <;> rfl
  have hv : ∀ F : en_H → Option en_R, en_vs (fun i2 => en_bV (en_cl sc en_mt (n + 1) i2 [.ref (p + 51), .int a1] (hp XI XA XP XC MI MA ML D)) F) ci [(1, 29), (2, 29), (3, 29), (4, 29), (8, 29)] = en_bV (f_X5_init sc (n + 1) (p + 51) a1 (hp XI XA XP XC MI MA ML D)) F := by
    intro F
    rcases hci with rfl | rfl | rfl <;> rfl
  rw [e_X2_init, d_vt h, hv, e_X5_init, d_pf h hfd2 rfl, bV_s, d_pf (nt_set_eq h) hfd rfl, List.set_set, d_pf (nt_set_eq h) hfd rfl, List.set_set, d_pf (nt_set_eq h) hfd rfl, List.set_set, d_pf (nt_set_eq h) hfd rfl, List.set_set]
  rfl
theorem gr_app {D D' l : en_H} (h1 : D'.length = (D ++ l).length) (h2 : en_sz D' = en_sz (D ++ l)) (h3 : l.length ≤ 6) (h4 : en_sz l ≤ 400) : GR D D' := by
  have : en_sz (D ++ l) = en_sz D + en_sz l := by simp [en_sz]
  refine ⟨?_, ?_⟩
  · rw [h1, List.length_append]; omega
  · rw [h2, this]; omega
variable {S : ST5}
theorem cs_even (hS : OK5 S) {s u v : Int} (hs : i32 s) (hu : i32 u) (hv : i32 v) : CS S (p_even S s u v).2 (p_even S s u v).1 (fun z => f_X11_even sc (n + 40) 1 (iO s) (iO u) (iO v) z) := by
  obtain ⟨u1, u2⟩ := id hu
  obtain ⟨v1, v2⟩ := id hv
  have h8 := hS.1
  have h10 := hS.2.1
  unfold p_even
  cases hq : slq S s with
  | none =>
    apply cs_ref
    intro XI XA XP XC MI MA ML D Γ hV
    show f_X11_even sc (n + 40) 1 (iO s) (iO u) (iO v) _ = _
    rw [e_X11_even]
    simp (disch := (first | assumption | (unfold i32; omega) | (unfold i64; omega) | omega)) only [ki_0, ki_1, ki_2, ki_3, ki_4, ki_5, ki_6, ki_7, ki_8, ki_9, ki_10, ki_11, ki_12, ki_13, ki_14, ki_15, ki_20, ki_21, ki_30, ki_31, ki_40, ki_41, ki_50, ki_51, ki_60, ki_63, ki_64, ki_65, ki_100, ki_158, ki_160, ki_200, ki_212, ki_1000, ki_2000, ki_2001, ki_5000, ki_10000, ki_10001, ki_100000, ki_200000, ki_1000000, ki_2000000, ki_3000000, iO_neg, iO_add, iO_sub, iO_mul, kn_4, kn_8, kn_10, kn_20, kn_24, kn_40, kn_41, kn_50, kn_60, kn_158, kn_160, kn_200, kn_212, kn_2001, tn_lt, fn_lt, tn_le, fn_le, tn_eq, fn_eq, x_lt, x_le, x_eq, x_ix, x_nat, t_lt, f_lt, t_le, f_le, t_eq, f_eq, eq_self, and_self, true_and, and_true, false_and, and_false, if_true, if_false, Int.toNat_natCast, bI_s, bL_s, bA_s, bA_n, bV_s, mq_s, mq_n, en_le, bl_0, bl_1, u_eq, u_ne, w_eq, w_ne, v_eq, v_ne, hp_cc_1, hp_g_1_0, hp_g_1_1, hp_g_1_2, hp_g_1_3, hp_g_1_4, hp_g_1_5, hp_g_1_6, hp_g_1_7, hp_g_1_8, hp_p_1_8, hp_g_1_9, hp_p_1_9, hp_g_1_10, hp_p_1_10, hp_a_2, hp_n_2, hp_a_3, hp_n_3, hp_a_4, x_slopeAt0 hV hS hs hq, x_refuse]
  | some q =>
    obtain ⟨k, rfl, hk, hq2⟩ := slq_some hq
    have hSL := hS.2.2.1 q (List.mem_of_getElem? hq2)
    show CS S (if 1 ≤ v ∧ v ≤ 100 ∧ 0 ≤ u ∧ u < v then (if 10 ≤ S.2.1.length then (-1, sst S 2) else ((S.2.1.length : Int), addr S (1, (k : Int), 10001, evs q u v))) else (-1, sst S 1) : Int × ST5).2 (if 1 ≤ v ∧ v ≤ 100 ∧ 0 ≤ u ∧ u < v then (if 10 ≤ S.2.1.length then (-1, sst S 2) else ((S.2.1.length : Int), addr S (1, (k : Int), 10001, evs q u v))) else (-1, sst S 1) : Int × ST5).1 _
    by_cases g : 1 ≤ v ∧ v ≤ 100 ∧ 0 ≤ u ∧ u < v
    · rw [if_pos g]
      obtain ⟨g1, g2, g3, g4⟩ := g
      by_cases gl : 10 ≤ S.2.1.length
      · rw [if_pos gl]
        apply cs_ref
        intro XI XA XP XC MI MA ML D Γ hV
        have w2 := hV.2.1
        obtain ⟨pp, c1, c2⟩ := hV.2.2.2.2.1 k q hq2
        show f_X11_even sc (n + 40) 1 (iO (k : Int)) (iO u) (iO v) _ = _
        rw [e_X11_even]
        simp (disch := (first | assumption | (unfold i32; omega) | (unfold i64; omega) | omega)) only [ki_0, ki_1, ki_2, ki_3, ki_4, ki_5, ki_6, ki_7, ki_8, ki_9, ki_10, ki_11, ki_12, ki_13, ki_14, ki_15, ki_20, ki_21, ki_30, ki_31, ki_40, ki_41, ki_50, ki_51, ki_60, ki_63, ki_64, ki_65, ki_100, ki_158, ki_160, ki_200, ki_212, ki_1000, ki_2000, ki_2001, ki_5000, ki_10000, ki_10001, ki_100000, ki_200000, ki_1000000, ki_2000000, ki_3000000, iO_neg, iO_add, iO_sub, iO_mul, kn_4, kn_8, kn_10, kn_20, kn_24, kn_40, kn_41, kn_50, kn_60, kn_158, kn_160, kn_200, kn_212, kn_2001, tn_lt, fn_lt, tn_le, fn_le, tn_eq, fn_eq, x_lt, x_le, x_eq, x_ix, x_nat, t_lt, f_lt, t_le, f_le, t_eq, f_eq, eq_self, and_self, true_and, and_true, false_and, and_false, if_true, if_false, Int.toNat_natCast, bI_s, bL_s, bA_s, bA_n, bV_s, mq_s, mq_n, en_le, bl_0, bl_1, u_eq, u_ne, w_eq, w_ne, v_eq, v_ne, hp_cc_1, hp_g_1_0, hp_g_1_1, hp_g_1_2, hp_g_1_3, hp_g_1_4, hp_g_1_5, hp_g_1_6, hp_g_1_7, hp_g_1_8, hp_p_1_8, hp_g_1_9, hp_p_1_9, hp_g_1_10, hp_p_1_10, hp_a_2, hp_n_2, hp_a_3, hp_n_3, hp_a_4, x_slopeAt1 hV hS hq2 c1, w2, x_refuse]
      · rw [if_neg gl]
        intro XI XA XP XC MI MA ML D Γ hV
        have w2 := hV.2.1
        have hH := hV.2.2.2.2.2.2.2.2
        obtain ⟨pp, c1, c2⟩ := hV.2.2.2.2.1 k q hq2
        have hΓ : Γ D.length = none := by
          cases hc : Γ D.length with
          | none => rfl
          | some y =>
            obtain ⟨-, fs, y2⟩ := rc_cls (hH D.length y hc).2.2.2
            have := nt_lt y2
            omega
        have hfa : FA D (D ++ [.inr (2, [.int (iO (S.2.1.length : Nat)), .int (iO 0), .ref (pp + 51), .int (iO (k : Int)), .int (iO u), .int (iO v)])]) := FA.app D _
        have hnew : HV (va_up Γ D.length (some (1, S.2.1.length, 0, (k : Int), 10001, evs q u v, q))) (D ++ [.inr (2, [.int (iO (S.2.1.length : Nat)), .int (iO 0), .ref (pp + 51), .int (iO (k : Int)), .int (iO u), .int (iO v)])]) := by
          refine HV_new hH hfa hΓ (by show S.2.1.length ≤ 9; omega) (Nat.le_refl 10001) (fun i _ => evs_bd hSL g1 i) ?_
          exact Or.inr (Or.inl ⟨Or.inl rfl, pp, u, v, a1n0 D _, c2.fr hfa.fr, hSL, g1, g2, g3, g4, rfl, rfl, fun h => absurd (show (1 : Int) = 4 from h) (by decide)⟩)
        obtain ⟨XI', XP', D', Γ', f1, f2, f3, f4⟩ := x_keep (sc := sc) (n := n + 1) (XC := XC) (MI := MI) (MA := MA) (ML := ML) hV hS (by omega) hfa hnew (fun x y h => by rw [w_ne (fun e => by rw [e, hΓ] at h; cases h)]; exact h) hΓ (w_eq rfl) rfl (fun _ => by show S.1[((k : Int)).toNat]? = some q; rw [Int.toNat_natCast]; exact hq2)
        refine ⟨XI', XA, XP', XC, D', Γ', ?_, f2, gr_app f3 f4 (by simp) (by simp [en_sz, en_s0])⟩
        show f_X11_even sc (n + 40) 1 (iO (k : Int)) (iO u) (iO v) _ = _
        have hin : en_vt (hp XI XA XP XC MI MA ML (D ++ [.inr (2, en_df 2)])) (D.length + 51) [(2, 15), (3, 15), (4, 15)] (fun i21 => en_bV (en_cl sc en_mt (n + 39) i21 [.ref (D.length + 51), .int (iO (S.2.1.length : Nat)), .ref (pp + 51), .int (iO (k : Int)), .int (iO u), .int (iO v)] (hp XI XA XP XC MI MA ML (D ++ [.inr (2, en_df 2)]))) (fun z20 => en_cc z20 1 (fun c23 => if 10 = c23 then en_bI (f_X11_keep sc (n + 39) 1 (D.length + 51) z20) (fun x24 z22 => (some (some (Value.int x24), z22) : Option en_R)) else none))) = some (some (Value.int (iO (S.2.1.length : Nat))), hp XI' XA XP' XC MI MA ML D') := by
          rw [d_vt (a1n0 D _)]
          show en_bV (f_X2_init sc (n + 39) (D.length + 51) (iO (S.2.1.length : Nat)) (pp + 51) (iO (k : Int)) (iO u) (iO v) (hp XI XA XP XC MI MA ML (D ++ [.inr (2, en_df 2)]))) _ = _
          have hx : f_X2_init sc (n + 39) (D.length + 51) (iO (S.2.1.length : Nat)) (pp + 51) (iO (k : Int)) (iO u) (iO v) (hp XI XA XP XC MI MA ML (D ++ [.inr (2, en_df 2)])) = some (none, hp XI XA XP XC MI MA ML ((D ++ [.inr (2, en_df 2)] : en_H).set D.length (.inr (2, [.int (iO (S.2.1.length : Nat)), .int 0, .ref (pp + 51), .int (iO (k : Int)), .int (iO u), .int (iO v)])))) := x_evinit (n := n + 37) (Or.inl rfl) (a1n0 D _)
          rw [hx, a1s0, bV_s, hp_cc_1, if_pos rfl]
          show en_bI (f_X11_keep sc (n + 1 + 38) 1 (D.length + 51) (hp XI XA XP XC MI MA ML (D ++ [.inr (2, [.int (iO (S.2.1.length : Nat)), .int (iO 0), .ref (pp + 51), .int (iO (k : Int)), .int (iO u), .int (iO v)])]))) _ = _
          rw [f1]
          rfl
        rw [e_X11_even]
        have hsl := x_slopeAt1 (sc := sc) (n := n + 38) (XC := XC) (MI := MI) (MA := MA) (ML := ML) hV hS hq2 c1
        clear f1 f2 f3 f4 hnew hfa hΓ hV hH c2
        simp (disch := (first | assumption | (unfold i32; omega) | (unfold i64; omega) | omega)) only [ki_0, ki_1, ki_2, ki_3, ki_4, ki_5, ki_6, ki_7, ki_8, ki_9, ki_10, ki_11, ki_12, ki_13, ki_14, ki_15, ki_20, ki_21, ki_30, ki_31, ki_40, ki_41, ki_50, ki_51, ki_60, ki_63, ki_64, ki_65, ki_100, ki_158, ki_160, ki_200, ki_212, ki_1000, ki_2000, ki_2001, ki_5000, ki_10000, ki_10001, ki_100000, ki_200000, ki_1000000, ki_2000000, ki_3000000, iO_neg, iO_add, iO_sub, iO_mul, kn_4, kn_8, kn_10, kn_20, kn_24, kn_40, kn_41, kn_50, kn_60, kn_158, kn_160, kn_200, kn_212, kn_2001, tn_lt, fn_lt, tn_le, fn_le, tn_eq, fn_eq, x_lt, x_le, x_eq, x_ix, x_nat, t_lt, f_lt, t_le, f_le, t_eq, f_eq, eq_self, and_self, true_and, and_true, false_and, and_false, if_true, if_false, Int.toNat_natCast, bI_s, bL_s, bA_s, bA_n, bV_s, mq_s, mq_n, en_le, bl_0, bl_1, u_eq, u_ne, w_eq, w_ne, v_eq, v_ne, hp_cc_1, hp_g_1_0, hp_g_1_1, hp_g_1_2, hp_g_1_3, hp_g_1_4, hp_g_1_5, hp_g_1_6, hp_g_1_7, hp_g_1_8, hp_p_1_8, hp_g_1_9, hp_p_1_9, hp_g_1_10, hp_p_1_10, hp_a_2, hp_n_2, hp_a_3, hp_n_3, hp_a_4, hsl, w2, hp_nw, hin]
    · rw [if_neg g]
      apply cs_ref
      intro XI XA XP XC MI MA ML D Γ hV
      obtain ⟨pp, c1, c2⟩ := hV.2.2.2.2.1 k q hq2
      have hsl := x_slopeAt1 (sc := sc) (n := n + 38) (XC := XC) (MI := MI) (MA := MA) (ML := ML) hV hS hq2 c1
      show f_X11_even sc (n + 40) 1 (iO (k : Int)) (iO u) (iO v) _ = _
      rw [e_X11_even]
      by_cases t1 : v < 1
      · clear g; simp (disch := (first | assumption | (unfold i32; omega) | (unfold i64; omega) | omega)) only [ki_0, ki_1, ki_2, ki_3, ki_4, ki_5, ki_6, ki_7, ki_8, ki_9, ki_10, ki_11, ki_12, ki_13, ki_14, ki_15, ki_20, ki_21, ki_30, ki_31, ki_40, ki_41, ki_50, ki_51, ki_60, ki_63, ki_64, ki_65, ki_100, ki_158, ki_160, ki_200, ki_212, ki_1000, ki_2000, ki_2001, ki_5000, ki_10000, ki_10001, ki_100000, ki_200000, ki_1000000, ki_2000000, ki_3000000, iO_neg, iO_add, iO_sub, iO_mul, kn_4, kn_8, kn_10, kn_20, kn_24, kn_40, kn_41, kn_50, kn_60, kn_158, kn_160, kn_200, kn_212, kn_2001, tn_lt, fn_lt, tn_le, fn_le, tn_eq, fn_eq, x_lt, x_le, x_eq, x_ix, x_nat, t_lt, f_lt, t_le, f_le, t_eq, f_eq, eq_self, and_self, true_and, and_true, false_and, and_false, if_true, if_false, Int.toNat_natCast, bI_s, bL_s, bA_s, bA_n, bV_s, mq_s, mq_n, en_le, bl_0, bl_1, u_eq, u_ne, w_eq, w_ne, v_eq, v_ne, hp_cc_1, hp_g_1_0, hp_g_1_1, hp_g_1_2, hp_g_1_3, hp_g_1_4, hp_g_1_5, hp_g_1_6, hp_g_1_7, hp_g_1_8, hp_p_1_8, hp_g_1_9, hp_p_1_9, hp_g_1_10, hp_p_1_10, hp_a_2, hp_n_2, hp_a_3, hp_n_3, hp_a_4, hsl, x_refuse]
      by_cases t2 : 100 < v
      · clear g; simp (disch := (first | assumption | (unfold i32; omega) | (unfold i64; omega) | omega)) only [ki_0, ki_1, ki_2, ki_3, ki_4, ki_5, ki_6, ki_7, ki_8, ki_9, ki_10, ki_11, ki_12, ki_13, ki_14, ki_15, ki_20, ki_21, ki_30, ki_31, ki_40, ki_41, ki_50, ki_51, ki_60, ki_63, ki_64, ki_65, ki_100, ki_158, ki_160, ki_200, ki_212, ki_1000, ki_2000, ki_2001, ki_5000, ki_10000, ki_10001, ki_100000, ki_200000, ki_1000000, ki_2000000, ki_3000000, iO_neg, iO_add, iO_sub, iO_mul, kn_4, kn_8, kn_10, kn_20, kn_24, kn_40, kn_41, kn_50, kn_60, kn_158, kn_160, kn_200, kn_212, kn_2001, tn_lt, fn_lt, tn_le, fn_le, tn_eq, fn_eq, x_lt, x_le, x_eq, x_ix, x_nat, t_lt, f_lt, t_le, f_le, t_eq, f_eq, eq_self, and_self, true_and, and_true, false_and, and_false, if_true, if_false, Int.toNat_natCast, bI_s, bL_s, bA_s, bA_n, bV_s, mq_s, mq_n, en_le, bl_0, bl_1, u_eq, u_ne, w_eq, w_ne, v_eq, v_ne, hp_cc_1, hp_g_1_0, hp_g_1_1, hp_g_1_2, hp_g_1_3, hp_g_1_4, hp_g_1_5, hp_g_1_6, hp_g_1_7, hp_g_1_8, hp_p_1_8, hp_g_1_9, hp_p_1_9, hp_g_1_10, hp_p_1_10, hp_a_2, hp_n_2, hp_a_3, hp_n_3, hp_a_4, hsl, x_refuse]
      by_cases t3 : u < 0
      · clear g; simp (disch := (first | assumption | (unfold i32; omega) | (unfold i64; omega) | omega)) only [ki_0, ki_1, ki_2, ki_3, ki_4, ki_5, ki_6, ki_7, ki_8, ki_9, ki_10, ki_11, ki_12, ki_13, ki_14, ki_15, ki_20, ki_21, ki_30, ki_31, ki_40, ki_41, ki_50, ki_51, ki_60, ki_63, ki_64, ki_65, ki_100, ki_158, ki_160, ki_200, ki_212, ki_1000, ki_2000, ki_2001, ki_5000, ki_10000, ki_10001, ki_100000, ki_200000, ki_1000000, ki_2000000, ki_3000000, iO_neg, iO_add, iO_sub, iO_mul, kn_4, kn_8, kn_10, kn_20, kn_24, kn_40, kn_41, kn_50, kn_60, kn_158, kn_160, kn_200, kn_212, kn_2001, tn_lt, fn_lt, tn_le, fn_le, tn_eq, fn_eq, x_lt, x_le, x_eq, x_ix, x_nat, t_lt, f_lt, t_le, f_le, t_eq, f_eq, eq_self, and_self, true_and, and_true, false_and, and_false, if_true, if_false, Int.toNat_natCast, bI_s, bL_s, bA_s, bA_n, bV_s, mq_s, mq_n, en_le, bl_0, bl_1, u_eq, u_ne, w_eq, w_ne, v_eq, v_ne, hp_cc_1, hp_g_1_0, hp_g_1_1, hp_g_1_2, hp_g_1_3, hp_g_1_4, hp_g_1_5, hp_g_1_6, hp_g_1_7, hp_g_1_8, hp_p_1_8, hp_g_1_9, hp_p_1_9, hp_g_1_10, hp_p_1_10, hp_a_2, hp_n_2, hp_a_3, hp_n_3, hp_a_4, hsl, x_refuse]
      · have t4 : v ≤ u := by omega
        clear g; simp (disch := (first | assumption | (unfold i32; omega) | (unfold i64; omega) | omega)) only [ki_0, ki_1, ki_2, ki_3, ki_4, ki_5, ki_6, ki_7, ki_8, ki_9, ki_10, ki_11, ki_12, ki_13, ki_14, ki_15, ki_20, ki_21, ki_30, ki_31, ki_40, ki_41, ki_50, ki_51, ki_60, ki_63, ki_64, ki_65, ki_100, ki_158, ki_160, ki_200, ki_212, ki_1000, ki_2000, ki_2001, ki_5000, ki_10000, ki_10001, ki_100000, ki_200000, ki_1000000, ki_2000000, ki_3000000, iO_neg, iO_add, iO_sub, iO_mul, kn_4, kn_8, kn_10, kn_20, kn_24, kn_40, kn_41, kn_50, kn_60, kn_158, kn_160, kn_200, kn_212, kn_2001, tn_lt, fn_lt, tn_le, fn_le, tn_eq, fn_eq, x_lt, x_le, x_eq, x_ix, x_nat, t_lt, f_lt, t_le, f_le, t_eq, f_eq, eq_self, and_self, true_and, and_true, false_and, and_false, if_true, if_false, Int.toNat_natCast, bI_s, bL_s, bA_s, bA_n, bV_s, mq_s, mq_n, en_le, bl_0, bl_1, u_eq, u_ne, w_eq, w_ne, v_eq, v_ne, hp_cc_1, hp_g_1_0, hp_g_1_1, hp_g_1_2, hp_g_1_3, hp_g_1_4, hp_g_1_5, hp_g_1_6, hp_g_1_7, hp_g_1_8, hp_p_1_8, hp_g_1_9, hp_p_1_9, hp_g_1_10, hp_p_1_10, hp_a_2, hp_n_2, hp_a_3, hp_n_3, hp_a_4, hsl, x_refuse]
theorem cs_points (hS : OK5 S) {s : Int} (hs : i32 s) : CS S (p_points S s).2 (p_points S s).1 (fun z => f_X11_points sc (n + 40) 1 (iO s) z) := by
  have h8 := hS.1
  have h10 := hS.2.1
  unfold p_points
  cases hq : slq S s with
  | none =>
    apply cs_ref
    intro XI XA XP XC MI MA ML D Γ hV
    show f_X11_points sc (n + 40) 1 (iO s) _ = _
    rw [e_X11_points]
    simp (disch := (first | assumption | (unfold i32; omega) | (unfold i64; omega) | omega)) only [ki_0, ki_1, ki_2, ki_3, ki_4, ki_5, ki_6, ki_7, ki_8, ki_9, ki_10, ki_11, ki_12, ki_13, ki_14, ki_15, ki_20, ki_21, ki_30, ki_31, ki_40, ki_41, ki_50, ki_51, ki_60, ki_63, ki_64, ki_65, ki_100, ki_158, ki_160, ki_200, ki_212, ki_1000, ki_2000, ki_2001, ki_5000, ki_10000, ki_10001, ki_100000, ki_200000, ki_1000000, ki_2000000, ki_3000000, iO_neg, iO_add, iO_sub, iO_mul, kn_4, kn_8, kn_10, kn_20, kn_24, kn_40, kn_41, kn_50, kn_60, kn_158, kn_160, kn_200, kn_212, kn_2001, tn_lt, fn_lt, tn_le, fn_le, tn_eq, fn_eq, x_lt, x_le, x_eq, x_ix, x_nat, t_lt, f_lt, t_le, f_le, t_eq, f_eq, eq_self, and_self, true_and, and_true, false_and, and_false, if_true, if_false, Int.toNat_natCast, bI_s, bL_s, bA_s, bA_n, bV_s, mq_s, mq_n, en_le, bl_0, bl_1, u_eq, u_ne, w_eq, w_ne, v_eq, v_ne, hp_cc_1, hp_g_1_0, hp_g_1_1, hp_g_1_2, hp_g_1_3, hp_g_1_4, hp_g_1_5, hp_g_1_6, hp_g_1_7, hp_g_1_8, hp_p_1_8, hp_g_1_9, hp_p_1_9, hp_g_1_10, hp_p_1_10, hp_a_2, hp_n_2, hp_a_3, hp_n_3, hp_a_4, x_slopeAt0 hV hS hs hq, x_refuse]
  | some q =>
    obtain ⟨k, rfl, hk, hq2⟩ := slq_some hq
    have hSL := hS.2.2.1 q (List.mem_of_getElem? hq2)
    show CS S (if 10 ≤ S.2.1.length then (-1, sst S 2) else ((S.2.1.length : Int), addr S (4, (k : Int), 10001, evs q 0 1)) : Int × ST5).2 (if 10 ≤ S.2.1.length then (-1, sst S 2) else ((S.2.1.length : Int), addr S (4, (k : Int), 10001, evs q 0 1)) : Int × ST5).1 _
    by_cases gl : 10 ≤ S.2.1.length
    · rw [if_pos gl]
      apply cs_ref
      intro XI XA XP XC MI MA ML D Γ hV
      have w2 := hV.2.1
      obtain ⟨pp, c1, c2⟩ := hV.2.2.2.2.1 k q hq2
      show f_X11_points sc (n + 40) 1 (iO (k : Int)) _ = _
      rw [e_X11_points]
      simp (disch := (first | assumption | (unfold i32; omega) | (unfold i64; omega) | omega)) only [ki_0, ki_1, ki_2, ki_3, ki_4, ki_5, ki_6, ki_7, ki_8, ki_9, ki_10, ki_11, ki_12, ki_13, ki_14, ki_15, ki_20, ki_21, ki_30, ki_31, ki_40, ki_41, ki_50, ki_51, ki_60, ki_63, ki_64, ki_65, ki_100, ki_158, ki_160, ki_200, ki_212, ki_1000, ki_2000, ki_2001, ki_5000, ki_10000, ki_10001, ki_100000, ki_200000, ki_1000000, ki_2000000, ki_3000000, iO_neg, iO_add, iO_sub, iO_mul, kn_4, kn_8, kn_10, kn_20, kn_24, kn_40, kn_41, kn_50, kn_60, kn_158, kn_160, kn_200, kn_212, kn_2001, tn_lt, fn_lt, tn_le, fn_le, tn_eq, fn_eq, x_lt, x_le, x_eq, x_ix, x_nat, t_lt, f_lt, t_le, f_le, t_eq, f_eq, eq_self, and_self, true_and, and_true, false_and, and_false, if_true, if_false, Int.toNat_natCast, bI_s, bL_s, bA_s, bA_n, bV_s, mq_s, mq_n, en_le, bl_0, bl_1, u_eq, u_ne, w_eq, w_ne, v_eq, v_ne, hp_cc_1, hp_g_1_0, hp_g_1_1, hp_g_1_2, hp_g_1_3, hp_g_1_4, hp_g_1_5, hp_g_1_6, hp_g_1_7, hp_g_1_8, hp_p_1_8, hp_g_1_9, hp_p_1_9, hp_g_1_10, hp_p_1_10, hp_a_2, hp_n_2, hp_a_3, hp_n_3, hp_a_4, x_slopeAt1 hV hS hq2 c1, w2, x_refuse]
    · rw [if_neg gl]
      intro XI XA XP XC MI MA ML D Γ hV
      have w2 := hV.2.1
      have hH := hV.2.2.2.2.2.2.2.2
      obtain ⟨pp, c1, c2⟩ := hV.2.2.2.2.1 k q hq2
      have hΓ : Γ D.length = none := by
        cases hc : Γ D.length with
        | none => rfl
        | some y =>
          obtain ⟨-, fs, y2⟩ := rc_cls (hH D.length y hc).2.2.2
          have := nt_lt y2
          omega
      have hfa : FA D (D ++ [.inr (3, [.int (iO (S.2.1.length : Nat)), .int (iO 0), .ref (pp + 51), .int (iO (k : Int)), .int (iO 0), .int (iO 1)])]) := FA.app D _
      have hnew : HV (va_up Γ D.length (some (4, S.2.1.length, 0, (k : Int), 10001, evs q 0 1, q))) (D ++ [.inr (3, [.int (iO (S.2.1.length : Nat)), .int (iO 0), .ref (pp + 51), .int (iO (k : Int)), .int (iO 0), .int (iO 1)])]) := by
        refine HV_new hH hfa hΓ (by show S.2.1.length ≤ 9; omega) (Nat.le_refl 10001) (fun i _ => evs_bd hSL (by omega) i) ?_
        exact Or.inr (Or.inl ⟨Or.inr (Or.inr rfl), pp, 0, 1, a1n0 D _, c2.fr hfa.fr, hSL, by omega, by omega, by omega, by omega, rfl, rfl, fun _ => ⟨rfl, rfl⟩⟩)
      obtain ⟨XI', XP', D', Γ', f1, f2, f3, f4⟩ := x_keep (sc := sc) (n := n + 1) (XC := XC) (MI := MI) (MA := MA) (ML := ML) hV hS (by omega) hfa hnew (fun x y h => by rw [w_ne (fun e => by rw [e, hΓ] at h; cases h)]; exact h) hΓ (w_eq rfl) rfl (fun _ => by show S.1[((k : Int)).toNat]? = some q; rw [Int.toNat_natCast]; exact hq2)
      refine ⟨XI', XA, XP', XC, D', Γ', ?_, f2, gr_app f3 f4 (by simp) (by simp [en_sz, en_s0])⟩
      show f_X11_points sc (n + 40) 1 (iO (k : Int)) _ = _
      have hin : f_X3_init sc (n + 39) (D.length + 51) (iO (S.2.1.length : Nat)) (pp + 51) (iO (k : Int)) (hp XI XA XP XC MI MA ML (D ++ [.inr (3, en_df 3)])) = some (none, hp XI XA XP XC MI MA ML (D ++ [.inr (3, [.int (iO (S.2.1.length : Nat)), .int (iO 0), .ref (pp + 51), .int (iO (k : Int)), .int (iO 0), .int (iO 1)])])) := by
        rw [e_X3_init, d_vt (a1n0 D _)]
        show en_bV (f_X2_init sc (n + 38) (D.length + 51) (iO (S.2.1.length : Nat)) (pp + 51) (iO (k : Int)) (iO 0) (iO 1) (hp XI XA XP XC MI MA ML (D ++ [.inr (3, en_df 3)]))) _ = _
        have hx : f_X2_init sc (n + 38) (D.length + 51) (iO (S.2.1.length : Nat)) (pp + 51) (iO (k : Int)) (iO 0) (iO 1) (hp XI XA XP XC MI MA ML (D ++ [.inr (3, en_df 3)])) = some (none, hp XI XA XP XC MI MA ML ((D ++ [.inr (3, en_df 3)] : en_H).set D.length (.inr (3, [.int (iO (S.2.1.length : Nat)), .int 0, .ref (pp + 51), .int (iO (k : Int)), .int (iO 0), .int (iO 1)])))) := x_evinit (n := n + 36) (Or.inr (Or.inl rfl)) (a1n0 D _)
        rw [hx, a1s0]
        rfl
      have hcc : ∀ (g : Nat → Option en_R), en_cc (hp XI XA XP XC MI MA ML (D ++ [.inr (3, en_df 3)])) (D.length + 51) g = g 3 := fun g => d_cc (a1n0 D _) g
      rw [e_X11_points]
      have hsl := x_slopeAt1 (sc := sc) (n := n + 38) (XC := XC) (MI := MI) (MA := MA) (ML := ML) hV hS hq2 c1
      clear f2 f3 f4 hnew hfa hΓ hV hH c2
      simp (disch := (first | assumption | (unfold i32; omega) | (unfold i64; omega) | omega)) only [ki_0, ki_1, ki_2, ki_3, ki_4, ki_5, ki_6, ki_7, ki_8, ki_9, ki_10, ki_11, ki_12, ki_13, ki_14, ki_15, ki_20, ki_21, ki_30, ki_31, ki_40, ki_41, ki_50, ki_51, ki_60, ki_63, ki_64, ki_65, ki_100, ki_158, ki_160, ki_200, ki_212, ki_1000, ki_2000, ki_2001, ki_5000, ki_10000, ki_10001, ki_100000, ki_200000, ki_1000000, ki_2000000, ki_3000000, iO_neg, iO_add, iO_sub, iO_mul, kn_4, kn_8, kn_10, kn_20, kn_24, kn_40, kn_41, kn_50, kn_60, kn_158, kn_160, kn_200, kn_212, kn_2001, tn_lt, fn_lt, tn_le, fn_le, tn_eq, fn_eq, x_lt, x_le, x_eq, x_ix, x_nat, t_lt, f_lt, t_le, f_le, t_eq, f_eq, eq_self, and_self, true_and, and_true, false_and, and_false, if_true, if_false, Int.toNat_natCast, bI_s, bL_s, bA_s, bA_n, bV_s, mq_s, mq_n, en_le, bl_0, bl_1, u_eq, u_ne, w_eq, w_ne, v_eq, v_ne, hp_cc_1, hp_g_1_0, hp_g_1_1, hp_g_1_2, hp_g_1_3, hp_g_1_4, hp_g_1_5, hp_g_1_6, hp_g_1_7, hp_g_1_8, hp_p_1_8, hp_g_1_9, hp_p_1_9, hp_g_1_10, hp_p_1_10, hp_a_2, hp_n_2, hp_a_3, hp_n_3, hp_a_4, hsl, w2, hp_nw, hcc, hin, f1]
theorem cs_ring (hS : OK5 S) {k m : Int} (hk : i32 k) (hm : i32 m) : CS S (p_ring S k m).2 (p_ring S k m).1 (fun z => f_X11_ring sc (n + 40) 1 (iO k) (iO m) z) := by
  obtain ⟨k1, k2⟩ := id hk
  obtain ⟨m1, m2⟩ := id hm
  have h10 := hS.2.1
  unfold p_ring
  by_cases g : 1 ≤ m ∧ m ≤ 60 ∧ 1 ≤ k ∧ k ≤ m
  · rw [if_pos g]
    have hSL := sl_ring g
    obtain ⟨g1, g2, g3, g4⟩ := g
    by_cases gl : 10 ≤ S.2.1.length
    · rw [if_pos gl]
      apply cs_ref
      intro XI XA XP XC MI MA ML D Γ hV
      have w2 := hV.2.1
      show f_X11_ring sc (n + 40) 1 (iO k) (iO m) _ = _
      rw [e_X11_ring]
      simp (disch := (first | assumption | (unfold i32; omega) | (unfold i64; omega) | omega)) only [ki_0, ki_1, ki_2, ki_3, ki_4, ki_5, ki_6, ki_7, ki_8, ki_9, ki_10, ki_11, ki_12, ki_13, ki_14, ki_15, ki_20, ki_21, ki_30, ki_31, ki_40, ki_41, ki_50, ki_51, ki_60, ki_63, ki_64, ki_65, ki_100, ki_158, ki_160, ki_200, ki_212, ki_1000, ki_2000, ki_2001, ki_5000, ki_10000, ki_10001, ki_100000, ki_200000, ki_1000000, ki_2000000, ki_3000000, iO_neg, iO_add, iO_sub, iO_mul, kn_4, kn_8, kn_10, kn_20, kn_24, kn_40, kn_41, kn_50, kn_60, kn_158, kn_160, kn_200, kn_212, kn_2001, tn_lt, fn_lt, tn_le, fn_le, tn_eq, fn_eq, x_lt, x_le, x_eq, x_ix, x_nat, t_lt, f_lt, t_le, f_le, t_eq, f_eq, eq_self, and_self, true_and, and_true, false_and, and_false, if_true, if_false, Int.toNat_natCast, bI_s, bL_s, bA_s, bA_n, bV_s, mq_s, mq_n, en_le, bl_0, bl_1, u_eq, u_ne, w_eq, w_ne, v_eq, v_ne, hp_cc_1, hp_g_1_0, hp_g_1_1, hp_g_1_2, hp_g_1_3, hp_g_1_4, hp_g_1_5, hp_g_1_6, hp_g_1_7, hp_g_1_8, hp_p_1_8, hp_g_1_9, hp_p_1_9, hp_g_1_10, hp_p_1_10, hp_a_2, hp_n_2, hp_a_3, hp_n_3, hp_a_4, w2, x_refuse]
    · rw [if_neg gl]
      intro XI XA XP XC MI MA ML D Γ hV
      have w2 := hV.2.1
      have hH := hV.2.2.2.2.2.2.2.2
      have hΓ : Γ D.length = none := by
        cases hc : Γ D.length with
        | none => rfl
        | some y =>
          obtain ⟨-, fs, y2⟩ := rc_cls (hH D.length y hc).2.2.2
          have := nt_lt y2
          omega
      -- the slope behind the ring's own cell
      obtain ⟨o, q1, q3, e1, e2, e3⟩ := x_init (sc := sc) (n := n + 30) (XI := XI) (XA := XA) (XP := XP) (XC := XC) (MI := MI) (MA := MA) (ML := ML) (D := D ++ [.inr (4, en_df 4)]) (s := (k, 0, m, 2)) hSL (d0 := 2) (fun h => absurd rfl h)
      have hl1 : (D ++ [(.inr (4, en_df 4) : va_E)]).length = D.length + 1 := by simp
      rw [hl1] at e1 e2
      have n0 : en_nt ((D ++ [.inr (4, en_df 4)]) ++ [.inr (6, o), ia q1, ia q3]) D.length = some (.inr (4, en_df 4)) := FA.app _ _ _ _ (a1n0 D _)
      have hset : (((D ++ [.inr (4, en_df 4)]) ++ [.inr (6, o), ia q1, ia q3] : en_H)).set D.length (.inr (4, [.int (iO (S.2.1.length : Nat)), .int (iO 0), .ref (D.length + 1 + 51), .int (iO (-1)), .int (iO 0), .int (iO 1)])) = D ++ [.inr (4, [.int (iO (S.2.1.length : Nat)), .int (iO 0), .ref (D.length + 1 + 51), .int (iO (-1)), .int (iO 0), .int (iO 1)]), .inr (6, o), ia q1, ia q3] := by
        rw [List.append_assoc, List.set_append_right _ _ (by omega)]; simp
      have hsl2 := e2.set (c := .inr (4, [.int (iO (S.2.1.length : Nat)), .int (iO 0), .ref (D.length + 1 + 51), .int (iO (-1)), .int (iO 0), .int (iO 1)])) n0 (by decide)
      rw [hset] at hsl2
      have hfa : FA D (D ++ [.inr (4, [.int (iO (S.2.1.length : Nat)), .int (iO 0), .ref (D.length + 1 + 51), .int (iO (-1)), .int (iO 0), .int (iO 1)]), .inr (6, o), ia q1, ia q3]) := FA.app D _
      have hnew : HV (va_up Γ D.length (some (2, S.2.1.length, 0, -1, 10001, evs (k, 0, m, 2) 0 1, (k, 0, m, 2)))) (D ++ [.inr (4, [.int (iO (S.2.1.length : Nat)), .int (iO 0), .ref (D.length + 1 + 51), .int (iO (-1)), .int (iO 0), .int (iO 1)]), .inr (6, o), ia q1, ia q3]) := by
        refine HV_new hH hfa hΓ (by show S.2.1.length ≤ 9; omega) (Nat.le_refl 10001) (fun i _ => evs_bd (s := (k, 0, m, 2)) hSL (by omega) i) ?_
        refine Or.inr (Or.inl ⟨Or.inr (Or.inl rfl), D.length + 1, 0, 1, ?_, hsl2, hSL, by omega, by omega, by omega, by omega, rfl, rfl, fun _ => ⟨rfl, rfl⟩⟩)
        rw [en_nt_eq, List.getElem?_append_right (by omega)]
        simp [evc]
      obtain ⟨XI', XP', D', Γ', f1, f2, f3, f4⟩ := x_keep (sc := sc) (n := n + 1) (XC := XC) (MI := MI) (MA := MA) (ML := ML) hV hS (by omega) hfa hnew (fun x y h => by rw [w_ne (fun e => by rw [e, hΓ] at h; cases h)]; exact h) hΓ (w_eq rfl) rfl (fun h => by rcases h with h | h <;> exact absurd (show (2 : Int) = _ from h) (by decide))
      refine ⟨XI', XA, XP', XC, D', Γ', ?_, f2, gr_app f3 f4 (by simp) (by simp [en_sz, en_s0, e3])⟩
      show f_X11_ring sc (n + 40) 1 (iO k) (iO m) _ = _
      have hin : f_X4_init sc (n + 39) (D.length + 51) (iO (S.2.1.length : Nat)) (iO k) (iO m) (hp XI XA XP XC MI MA ML (D ++ [.inr (4, en_df 4)])) = some (none, hp XI XA XP XC MI MA ML (D ++ [.inr (4, [.int (iO (S.2.1.length : Nat)), .int (iO 0), .ref (D.length + 1 + 51), .int (iO (-1)), .int (iO 0), .int (iO 1)]), .inr (6, o), ia q1, ia q3])) := by
        rw [e_X4_init, hp_nw, hl1, d_cc (p := D.length + 1) (by rw [← hl1]; exact a1n0 _ _), if_pos rfl, iO_wide (by unfold i32; omega), iO_wide (by unfold i32; omega)]
        show en_bV (f_X7_init sc (n + 30 + 8) (D.length + 1 + 51) (lO k) (lO 0) (lO m) (lO 2) _) _ = _
        rw [e1, bV_s, d_vt n0]
        show en_bV (f_X2_init sc (n + 38) (D.length + 51) (iO (S.2.1.length : Nat)) (D.length + 1 + 51) (iO (-1)) (iO 0) (iO 1) _) _ = _
        have hx : f_X2_init sc (n + 38) (D.length + 51) (iO (S.2.1.length : Nat)) (D.length + 1 + 51) (iO (-1)) (iO 0) (iO 1) (hp XI XA XP XC MI MA ML ((D ++ [.inr (4, en_df 4)]) ++ [.inr (6, o), ia q1, ia q3])) = some (none, hp XI XA XP XC MI MA ML (((D ++ [.inr (4, en_df 4)]) ++ [.inr (6, o), ia q1, ia q3] : en_H).set D.length (.inr (4, [.int (iO (S.2.1.length : Nat)), .int 0, .ref (D.length + 1 + 51), .int (iO (-1)), .int (iO 0), .int (iO 1)])))) := x_evinit (n := n + 36) (Or.inr (Or.inr rfl)) n0
        rw [hx]
        show some (none, hp XI XA XP XC MI MA ML ((((D ++ [.inr (4, en_df 4)]) ++ [.inr (6, o), ia q1, ia q3] : en_H)).set D.length (.inr (4, [.int (iO (S.2.1.length : Nat)), .int (iO 0), .ref (D.length + 1 + 51), .int (iO (-1)), .int (iO 0), .int (iO 1)])))) = _
        rw [hset]
      have hcc : ∀ (g : Nat → Option en_R), en_cc (hp XI XA XP XC MI MA ML (D ++ [.inr (4, en_df 4)])) (D.length + 51) g = g 4 := fun g => d_cc (a1n0 D _) g
      rw [e_X11_ring]
      clear f2 f3 f4 hnew hfa hΓ hV hH e1 e2 hsl2 hset n0
      simp (disch := (first | assumption | (unfold i32; omega) | (unfold i64; omega) | omega)) only [ki_0, ki_1, ki_2, ki_3, ki_4, ki_5, ki_6, ki_7, ki_8, ki_9, ki_10, ki_11, ki_12, ki_13, ki_14, ki_15, ki_20, ki_21, ki_30, ki_31, ki_40, ki_41, ki_50, ki_51, ki_60, ki_63, ki_64, ki_65, ki_100, ki_158, ki_160, ki_200, ki_212, ki_1000, ki_2000, ki_2001, ki_5000, ki_10000, ki_10001, ki_100000, ki_200000, ki_1000000, ki_2000000, ki_3000000, iO_neg, iO_add, iO_sub, iO_mul, kn_4, kn_8, kn_10, kn_20, kn_24, kn_40, kn_41, kn_50, kn_60, kn_158, kn_160, kn_200, kn_212, kn_2001, tn_lt, fn_lt, tn_le, fn_le, tn_eq, fn_eq, x_lt, x_le, x_eq, x_ix, x_nat, t_lt, f_lt, t_le, f_le, t_eq, f_eq, eq_self, and_self, true_and, and_true, false_and, and_false, if_true, if_false, Int.toNat_natCast, bI_s, bL_s, bA_s, bA_n, bV_s, mq_s, mq_n, en_le, bl_0, bl_1, u_eq, u_ne, w_eq, w_ne, v_eq, v_ne, hp_cc_1, hp_g_1_0, hp_g_1_1, hp_g_1_2, hp_g_1_3, hp_g_1_4, hp_g_1_5, hp_g_1_6, hp_g_1_7, hp_g_1_8, hp_p_1_8, hp_g_1_9, hp_p_1_9, hp_g_1_10, hp_p_1_10, hp_a_2, hp_n_2, hp_a_3, hp_n_3, hp_a_4, w2, hp_nw, hcc, hin, f1]
  · rw [if_neg g]
    apply cs_ref
    intro XI XA XP XC MI MA ML D Γ hV
    show f_X11_ring sc (n + 40) 1 (iO k) (iO m) _ = _
    rw [e_X11_ring]
    by_cases t1 : m < 1
    · clear g; simp (disch := (first | assumption | (unfold i32; omega) | (unfold i64; omega) | omega)) only [ki_0, ki_1, ki_2, ki_3, ki_4, ki_5, ki_6, ki_7, ki_8, ki_9, ki_10, ki_11, ki_12, ki_13, ki_14, ki_15, ki_20, ki_21, ki_30, ki_31, ki_40, ki_41, ki_50, ki_51, ki_60, ki_63, ki_64, ki_65, ki_100, ki_158, ki_160, ki_200, ki_212, ki_1000, ki_2000, ki_2001, ki_5000, ki_10000, ki_10001, ki_100000, ki_200000, ki_1000000, ki_2000000, ki_3000000, iO_neg, iO_add, iO_sub, iO_mul, kn_4, kn_8, kn_10, kn_20, kn_24, kn_40, kn_41, kn_50, kn_60, kn_158, kn_160, kn_200, kn_212, kn_2001, tn_lt, fn_lt, tn_le, fn_le, tn_eq, fn_eq, x_lt, x_le, x_eq, x_ix, x_nat, t_lt, f_lt, t_le, f_le, t_eq, f_eq, eq_self, and_self, true_and, and_true, false_and, and_false, if_true, if_false, Int.toNat_natCast, bI_s, bL_s, bA_s, bA_n, bV_s, mq_s, mq_n, en_le, bl_0, bl_1, u_eq, u_ne, w_eq, w_ne, v_eq, v_ne, hp_cc_1, hp_g_1_0, hp_g_1_1, hp_g_1_2, hp_g_1_3, hp_g_1_4, hp_g_1_5, hp_g_1_6, hp_g_1_7, hp_g_1_8, hp_p_1_8, hp_g_1_9, hp_p_1_9, hp_g_1_10, hp_p_1_10, hp_a_2, hp_n_2, hp_a_3, hp_n_3, hp_a_4, x_refuse]
    by_cases t2 : 60 < m
    · clear g; simp (disch := (first | assumption | (unfold i32; omega) | (unfold i64; omega) | omega)) only [ki_0, ki_1, ki_2, ki_3, ki_4, ki_5, ki_6, ki_7, ki_8, ki_9, ki_10, ki_11, ki_12, ki_13, ki_14, ki_15, ki_20, ki_21, ki_30, ki_31, ki_40, ki_41, ki_50, ki_51, ki_60, ki_63, ki_64, ki_65, ki_100, ki_158, ki_160, ki_200, ki_212, ki_1000, ki_2000, ki_2001, ki_5000, ki_10000, ki_10001, ki_100000, ki_200000, ki_1000000, ki_2000000, ki_3000000, iO_neg, iO_add, iO_sub, iO_mul, kn_4, kn_8, kn_10, kn_20, kn_24, kn_40, kn_41, kn_50, kn_60, kn_158, kn_160, kn_200, kn_212, kn_2001, tn_lt, fn_lt, tn_le, fn_le, tn_eq, fn_eq, x_lt, x_le, x_eq, x_ix, x_nat, t_lt, f_lt, t_le, f_le, t_eq, f_eq, eq_self, and_self, true_and, and_true, false_and, and_false, if_true, if_false, Int.toNat_natCast, bI_s, bL_s, bA_s, bA_n, bV_s, mq_s, mq_n, en_le, bl_0, bl_1, u_eq, u_ne, w_eq, w_ne, v_eq, v_ne, hp_cc_1, hp_g_1_0, hp_g_1_1, hp_g_1_2, hp_g_1_3, hp_g_1_4, hp_g_1_5, hp_g_1_6, hp_g_1_7, hp_g_1_8, hp_p_1_8, hp_g_1_9, hp_p_1_9, hp_g_1_10, hp_p_1_10, hp_a_2, hp_n_2, hp_a_3, hp_n_3, hp_a_4, x_refuse]
    by_cases t3 : k < 1
    · clear g; simp (disch := (first | assumption | (unfold i32; omega) | (unfold i64; omega) | omega)) only [ki_0, ki_1, ki_2, ki_3, ki_4, ki_5, ki_6, ki_7, ki_8, ki_9, ki_10, ki_11, ki_12, ki_13, ki_14, ki_15, ki_20, ki_21, ki_30, ki_31, ki_40, ki_41, ki_50, ki_51, ki_60, ki_63, ki_64, ki_65, ki_100, ki_158, ki_160, ki_200, ki_212, ki_1000, ki_2000, ki_2001, ki_5000, ki_10000, ki_10001, ki_100000, ki_200000, ki_1000000, ki_2000000, ki_3000000, iO_neg, iO_add, iO_sub, iO_mul, kn_4, kn_8, kn_10, kn_20, kn_24, kn_40, kn_41, kn_50, kn_60, kn_158, kn_160, kn_200, kn_212, kn_2001, tn_lt, fn_lt, tn_le, fn_le, tn_eq, fn_eq, x_lt, x_le, x_eq, x_ix, x_nat, t_lt, f_lt, t_le, f_le, t_eq, f_eq, eq_self, and_self, true_and, and_true, false_and, and_false, if_true, if_false, Int.toNat_natCast, bI_s, bL_s, bA_s, bA_n, bV_s, mq_s, mq_n, en_le, bl_0, bl_1, u_eq, u_ne, w_eq, w_ne, v_eq, v_ne, hp_cc_1, hp_g_1_0, hp_g_1_1, hp_g_1_2, hp_g_1_3, hp_g_1_4, hp_g_1_5, hp_g_1_6, hp_g_1_7, hp_g_1_8, hp_p_1_8, hp_g_1_9, hp_p_1_9, hp_g_1_10, hp_p_1_10, hp_a_2, hp_n_2, hp_a_3, hp_n_3, hp_a_4, x_refuse]
    · have t4 : m < k := by omega
      clear g; simp (disch := (first | assumption | (unfold i32; omega) | (unfold i64; omega) | omega)) only [ki_0, ki_1, ki_2, ki_3, ki_4, ki_5, ki_6, ki_7, ki_8, ki_9, ki_10, ki_11, ki_12, ki_13, ki_14, ki_15, ki_20, ki_21, ki_30, ki_31, ki_40, ki_41, ki_50, ki_51, ki_60, ki_63, ki_64, ki_65, ki_100, ki_158, ki_160, ki_200, ki_212, ki_1000, ki_2000, ki_2001, ki_5000, ki_10000, ki_10001, ki_100000, ki_200000, ki_1000000, ki_2000000, ki_3000000, iO_neg, iO_add, iO_sub, iO_mul, kn_4, kn_8, kn_10, kn_20, kn_24, kn_40, kn_41, kn_50, kn_60, kn_158, kn_160, kn_200, kn_212, kn_2001, tn_lt, fn_lt, tn_le, fn_le, tn_eq, fn_eq, x_lt, x_le, x_eq, x_ix, x_nat, t_lt, f_lt, t_le, f_le, t_eq, f_eq, eq_self, and_self, true_and, and_true, false_and, and_false, if_true, if_false, Int.toNat_natCast, bI_s, bL_s, bA_s, bA_n, bV_s, mq_s, mq_n, en_le, bl_0, bl_1, u_eq, u_ne, w_eq, w_ne, v_eq, v_ne, hp_cc_1, hp_g_1_0, hp_g_1_1, hp_g_1_2, hp_g_1_3, hp_g_1_4, hp_g_1_5, hp_g_1_6, hp_g_1_7, hp_g_1_8, hp_p_1_8, hp_g_1_9, hp_p_1_9, hp_g_1_10, hp_p_1_10, hp_a_2, hp_n_2, hp_a_3, hp_n_3, hp_a_4, x_refuse]
end EVC
