/-! act: the model -/
def a_go (k : Int) (p x : Int32) : Int32 × List Int := if k = 0 then (x + p, [10]) else if k = 3 then (x - p + p, [40, 10]) else ((x + p) * iO 2, [20, 10])
def a_gapR (k : Int) (p x : Int32) : Int32 × List Int := ((a_go k p x).1 * iO 3, 11 :: (a_go k p x).2)
def a_gap (k : Int) (p x : Int32) : Int32 × List Int := if k = 2 then ((a_gapR k p (x + iO 1)).1, 30 :: (a_gapR k p (x + iO 1)).2) else if k = 4 then ((a_gapR k p x).1 + (x + p) * iO 2, 51 :: ((a_gapR k p x).2 ++ [20, 10])) else a_gapR k p x
def a_grow (k : Int) (m x : Int32) : Int32 × List Int := if k = 0 then (x - m, [12]) else if k = 3 then ((x - m) * iO 5, [41, 12]) else if k = 4 then ((x - m + iO 7) ^^^ iO 9, [50, 21, 12]) else (x - m + iO 7, [21, 12])
def a_tellR (k : Int) (p m x : Int32) : Int32 × List Int := ((a_gap k p x).1 ^^^ (a_grow k m x).1, 13 :: ((a_gap k p x).2 ++ (a_grow k m x).2))
def a_tell (k : Int) (p m x : Int32) : Int32 × List Int := if k = 2 then ((a_tellR k p m x).1 - (a_grow k m x).1, 31 :: ((a_tellR k p m x).2 ++ (a_grow k m x).2)) else a_tellR k p m x
/-- the model holds a trace -/
def TM (tr : List Int) (MI : Nat → Int32) (MA : Nat → Nat → Int32) : Prop := MI 3 = iO (tr.length : Nat) ∧ ∀ (i : Nat) (x : Int), tr[i]? = some x → MA 11 i = iO x
/-- the model's row r: kind, second step -/
def RI (r : Nat) (k : Int) (p : Int32) (MA : Nat → Nat → Int32) : Prop := r < 10 ∧ 0 ≤ k ∧ k ≤ 4 ∧ MA 4 r = iO k ∧ ∃ sz : Nat, sz ≤ 10001 ∧ MA 5 r = iO (sz : Nat) ∧ p = (if 1 < sz then MA 7 (10001 * r + 1) else iO 0)
/-- an act's body in the model: what it answers, which bodies run -/
def AM (r : Nat) (k : Int) (p : Int32) (F : en_H → Option en_R) (v : Int32) (l : List Int) : Prop := ∀ (XI : Nat → Int32) (XA : Nat → Nat → Int32) (XP : Nat → Nat → Option Nat) (XC : Value) (MI : Nat → Int32) (MA : Nat → Nat → Int32) (ML : Nat → Nat → Int64) (D : en_H) (tr : List Int), RI r k p MA → TM tr MI MA → tr.length + l.length ≤ 50 → ∃ MI' MA', F (hp XI XA XP XC MI MA ML D) = some (some (.int v), hp XI XA XP XC MI' MA' ML D) ∧ RI r k p MA' ∧ TM (tr ++ l) MI' MA' ∧ (∀ m, m ≠ 3 → MI' m = MI m) ∧ (∀ m, m ≠ 11 → MA' m = MA m)
section ACM
variable {sc : en_S} {n r : Nat} {k : Int} {p : Int32}
theorem am_ret {v : Int32} {F : en_H → Option en_R} (h : ∀ XI XA XP XC MI MA ML D, RI r k p MA → F (hp XI XA XP XC MI MA ML D) = some (some (.int v), hp XI XA XP XC MI MA ML D)) : AM r k p F v [] := by
  intro XI XA XP XC MI MA ML D tr hR hT hl
  exact ⟨MI, MA, h XI XA XP XC MI MA ML D hR, hR, by rw [List.append_nil]; exact hT, fun _ _ => rfl, fun _ _ => rfl⟩
theorem am_bind {F G : en_H → Option en_R} {H : Int32 → en_H → Option en_R} {v w : Int32} {l l2 : List Int} (hF : ∀ XI XA XP XC MI MA ML D, RI r k p MA → F (hp XI XA XP XC MI MA ML D) = en_bI (G (hp XI XA XP XC MI MA ML D)) H) (hG : AM r k p G v l) (hH : AM r k p (H v) w l2) : AM r k p F w (l ++ l2) := by
  intro XI XA XP XC MI MA ML D tr hR hT hl
  rw [List.length_append] at hl
  obtain ⟨MI1, MA1, g1, g2, g3, g4, g5⟩ := hG XI XA XP XC MI MA ML D tr hR hT (by omega)
  obtain ⟨MI2, MA2, h1, h2, h3, h4, h5⟩ := hH XI XA XP XC MI1 MA1 ML D (tr ++ l) g2 g3 (by rw [List.length_append]; omega)
  refine ⟨MI2, MA2, ?_, h2, by rw [← List.append_assoc]; exact h3, fun m hm => (h4 m hm).trans (g4 m hm), fun m hm => (h5 m hm).trans (g5 m hm)⟩
  rw [hF XI XA XP XC MI MA ML D hR, g1, bI_s, h1]
theorem am_map {F G : en_H → Option en_R} {f : Int32 → Int32} {v : Int32} {l : List Int} (hF : ∀ XI XA XP XC MI MA ML D, RI r k p MA → F (hp XI XA XP XC MI MA ML D) = en_bI (G (hp XI XA XP XC MI MA ML D)) (fun x z => some (some (.int (f x)), z))) (hG : AM r k p G v l) : AM r k p F (f v) l := by
  have := am_bind hF hG (am_ret (fun XI XA XP XC MI MA ML D _ => rfl))
  rwa [List.append_nil] at this
theorem am_ran {F G : en_H → Option en_R} {v : Int32} {b : Int} {l : List Int} (hF : ∀ XI XA XP XC MI MA ML D, RI r k p MA → F (hp XI XA XP XC MI MA ML D) = en_bV (f_X12_ran sc (n + 1) 26 (iO b) (hp XI XA XP XC MI MA ML D)) G) (hG : AM r k p G v l) : AM r k p F v (b :: l) := by
  intro XI XA XP XC MI MA ML D tr hR hT hl
  obtain ⟨t1, t2⟩ := id hT
  rw [List.length_cons] at hl
  have hran : f_X12_ran sc (n + 1) 26 (iO b) (hp XI XA XP XC MI MA ML D) = some (none, hp XI XA XP XC (va_up MI 3 (iO ((tr.length : Int) + 1))) (va_up MA 11 (upd (MA 11) tr.length (iO b))) ML D) := by
    rw [e_X12_ran]
    clear hF hG hR hT t2
    simp (disch := (first | assumption | (unfold i32; omega) | (unfold i64; omega) | omega)) only [ki_0, ki_1, ki_2, ki_3, ki_4, ki_5, ki_6, ki_7, ki_8, ki_9, ki_10, ki_11, ki_12, ki_13, ki_14, ki_15, ki_20, ki_21, ki_30, ki_31, ki_40, ki_41, ki_50, ki_51, ki_60, ki_63, ki_64, ki_65, ki_100, ki_158, ki_160, ki_200, ki_212, ki_1000, ki_2000, ki_2001, ki_5000, ki_10000, ki_10001, ki_100000, ki_200000, ki_1000000, ki_2000000, ki_3000000, iO_neg, iO_add, iO_sub, iO_mul, kn_4, kn_8, kn_10, kn_20, kn_24, kn_40, kn_41, kn_50, kn_60, kn_158, kn_160, kn_200, kn_212, kn_2001, tn_lt, fn_lt, tn_le, fn_le, tn_eq, fn_eq, x_lt, x_le, x_eq, x_ix, x_nat, t_lt, f_lt, t_le, f_le, t_eq, f_eq, eq_self, and_self, true_and, and_true, false_and, and_false, if_true, if_false, Int.toNat_natCast, bI_s, bL_s, bA_s, bA_n, bV_s, mq_s, mq_n, en_le, bl_0, bl_1, u_eq, u_ne, w_eq, w_ne, v_eq, v_ne, hp_cc_26, hp_g_26_0, hp_p_26_0, hp_g_26_1, hp_p_26_1, hp_g_26_2, hp_p_26_2, hp_g_26_3, hp_g_26_4, hp_g_26_5, hp_g_26_6, hp_g_26_7, hp_g_26_8, hp_g_26_9, hp_g_26_10, hp_g_26_11, hp_g_26_12, hp_g_26_13, hp_g_26_14, hp_g_26_15, hp_p_26_15, hp_g_26_16, hp_g_26_17, hp_g_26_18, hp_p_26_18, hp_g_26_19, hp_p_26_19, hp_g_26_20, hp_g_26_21, hp_p_26_21, hp_g_26_22, hp_g_26_23, hp_g_26_24, hp_g_26_25, hp_g_26_26, hp_g_26_27, hp_g_26_28, hp_g_26_29, hp_g_26_30, hp_p_26_30, hp_g_26_31, hp_g_26_32, hp_p_26_32, hp_a_27, hp_s_27, hp_l_27, hp_a_28, hp_s_28, hp_l_28, hp_a_29, hp_s_29, hp_l_29, hp_a_30, hp_s_30, hp_l_30, hp_a_31, hp_s_31, hp_l_31, hp_a_32, hp_s_32, hp_l_32, hp_a_33, hp_s_33, hp_l_33, hp_a_34, hp_s_34, hp_l_34, hp_a_35, hp_s_35, hp_l_35, hp_a_36, hp_s_36, hp_l_36, hp_a_37, hp_s_37, hp_l_37, hp_a_38, hp_s_38, hp_l_38, hp_a_39, hp_s_39, hp_a_40, hp_s_40, hp_a_41, hp_s_41, hp_l_41, hp_a_42, hp_s_42, hp_l_42, hp_a_43, hp_s_43, hp_l_43, hp_a_44, hp_s_44, hp_l_44, hp_a_45, hp_s_45, hp_l_45, hp_a_46, hp_s_46, hp_l_46, hp_a_47, hp_s_47, hp_l_47, hp_a_48, hp_s_48, hp_l_48, hp_a_49, hp_s_49, hp_l_49, hp_a_50, hp_s_50, hp_l_50, t1]
  have hT2 : TM (tr ++ [b]) (va_up MI 3 (iO ((tr.length : Int) + 1))) (va_up MA 11 (upd (MA 11) tr.length (iO b))) := by
    refine ⟨?_, ?_⟩
    · show iO ((tr.length : Int) + 1) = iO ((tr ++ [b]).length : Nat)
      rw [List.length_append, List.length_singleton]; rfl
    · intro i x hx
      show upd (MA 11) tr.length (iO b) i = iO x
      rw [List.getElem?_append] at hx
      split at hx
      · rw [u_ne (by omega)]; exact t2 i x hx
      · have hs2 : i = tr.length := by
          have := (List.getElem?_eq_some_iff.mp hx).1
          simp at this
          omega
        subst hs2
        simp at hx
        subst hx
        rw [u_eq rfl]
  have hR2 : RI r k p (va_up MA 11 (upd (MA 11) tr.length (iO b))) := hR
  obtain ⟨MI2, MA2, h1, h2, h3, h4, h5⟩ := hG XI XA XP XC _ _ ML D (tr ++ [b]) hR2 hT2 (by rw [List.length_append, List.length_singleton]; omega)
  refine ⟨MI2, MA2, ?_, h2, by rw [List.append_assoc] at h3; exact h3, fun m hm => by rw [h4 m hm, w_ne hm], fun m hm => by rw [h5 m hm, w_ne hm]⟩
  rw [hF XI XA XP XC MI MA ML D hR, hran, bV_s, h1]
theorem am_one : AM r k p (fun z => f_X12_stepOne sc (n + 1) 26 (iO (r : Nat)) z) p [] := by
  apply am_ret
  intro XI XA XP XC MI MA ML D hR
  obtain ⟨r1, k1, k2, k3, sz, s1, s2, s3⟩ := hR
  show f_X12_stepOne sc (n + 1) 26 (iO (r : Nat)) _ = _
  rw [e_X12_stepOne]
  by_cases g : 1 < sz
  · rw [if_pos g] at s3
    have e1 : (10001 * (r : Int) + 1).toNat = 10001 * r + 1 := by omega
    rw [s3]
    clear s3
    simp (disch := (first | assumption | (unfold i32; omega) | (unfold i64; omega) | omega)) only [ki_0, ki_1, ki_2, ki_3, ki_4, ki_5, ki_6, ki_7, ki_8, ki_9, ki_10, ki_11, ki_12, ki_13, ki_14, ki_15, ki_20, ki_21, ki_30, ki_31, ki_40, ki_41, ki_50, ki_51, ki_60, ki_63, ki_64, ki_65, ki_100, ki_158, ki_160, ki_200, ki_212, ki_1000, ki_2000, ki_2001, ki_5000, ki_10000, ki_10001, ki_100000, ki_200000, ki_1000000, ki_2000000, ki_3000000, iO_neg, iO_add, iO_sub, iO_mul, kn_4, kn_8, kn_10, kn_20, kn_24, kn_40, kn_41, kn_50, kn_60, kn_158, kn_160, kn_200, kn_212, kn_2001, tn_lt, fn_lt, tn_le, fn_le, tn_eq, fn_eq, x_lt, x_le, x_eq, x_ix, x_nat, t_lt, f_lt, t_le, f_le, t_eq, f_eq, eq_self, and_self, true_and, and_true, false_and, and_false, if_true, if_false, Int.toNat_natCast, bI_s, bL_s, bA_s, bA_n, bV_s, mq_s, mq_n, en_le, bl_0, bl_1, u_eq, u_ne, w_eq, w_ne, v_eq, v_ne, hp_cc_26, hp_g_26_0, hp_p_26_0, hp_g_26_1, hp_p_26_1, hp_g_26_2, hp_p_26_2, hp_g_26_3, hp_g_26_4, hp_g_26_5, hp_g_26_6, hp_g_26_7, hp_g_26_8, hp_g_26_9, hp_g_26_10, hp_g_26_11, hp_g_26_12, hp_g_26_13, hp_g_26_14, hp_g_26_15, hp_p_26_15, hp_g_26_16, hp_g_26_17, hp_g_26_18, hp_p_26_18, hp_g_26_19, hp_p_26_19, hp_g_26_20, hp_g_26_21, hp_p_26_21, hp_g_26_22, hp_g_26_23, hp_g_26_24, hp_g_26_25, hp_g_26_26, hp_g_26_27, hp_g_26_28, hp_g_26_29, hp_g_26_30, hp_p_26_30, hp_g_26_31, hp_g_26_32, hp_p_26_32, hp_a_27, hp_s_27, hp_l_27, hp_a_28, hp_s_28, hp_l_28, hp_a_29, hp_s_29, hp_l_29, hp_a_30, hp_s_30, hp_l_30, hp_a_31, hp_s_31, hp_l_31, hp_a_32, hp_s_32, hp_l_32, hp_a_33, hp_s_33, hp_l_33, hp_a_34, hp_s_34, hp_l_34, hp_a_35, hp_s_35, hp_l_35, hp_a_36, hp_s_36, hp_l_36, hp_a_37, hp_s_37, hp_l_37, hp_a_38, hp_s_38, hp_l_38, hp_a_39, hp_s_39, hp_a_40, hp_s_40, hp_a_41, hp_s_41, hp_l_41, hp_a_42, hp_s_42, hp_l_42, hp_a_43, hp_s_43, hp_l_43, hp_a_44, hp_s_44, hp_l_44, hp_a_45, hp_s_45, hp_l_45, hp_a_46, hp_s_46, hp_l_46, hp_a_47, hp_s_47, hp_l_47, hp_a_48, hp_s_48, hp_l_48, hp_a_49, hp_s_49, hp_l_49, hp_a_50, hp_s_50, hp_l_50, s2, e1]
  · rw [if_neg g] at s3
    rw [s3]
    clear s3
    simp (disch := (first | assumption | (unfold i32; omega) | (unfold i64; omega) | omega)) only [ki_0, ki_1, ki_2, ki_3, ki_4, ki_5, ki_6, ki_7, ki_8, ki_9, ki_10, ki_11, ki_12, ki_13, ki_14, ki_15, ki_20, ki_21, ki_30, ki_31, ki_40, ki_41, ki_50, ki_51, ki_60, ki_63, ki_64, ki_65, ki_100, ki_158, ki_160, ki_200, ki_212, ki_1000, ki_2000, ki_2001, ki_5000, ki_10000, ki_10001, ki_100000, ki_200000, ki_1000000, ki_2000000, ki_3000000, iO_neg, iO_add, iO_sub, iO_mul, kn_4, kn_8, kn_10, kn_20, kn_24, kn_40, kn_41, kn_50, kn_60, kn_158, kn_160, kn_200, kn_212, kn_2001, tn_lt, fn_lt, tn_le, fn_le, tn_eq, fn_eq, x_lt, x_le, x_eq, x_ix, x_nat, t_lt, f_lt, t_le, f_le, t_eq, f_eq, eq_self, and_self, true_and, and_true, false_and, and_false, if_true, if_false, Int.toNat_natCast, bI_s, bL_s, bA_s, bA_n, bV_s, mq_s, mq_n, en_le, bl_0, bl_1, u_eq, u_ne, w_eq, w_ne, v_eq, v_ne, hp_cc_26, hp_g_26_0, hp_p_26_0, hp_g_26_1, hp_p_26_1, hp_g_26_2, hp_p_26_2, hp_g_26_3, hp_g_26_4, hp_g_26_5, hp_g_26_6, hp_g_26_7, hp_g_26_8, hp_g_26_9, hp_g_26_10, hp_g_26_11, hp_g_26_12, hp_g_26_13, hp_g_26_14, hp_g_26_15, hp_p_26_15, hp_g_26_16, hp_g_26_17, hp_g_26_18, hp_p_26_18, hp_g_26_19, hp_p_26_19, hp_g_26_20, hp_g_26_21, hp_p_26_21, hp_g_26_22, hp_g_26_23, hp_g_26_24, hp_g_26_25, hp_g_26_26, hp_g_26_27, hp_g_26_28, hp_g_26_29, hp_g_26_30, hp_p_26_30, hp_g_26_31, hp_g_26_32, hp_p_26_32, hp_a_27, hp_s_27, hp_l_27, hp_a_28, hp_s_28, hp_l_28, hp_a_29, hp_s_29, hp_l_29, hp_a_30, hp_s_30, hp_l_30, hp_a_31, hp_s_31, hp_l_31, hp_a_32, hp_s_32, hp_l_32, hp_a_33, hp_s_33, hp_l_33, hp_a_34, hp_s_34, hp_l_34, hp_a_35, hp_s_35, hp_l_35, hp_a_36, hp_s_36, hp_l_36, hp_a_37, hp_s_37, hp_l_37, hp_a_38, hp_s_38, hp_l_38, hp_a_39, hp_s_39, hp_a_40, hp_s_40, hp_a_41, hp_s_41, hp_l_41, hp_a_42, hp_s_42, hp_l_42, hp_a_43, hp_s_43, hp_l_43, hp_a_44, hp_s_44, hp_l_44, hp_a_45, hp_s_45, hp_l_45, hp_a_46, hp_s_46, hp_l_46, hp_a_47, hp_s_47, hp_l_47, hp_a_48, hp_s_48, hp_l_48, hp_a_49, hp_s_49, hp_l_49, hp_a_50, hp_s_50, hp_l_50, s2]
theorem am_goRow (x : Int32) : AM r k p (fun z => f_X12_goRow sc (n + 2) 26 (iO (r : Nat)) x z) (x + p) [10] := by
  refine am_ran (sc := sc) (n := n) (b := 10) (G := fun z1 => en_cc z1 26 (fun c4 => if 11 = c4 then en_bI (f_X12_stepOne sc (n + 1) 26 (iO (r : Nat)) z1) (fun x5 z3 => some (some (.int (x + x5)), z3)) else none)) (fun XI XA XP XC MI MA ML D _ => by show f_X12_goRow sc (n + 2) 26 (iO (r : Nat)) x _ = _; rw [e_X12_goRow, hp_cc_26, if_pos rfl]; rfl) ?_
  exact am_map (f := fun y => x + y) (fun XI XA XP XC MI MA ML D _ => by rw [hp_cc_26, if_pos rfl]) (am_one (sc := sc) (n := n))
theorem am_goEven (x : Int32) : AM r k p (fun z => f_X12_goEven sc (n + 3) 26 (iO (r : Nat)) x z) ((x + p) * iO 2) [20, 10] := by
  refine am_ran (sc := sc) (n := n + 1) (b := 20) (G := fun z1 => en_cc z1 26 (fun c4 => if 11 = c4 then en_bI (f_X12_goRow sc (n + 2) 26 (iO (r : Nat)) x z1) (fun x5 z3 => some (some (.int (x5 * iO 2)), z3)) else none)) (fun XI XA XP XC MI MA ML D _ => by show f_X12_goEven sc (n + 3) 26 (iO (r : Nat)) x _ = _; rw [e_X12_goEven, hp_cc_26, if_pos rfl]; rfl) ?_
  exact am_map (f := fun y => y * iO 2) (fun XI XA XP XC MI MA ML D _ => by rw [hp_cc_26, if_pos rfl]) (am_goRow x)
theorem am_pass {F G : en_H → Option en_R} {v : Int32} {l : List Int} (hF : ∀ XI XA XP XC MI MA ML D, RI r k p MA → F (hp XI XA XP XC MI MA ML D) = en_bI (G (hp XI XA XP XC MI MA ML D)) (fun x z => some (some (.int x), z))) (hG : AM r k p G v l) : AM r k p F v l := am_map (f := fun y => y) hF hG
/-- the kind is looked up -/
theorem kd {XI : Nat → Int32} {XA : Nat → Nat → Int32} {XP : Nat → Nat → Option Nat} {XC : Value} {MI : Nat → Int32} {MA : Nat → Nat → Int32} {ML : Nat → Nat → Int64} {D : en_H} (hR : RI r k p MA) (f : Int32 → Option en_R) : en_gA (hp XI XA XP XC MI MA ML D) 26 [(11, 0)] 7 none (fun q => en_aI sc (hp XI XA XP XC MI MA ML D) q (iO (r : Nat)) f) = f (iO k) := by
  obtain ⟨r1, k1, k2, k3, -⟩ := hR
  rw [hp_g_26_7, hp_a_31, if_pos ((iO_ix (by unfold i32; omega)).mpr (by omega)), iO_nat (by omega) (by unfold i32; omega), Int.toNat_natCast, k3]
theorem am_go (x : Int32) : AM r k p (fun z => f_X12_go sc (n + 4) 26 (iO (r : Nat)) x z) (a_go k p x).1 (a_go k p x).2 := by
  unfold a_go
  by_cases g0 : k = 0
  · rw [if_pos g0]
    refine am_pass (G := fun z => f_X12_goRow sc (n + 3) 26 (iO (r : Nat)) x z) (fun XI XA XP XC MI MA ML D hR => ?_) (am_goRow (n := n + 1) x)
    show f_X12_go sc (n + 4) 26 (iO (r : Nat)) x _ = _
    rw [e_X12_go, kd hR, g0, if_pos (show iO 0 = 0 from rfl), hp_cc_26, if_pos rfl]
  rw [if_neg g0]
  by_cases g3 : k = 3
  · rw [if_pos g3]
    refine am_ran (sc := sc) (n := n + 2) (b := 40) (G := fun z8 => en_cc z8 26 (fun c11 => if 11 = c11 then en_bI (f_X12_stepOne sc (n + 3) 26 (iO (r : Nat)) z8) (fun x12 z10 => en_cc z10 26 (fun c14 => if 11 = c14 then en_bI (f_X12_goRow sc (n + 3) 26 (iO (r : Nat)) (x - x12) z10) (fun x15 z13 => some (some (.int x15), z13)) else none)) else none)) (fun XI XA XP XC MI MA ML D hR => ?_) ?_
    · show f_X12_go sc (n + 4) 26 (iO (r : Nat)) x _ = _
      rw [e_X12_go, kd hR, g3, if_neg (by decide), kd hR, g3, if_pos (show iO 3 = 3 from rfl), hp_cc_26, if_pos rfl]
      rfl
    · refine am_bind (l := []) (l2 := [10]) (fun XI XA XP XC MI MA ML D _ => by rw [hp_cc_26, if_pos rfl]) (am_one (sc := sc) (n := n + 2)) ?_
      exact am_pass (fun XI XA XP XC MI MA ML D _ => by rw [hp_cc_26, if_pos rfl]) (am_goRow (n := n + 1) (x - p))
  · rw [if_neg g3]
    refine am_pass (G := fun z => f_X12_goEven sc (n + 3) 26 (iO (r : Nat)) x z) (fun XI XA XP XC MI MA ML D hR => ?_) (am_goEven x)
    obtain ⟨r1, k1, k2, -⟩ := id hR
    show f_X12_go sc (n + 4) 26 (iO (r : Nat)) x _ = _
    rw [e_X12_go, kd hR, if_neg (by rw [ki_0, iO_eq (by unfold i32; omega) (by unfold i32; omega)]; exact g0), kd hR, if_neg (by rw [ki_3, iO_eq (by unfold i32; omega) (by unfold i32; omega)]; exact g3), hp_cc_26, if_pos rfl]
theorem am_gapRow (x : Int32) : AM r k p (fun z => f_X12_gapRow sc (n + 5) 26 (iO (r : Nat)) x z) (a_gapR k p x).1 (a_gapR k p x).2 := by
  refine am_ran (sc := sc) (n := n + 3) (b := 11) (G := fun z1 => en_cc z1 26 (fun c4 => if 11 = c4 then en_bI (f_X12_go sc (n + 4) 26 (iO (r : Nat)) x z1) (fun x5 z3 => some (some (.int (x5 * iO 3)), z3)) else none)) (fun XI XA XP XC MI MA ML D _ => by show f_X12_gapRow sc (n + 5) 26 (iO (r : Nat)) x _ = _; rw [e_X12_gapRow, hp_cc_26, if_pos rfl]; rfl) ?_
  exact am_map (f := fun y => y * iO 3) (fun XI XA XP XC MI MA ML D _ => by rw [hp_cc_26, if_pos rfl]) (am_go x)
theorem knb {c : Int} (hk : 0 ≤ k) (hk2 : k ≤ 4) (hc : 0 ≤ c) (hc2 : c ≤ 4) (h : k ≠ c) : ¬ (iO k = iO c) := by
  rw [iO_eq (by unfold i32; omega) (by unfold i32; omega)]
  exact h
theorem am_gap (x : Int32) : AM r k p (fun z => f_X12_gapNow sc (n + 6) 26 (iO (r : Nat)) x z) (a_gap k p x).1 (a_gap k p x).2 := by
  unfold a_gap
  by_cases g2 : k = 2
  · rw [if_pos g2]
    refine am_ran (sc := sc) (n := n + 4) (b := 30) (G := fun z3 => en_cc z3 26 (fun c6 => if 11 = c6 then en_bI (f_X12_gapRow sc (n + 5) 26 (iO (r : Nat)) (x + iO 1) z3) (fun x7 z5 => some (some (.int x7), z5)) else none)) (fun XI XA XP XC MI MA ML D hR => ?_) (am_pass (fun XI XA XP XC MI MA ML D _ => by rw [hp_cc_26, if_pos rfl]) (am_gapRow (x + iO 1)))
    show f_X12_gapNow sc (n + 6) 26 (iO (r : Nat)) x _ = _
    rw [e_X12_gapNow, kd hR, g2, if_pos (show iO 2 = 2 from rfl), hp_cc_26, if_pos rfl]
    rfl
  rw [if_neg g2]
  by_cases g4 : k = 4
  · rw [if_pos g4]
    refine am_ran (sc := sc) (n := n + 4) (b := 51) (G := fun z10 => en_cc z10 26 (fun c13 => if 11 = c13 then en_bI (f_X12_gapRow sc (n + 5) 26 (iO (r : Nat)) x z10) (fun x14 z12 => en_cc z12 26 (fun c16 => if 11 = c16 then en_bI (f_X12_goEven sc (n + 5) 26 (iO (r : Nat)) x z12) (fun x17 z15 => some (some (.int (x14 + x17)), z15)) else none)) else none)) (fun XI XA XP XC MI MA ML D hR => ?_) ?_
    · show f_X12_gapNow sc (n + 6) 26 (iO (r : Nat)) x _ = _
      rw [e_X12_gapNow, kd hR, g4, if_neg (by decide), kd hR, g4, if_pos (show iO 4 = 4 from rfl), hp_cc_26, if_pos rfl]
      rfl
    · refine am_bind (fun XI XA XP XC MI MA ML D _ => by rw [hp_cc_26, if_pos rfl]) (am_gapRow x) ?_
      exact am_map (f := fun y => (a_gapR k p x).1 + y) (fun XI XA XP XC MI MA ML D _ => by rw [hp_cc_26, if_pos rfl]) (am_goEven (n := n + 2) x)
  · rw [if_neg g4]
    refine am_pass (G := fun z => f_X12_gapRow sc (n + 5) 26 (iO (r : Nat)) x z) (fun XI XA XP XC MI MA ML D hR => ?_) (am_gapRow x)
    obtain ⟨r1, k1, k2, -⟩ := id hR
    show f_X12_gapNow sc (n + 6) 26 (iO (r : Nat)) x _ = _
    rw [e_X12_gapNow, kd hR, ki_2, if_neg (knb k1 k2 (by omega) (by omega) g2), kd hR, ki_4, if_neg (knb k1 k2 (by omega) (by omega) g4), hp_cc_26, if_pos rfl]
theorem am_growRow (x : Int32) : AM r k p (fun z => f_X12_growRow sc (n + 2) 26 (iO (r : Nat)) x z) (x - iO (r : Nat)) [12] := by
  refine am_ran (sc := sc) (n := n) (b := 12) (G := fun z1 => some (some (.int (x - iO (r : Nat))), z1)) (fun XI XA XP XC MI MA ML D _ => by show f_X12_growRow sc (n + 2) 26 (iO (r : Nat)) x _ = _; rw [e_X12_growRow, hp_cc_26, if_pos rfl]; rfl) (am_ret (fun XI XA XP XC MI MA ML D _ => rfl))
theorem am_growEven (x : Int32) : AM r k p (fun z => f_X12_growEven sc (n + 3) 26 (iO (r : Nat)) x z) (x - iO (r : Nat) + iO 7) [21, 12] := by
  refine am_ran (sc := sc) (n := n + 1) (b := 21) (G := fun z1 => en_cc z1 26 (fun c4 => if 11 = c4 then en_bI (f_X12_growRow sc (n + 2) 26 (iO (r : Nat)) x z1) (fun x5 z3 => some (some (.int (x5 + iO 7)), z3)) else none)) (fun XI XA XP XC MI MA ML D _ => by show f_X12_growEven sc (n + 3) 26 (iO (r : Nat)) x _ = _; rw [e_X12_growEven, hp_cc_26, if_pos rfl]; rfl) ?_
  exact am_map (f := fun y => y + iO 7) (fun XI XA XP XC MI MA ML D _ => by rw [hp_cc_26, if_pos rfl]) (am_growRow x)
theorem am_grow (x : Int32) : AM r k p (fun z => f_X12_grow sc (n + 4) 26 (iO (r : Nat)) x z) (a_grow k (iO (r : Nat)) x).1 (a_grow k (iO (r : Nat)) x).2 := by
  unfold a_grow
  by_cases g0 : k = 0
  · rw [if_pos g0]
    refine am_pass (G := fun z => f_X12_growRow sc (n + 3) 26 (iO (r : Nat)) x z) (fun XI XA XP XC MI MA ML D hR => ?_) (am_growRow (n := n + 1) x)
    show f_X12_grow sc (n + 4) 26 (iO (r : Nat)) x _ = _
    rw [e_X12_grow, kd hR, g0, if_pos (show iO 0 = 0 from rfl), hp_cc_26, if_pos rfl]
  rw [if_neg g0]
  by_cases g3 : k = 3
  · rw [if_pos g3]
    refine am_ran (sc := sc) (n := n + 2) (b := 41) (G := fun z1 => en_cc z1 26 (fun c4 => if 11 = c4 then en_bI (f_X12_growRow sc (n + 3) 26 (iO (r : Nat)) x z1) (fun x5 z3 => some (some (.int (x5 * iO 5)), z3)) else none)) (fun XI XA XP XC MI MA ML D hR => ?_) (am_map (f := fun y => y * iO 5) (fun XI XA XP XC MI MA ML D _ => by rw [hp_cc_26, if_pos rfl]) (am_growRow (n := n + 1) x))
    show f_X12_grow sc (n + 4) 26 (iO (r : Nat)) x _ = _
    rw [e_X12_grow, kd hR, g3, if_neg (by decide), kd hR, g3, if_neg (by decide), kd hR, g3, if_neg (by decide), kd hR, g3, if_pos (show iO 3 = 3 from rfl), hp_cc_26, if_pos rfl]
    rfl
  rw [if_neg g3]
  by_cases g4 : k = 4
  · rw [if_pos g4]
    refine am_ran (sc := sc) (n := n + 2) (b := 50) (G := fun z1 => en_cc z1 26 (fun c4 => if 11 = c4 then en_bI (f_X12_growEven sc (n + 3) 26 (iO (r : Nat)) x z1) (fun x5 z3 => some (some (.int (x5 ^^^ iO 9)), z3)) else none)) (fun XI XA XP XC MI MA ML D hR => ?_) (am_map (f := fun y => y ^^^ iO 9) (fun XI XA XP XC MI MA ML D _ => by rw [hp_cc_26, if_pos rfl]) (am_growEven x))
    show f_X12_grow sc (n + 4) 26 (iO (r : Nat)) x _ = _
    rw [e_X12_grow, kd hR, g4, if_neg (by decide), kd hR, g4, if_neg (by decide), kd hR, g4, if_neg (by decide), kd hR, g4, if_neg (by decide), hp_cc_26, if_pos rfl]
    rfl
  · rw [if_neg g4]
    refine am_pass (G := fun z => f_X12_growEven sc (n + 3) 26 (iO (r : Nat)) x z) (fun XI XA XP XC MI MA ML D hR => ?_) (am_growEven x)
    obtain ⟨r1, k1, k2, -⟩ := id hR
    show f_X12_grow sc (n + 4) 26 (iO (r : Nat)) x _ = _
    rw [e_X12_grow, kd hR, ki_0, if_neg (knb k1 k2 (by omega) (by omega) g0), kd hR]
    by_cases g1 : k = 1
    · rw [g1, if_pos (show iO 1 = 1 from rfl), hp_cc_26, if_pos rfl]
    · have g2 : k = 2 := by omega
      rw [g2, if_neg (by decide), kd hR, g2, if_pos (show iO 2 = 2 from rfl), hp_cc_26, if_pos rfl]
theorem am_tellRow (x : Int32) : AM r k p (fun z => f_X12_tellRow sc (n + 7) 26 (iO (r : Nat)) x z) (a_tellR k p (iO (r : Nat)) x).1 (a_tellR k p (iO (r : Nat)) x).2 := by
  unfold a_tellR
  refine am_ran (sc := sc) (n := n + 5) (b := 13) (G := fun z1 => en_cc z1 26 (fun c4 => if 11 = c4 then en_bI (f_X12_gapNow sc (n + 6) 26 (iO (r : Nat)) x z1) (fun x5 z3 => en_cc z3 26 (fun c7 => if 11 = c7 then en_bI (f_X12_grow sc (n + 6) 26 (iO (r : Nat)) x z3) (fun x8 z6 => some (some (.int (x5 ^^^ x8)), z6)) else none)) else none)) (fun XI XA XP XC MI MA ML D _ => by show f_X12_tellRow sc (n + 7) 26 (iO (r : Nat)) x _ = _; rw [e_X12_tellRow, hp_cc_26, if_pos rfl]; rfl) ?_
  refine am_bind (fun XI XA XP XC MI MA ML D _ => by rw [hp_cc_26, if_pos rfl]) (am_gap x) ?_
  exact am_map (f := fun y => (a_gap k p x).1 ^^^ y) (fun XI XA XP XC MI MA ML D _ => by rw [hp_cc_26, if_pos rfl]) (am_grow (n := n + 2) x)
theorem am_tell (x : Int32) : AM r k p (fun z => f_X12_tell sc (n + 8) 26 (iO (r : Nat)) x z) (a_tell k p (iO (r : Nat)) x).1 (a_tell k p (iO (r : Nat)) x).2 := by
  unfold a_tell
  by_cases g2 : k = 2
  · rw [if_pos g2]
    refine am_ran (sc := sc) (n := n + 6) (b := 31) (G := fun z1 => en_cc z1 26 (fun c4 => if 11 = c4 then en_bI (f_X12_tellRow sc (n + 7) 26 (iO (r : Nat)) x z1) (fun x5 z3 => en_cc z3 26 (fun c7 => if 11 = c7 then en_bI (f_X12_grow sc (n + 7) 26 (iO (r : Nat)) x z3) (fun x8 z6 => some (some (.int (x5 - x8)), z6)) else none)) else none)) (fun XI XA XP XC MI MA ML D hR => ?_) ?_
    · show f_X12_tell sc (n + 8) 26 (iO (r : Nat)) x _ = _
      rw [e_X12_tell, kd hR, g2, if_pos (show iO 2 = 2 from rfl), hp_cc_26, if_pos rfl]
      rfl
    · refine am_bind (fun XI XA XP XC MI MA ML D _ => by rw [hp_cc_26, if_pos rfl]) (am_tellRow x) ?_
      exact am_map (f := fun y => (a_tellR k p (iO (r : Nat)) x).1 - y) (fun XI XA XP XC MI MA ML D _ => by rw [hp_cc_26, if_pos rfl]) (am_grow (n := n + 3) x)
  · rw [if_neg g2]
    refine am_pass (G := fun z => f_X12_tellRow sc (n + 7) 26 (iO (r : Nat)) x z) (fun XI XA XP XC MI MA ML D hR => ?_) (am_tellRow x)
    obtain ⟨r1, k1, k2, -⟩ := id hR
    show f_X12_tell sc (n + 8) 26 (iO (r : Nat)) x _ = _
    rw [e_X12_tell, kd hR, ki_2, if_neg (knb k1 k2 (by omega) (by omega) g2), hp_cc_26, if_pos rfl]
end ACM
