/-! forge: both sides -/
def und (k q : Int) : Prop := q = 0 ∨ k = q ∨ (q = 1 ∧ (k = 2 ∨ k = 4))
theorem und_iff (k q : Int) : und k q ↔ (q = 0 ∨ k = q ∨ (q = 1 ∧ (k = 2 ∨ k = 4))) := Iff.rfl
noncomputable def p_forge (S : ST5) (w m k : Int) : Int × ST5 :=
  if 0 ≤ w ∧ w ≤ 6 ∧ -100 ≤ m ∧ m ≤ 100 ∧ -100 ≤ k ∧ k ≤ 100 then
    (if w = 0 then (match rowq S (k % 10) with
      | none => (-1, sst S 10)
      | some q => if (m % 5 = 0 ∨ q.1 = m % 5 ∨ (m % 5 = 1 ∧ (q.1 = 2 ∨ q.1 = 4))) then (q.1, sst S 0) else (-1, sst S 11))
    else if w = 1 then (if m < 0 then (-1, sst S 13) else (m, sst S 0))
    else if w = 2 then (if (S.2.2.1 (k % 4).toNat).1 = -1 then (-1, sst S 10) else if (S.2.2.1 (k % 4).toNat).1 ≠ 1 then (-1, sst S 11) else if 0 ≤ m ∧ m < (S.2.2.1 (k % 4).toNat).2.1 then ((S.2.2.1 (k % 4).toNat).2.2 m.toNat, sst S 0) else (-1, sst S 12))
    else if w = 3 then (if (S.2.2.1 (k % 4).toNat).1 = -1 then (-1, sst S 10) else if (S.2.2.1 (k % 4).toNat).1 ≠ 0 then (-1, sst S 11) else if 0 ≤ m ∧ 1 + m ≤ (S.2.2.1 (k % 4).toNat).2.1 ∧ m + m ≤ 6 then (ssum (S.2.2.1 (k % 4).toNat).2.2 1 m.toNat, sst S 0) else (-1, sst S 12))
    else if w = 4 then (match rowq S (k % 10) with
      | none => (0, sst S 0)
      | some q => if (q.1 = 1 ∨ q.1 = 2 ∨ q.1 = 4) then (q.1, sst S 0) else (-1, sst S 14))
    else if w = 5 then (if m = 0 then (-1, sst S 15) else ((1000 : Int).tdiv m, sst S 0))
    else (if m % 2 = 0 then (-1, sst S 10) else (1, sst S 0)))
  else (-1, sst S 1)
theorem ok_forge {S : ST5} (hS : OK5 S) {w m k : Int} : OK5 (p_forge S w m k).2 := by
  have key : ∀ (a j : Int), 0 ≤ j → j ≤ 15 → OK5 (a, sst S j).2 := fun a j h1 h2 => hS.st h1 h2
  unfold p_forge
  repeat' split
  all_goals exact key _ _ (by decide) (by decide)
section FRG
variable {sc : en_S} {n : Nat} {S : ST5}
theorem cs_set {a k : Int} {F : en_H → Option en_R} (h : ∀ (XI : Nat → Int32) (XA : Nat → Nat → Int32) (XP : Nat → Nat → Option Nat) (XC : Value) (MI : Nat → Int32) (MA : Nat → Nat → Int32) (ML : Nat → Nat → Int64) (D : en_H) (Γ : Nat → Option GD), CV S Γ XI XA XP D → F (hp XI XA XP XC MI MA ML D) = some (some (.int (iO a)), hp (va_up XI 2 (iO k)) XA XP XC MI MA ML D)) : CS S (sst S k) a F := by
  intro XI XA XP XC MI MA ML D Γ hV
  exact ⟨_, _, _, _, _, _, h XI XA XP XC MI MA ML D Γ hV, hV.st k, GR.rfl'⟩
theorem mc_set {a k : Int} {F : en_H → Option en_R} (h : ∀ (XI : Nat → Int32) (XA : Nat → Nat → Int32) (XP : Nat → Nat → Option Nat) (XC : Value) (MI : Nat → Int32) (MA : Nat → Nat → Int32) (ML : Nat → Nat → Int64) (D : en_H), MV S MI MA → F (hp XI XA XP XC MI MA ML D) = some (some (.int (iO a)), hp XI XA XP XC (va_up MI 2 (iO k)) MA ML D)) : MC S (sst S k) a F := by
  intro XI XA XP XC MI MA ML D hV hP
  exact ⟨_, _, _, h XI XA XP XC MI MA ML D hV, hV.st k, hP.st k⟩
theorem m_modulo {a b : Int} (ha : -100 ≤ a) (ha2 : a ≤ 100) (hb : 0 < b) (hb2 : b ≤ 100) {z : en_H} : f_X12_modulo sc (n + 1) (iO a) (iO b) z = some (some (.int (iO (a % b))), z) := by
  obtain ⟨t1, t2⟩ := tm_pos (a := a) hb
  obtain ⟨d1, d2⟩ := td_pos (a := a) hb
  have e0 := Int.emod_nonneg a (show b ≠ 0 by omega)
  have e1 := Int.emod_lt_of_pos a hb
  have hq : -100 ≤ a.tdiv b ∧ a.tdiv b ≤ 100 := by
    rcases Int.lt_or_le a 0 with g | g
    · rw [d2 g]
      have := ed_rng (a := -a) (b := b) (k := 100) hb (by omega) (by omega) (by omega)
      omega
    · rw [d1 g]
      have := ed_rng (a := a) (b := b) (k := 100) hb (by omega) (by omega) (by omega)
      omega
  have hd : iO a - iO a / iO b * iO b = iO (a - a.tdiv b * b) := by
    rw [iO_div (by unfold i32; omega) (by unfold i32; omega) (by unfold i32; omega), iO_mul, iO_sub]
  rw [e_X12_modulo, if_neg (fun q => by have := (iO_eq (a := b) (b := 0) (by unfold i32; omega) (by unfold i32; omega)).mp q; omega), hd, en_le]
  rcases Int.lt_or_le a 0 with g | g
  · rw [t2 g]
    have e2 := Int.emod_nonneg (-a) (show b ≠ 0 by omega)
    have e3 := Int.emod_lt_of_pos (-a) hb
    by_cases h0 : (-a) % b = 0
    · rw [h0, if_pos (show 0 ≤ iO (-0) from ple (a := 0) (b := -0) (by unfold i32; omega) (by unfold i32; omega) (by omega)), em_neg0 h0]
      rfl
    · rw [if_neg (show ¬ (0 ≤ iO (-((-a) % b))) from nle (a := 0) (b := -((-a) % b)) (by unfold i32; omega) (by unfold i32; omega) (by omega)), iO_add, em_neg hb h0, show -((-a) % b) + b = b - (-a) % b by omega]
  · rw [t1 g, if_pos (show 0 ≤ iO (a % b) from ple (a := 0) (b := a % b) (by unfold i32; omega) (by unfold i32; omega) (by omega))]
theorem m_isUnder {a b : Int} (ha : 0 ≤ a) (ha2 : a ≤ 4) (hb : 0 ≤ b) (hb2 : b ≤ 4) {z : en_H} : f_X12_isUnder sc (n + 1) (iO a) (iO b) z = some (some (.int (iO (if (b = 0 ∨ a = b ∨ (b = 1 ∧ (a = 2 ∨ a = 4))) then 1 else 0))), z) := by
  have key : ∀ a : Nat, a < 5 → ∀ b : Nat, b < 5 → (if iO (b : Int) = 0 then (1 : Int32) else if iO (a : Int) = iO (b : Int) then 1 else if iO (b : Int) = 1 then (if iO (a : Int) = 2 then 1 else if iO (a : Int) = 4 then 1 else 0) else 0) = iO (if ((b : Int) = 0 ∨ (a : Int) = (b : Int) ∨ ((b : Int) = 1 ∧ ((a : Int) = 2 ∨ (a : Int) = 4))) then 1 else 0) := by decide +kernel
  obtain ⟨x, rfl⟩ : ∃ x : Nat, a = x := ⟨a.toNat, by omega⟩
  obtain ⟨y, rfl⟩ : ∃ y : Nat, b = y := ⟨b.toNat, by omega⟩
  rw [← key x (by omega) y (by omega), e_X12_isUnder]
  repeat' split
  all_goals rfl
theorem m_forge_loop {XI : Nat → Int32} {XA : Nat → Nat → Int32} {XP : Nat → Nat → Option Nat} {XC : Value} {MI : Nat → Int32} {MA : Nat → Nat → Int32} {ML : Nat → Nat → Int64} {D : en_H} {k N : Nat} (hk : k < 4) (hN : N ≤ 3) {f : Nat → Int} (hc : ∀ i, i < 40 → MA 10 (40 * k + i) = iO (f i)) : ∀ (j i : Nat), i + j = N → b_X12_forge_20 sc (n + 1) 26 (iO (N : Int)) (iO (k : Int)) (iO (ssum f 1 i)) (iO ((i : Int) + 1)) (hp XI XA XP XC MI MA ML D) = some (some (.int (iO (ssum f 1 N))), hp XI XA XP XC (va_up MI 2 (iO 0)) MA ML D) := by
  intro j
  induction j with
  | zero =>
    intro i hi
    obtain rfl : i = N := by omega
    rw [eb_X12_forge_20]
    clear hc
    simp (disch := (first | assumption | (unfold i32; omega) | (unfold i64; omega) | omega)) only [↓reduceIte, ki_0, ki_1, ki_2, ki_3, ki_4, ki_5, ki_6, ki_7, ki_8, ki_9, ki_10, ki_11, ki_12, ki_13, ki_14, ki_15, ki_20, ki_21, ki_30, ki_31, ki_40, ki_41, ki_50, ki_51, ki_60, ki_63, ki_64, ki_65, ki_100, ki_158, ki_160, ki_200, ki_212, ki_1000, ki_2000, ki_2001, ki_5000, ki_10000, ki_10001, ki_100000, ki_200000, ki_1000000, ki_2000000, ki_3000000, iO_neg, iO_add, iO_sub, iO_mul, kn_4, kn_8, kn_10, kn_20, kn_24, kn_40, kn_41, kn_50, kn_60, kn_158, kn_160, kn_200, kn_212, kn_2001, tn_lt, fn_lt, tn_le, fn_le, tn_eq, fn_eq, x_lt, x_le, x_eq, x_ix, x_nat, t_lt, f_lt, t_le, f_le, t_eq, f_eq, eq_self, and_self, true_and, and_true, false_and, and_false, if_true, if_false, Int.toNat_natCast, bI_s, bL_s, bA_s, bA_n, bV_s, mq_s, mq_n, en_le, bl_0, bl_1, u_eq, u_ne, w_eq, w_ne, v_eq, v_ne, ↓hp_cc_26, ↓hp_g_26_0, ↓hp_p_26_0, ↓hp_g_26_1, ↓hp_p_26_1, ↓hp_g_26_2, ↓hp_p_26_2, ↓hp_g_26_3, ↓hp_g_26_4, ↓hp_g_26_5, ↓hp_g_26_6, ↓hp_g_26_7, ↓hp_g_26_8, ↓hp_g_26_9, ↓hp_g_26_10, ↓hp_g_26_11, ↓hp_g_26_12, ↓hp_g_26_13, ↓hp_g_26_14, ↓hp_g_26_15, ↓hp_p_26_15, ↓hp_g_26_16, ↓hp_g_26_17, ↓hp_g_26_18, ↓hp_p_26_18, ↓hp_g_26_19, ↓hp_p_26_19, ↓hp_g_26_20, ↓hp_g_26_21, ↓hp_p_26_21, ↓hp_g_26_22, ↓hp_g_26_23, ↓hp_g_26_24, ↓hp_g_26_25, ↓hp_g_26_26, ↓hp_g_26_27, ↓hp_g_26_28, ↓hp_g_26_29, ↓hp_g_26_30, ↓hp_p_26_30, ↓hp_g_26_31, ↓hp_g_26_32, ↓hp_p_26_32, ↓hp_a_27, ↓hp_s_27, ↓hp_l_27, ↓hp_a_28, ↓hp_s_28, ↓hp_l_28, ↓hp_a_29, ↓hp_s_29, ↓hp_l_29, ↓hp_a_30, ↓hp_s_30, ↓hp_l_30, ↓hp_a_31, ↓hp_s_31, ↓hp_l_31, ↓hp_a_32, ↓hp_s_32, ↓hp_l_32, ↓hp_a_33, ↓hp_s_33, ↓hp_l_33, ↓hp_a_34, ↓hp_s_34, ↓hp_l_34, ↓hp_a_35, ↓hp_s_35, ↓hp_l_35, ↓hp_a_36, ↓hp_s_36, ↓hp_l_36, ↓hp_a_37, ↓hp_s_37, ↓hp_l_37, ↓hp_a_38, ↓hp_s_38, ↓hp_l_38, ↓hp_a_39, ↓hp_s_39, ↓hp_a_40, ↓hp_s_40, ↓hp_a_41, ↓hp_s_41, ↓hp_l_41, ↓hp_a_42, ↓hp_s_42, ↓hp_l_42, ↓hp_a_43, ↓hp_s_43, ↓hp_l_43, ↓hp_a_44, ↓hp_s_44, ↓hp_l_44, ↓hp_a_45, ↓hp_s_45, ↓hp_l_45, ↓hp_a_46, ↓hp_s_46, ↓hp_l_46, ↓hp_a_47, ↓hp_s_47, ↓hp_l_47, ↓hp_a_48, ↓hp_s_48, ↓hp_l_48, ↓hp_a_49, ↓hp_s_49, ↓hp_l_49, ↓hp_a_50, ↓hp_s_50, ↓hp_l_50, m_done]
  | succ j ih =>
    intro i hi
    have h1 := hc (1 + i) (by omega)
    have e1 : (40 * (k : Int) + ((i : Int) + 1)).toNat = 40 * k + (1 + i) := by omega
    rw [← ih (i + 1) (by omega), eb_X12_forge_20]
    clear ih hc
    simp (disch := (first | assumption | (unfold i32; omega) | (unfold i64; omega) | omega)) only [↓reduceIte, ki_0, ki_1, ki_2, ki_3, ki_4, ki_5, ki_6, ki_7, ki_8, ki_9, ki_10, ki_11, ki_12, ki_13, ki_14, ki_15, ki_20, ki_21, ki_30, ki_31, ki_40, ki_41, ki_50, ki_51, ki_60, ki_63, ki_64, ki_65, ki_100, ki_158, ki_160, ki_200, ki_212, ki_1000, ki_2000, ki_2001, ki_5000, ki_10000, ki_10001, ki_100000, ki_200000, ki_1000000, ki_2000000, ki_3000000, iO_neg, iO_add, iO_sub, iO_mul, kn_4, kn_8, kn_10, kn_20, kn_24, kn_40, kn_41, kn_50, kn_60, kn_158, kn_160, kn_200, kn_212, kn_2001, tn_lt, fn_lt, tn_le, fn_le, tn_eq, fn_eq, x_lt, x_le, x_eq, x_ix, x_nat, t_lt, f_lt, t_le, f_le, t_eq, f_eq, eq_self, and_self, true_and, and_true, false_and, and_false, if_true, if_false, Int.toNat_natCast, bI_s, bL_s, bA_s, bA_n, bV_s, mq_s, mq_n, en_le, bl_0, bl_1, u_eq, u_ne, w_eq, w_ne, v_eq, v_ne, ↓hp_cc_26, ↓hp_g_26_0, ↓hp_p_26_0, ↓hp_g_26_1, ↓hp_p_26_1, ↓hp_g_26_2, ↓hp_p_26_2, ↓hp_g_26_3, ↓hp_g_26_4, ↓hp_g_26_5, ↓hp_g_26_6, ↓hp_g_26_7, ↓hp_g_26_8, ↓hp_g_26_9, ↓hp_g_26_10, ↓hp_g_26_11, ↓hp_g_26_12, ↓hp_g_26_13, ↓hp_g_26_14, ↓hp_g_26_15, ↓hp_p_26_15, ↓hp_g_26_16, ↓hp_g_26_17, ↓hp_g_26_18, ↓hp_p_26_18, ↓hp_g_26_19, ↓hp_p_26_19, ↓hp_g_26_20, ↓hp_g_26_21, ↓hp_p_26_21, ↓hp_g_26_22, ↓hp_g_26_23, ↓hp_g_26_24, ↓hp_g_26_25, ↓hp_g_26_26, ↓hp_g_26_27, ↓hp_g_26_28, ↓hp_g_26_29, ↓hp_g_26_30, ↓hp_p_26_30, ↓hp_g_26_31, ↓hp_g_26_32, ↓hp_p_26_32, ↓hp_a_27, ↓hp_s_27, ↓hp_l_27, ↓hp_a_28, ↓hp_s_28, ↓hp_l_28, ↓hp_a_29, ↓hp_s_29, ↓hp_l_29, ↓hp_a_30, ↓hp_s_30, ↓hp_l_30, ↓hp_a_31, ↓hp_s_31, ↓hp_l_31, ↓hp_a_32, ↓hp_s_32, ↓hp_l_32, ↓hp_a_33, ↓hp_s_33, ↓hp_l_33, ↓hp_a_34, ↓hp_s_34, ↓hp_l_34, ↓hp_a_35, ↓hp_s_35, ↓hp_l_35, ↓hp_a_36, ↓hp_s_36, ↓hp_l_36, ↓hp_a_37, ↓hp_s_37, ↓hp_l_37, ↓hp_a_38, ↓hp_s_38, ↓hp_l_38, ↓hp_a_39, ↓hp_s_39, ↓hp_a_40, ↓hp_s_40, ↓hp_a_41, ↓hp_s_41, ↓hp_l_41, ↓hp_a_42, ↓hp_s_42, ↓hp_l_42, ↓hp_a_43, ↓hp_s_43, ↓hp_l_43, ↓hp_a_44, ↓hp_s_44, ↓hp_l_44, ↓hp_a_45, ↓hp_s_45, ↓hp_l_45, ↓hp_a_46, ↓hp_s_46, ↓hp_l_46, ↓hp_a_47, ↓hp_s_47, ↓hp_l_47, ↓hp_a_48, ↓hp_s_48, ↓hp_l_48, ↓hp_a_49, ↓hp_s_49, ↓hp_l_49, ↓hp_a_50, ↓hp_s_50, ↓hp_l_50, e1, h1]
    try rfl
theorem x_forge_loop {XI : Nat → Int32} {XA : Nat → Nat → Int32} {XP : Nat → Nat → Option Nat} {XC : Value} {MI : Nat → Int32} {MA : Nat → Nat → Int32} {ML : Nat → Nat → Int64} {D : en_H} {k N : Nat} (hk : k < 4) (hN : N ≤ 3) {f : Nat → Int} (hc : ∀ t, t < 40 → XA (10 + k) t = iO (f t)) : ∀ (j i : Nat), i + j = N → b_X11_forgeCopy_5 sc (n + 1) 1 (18 + 2 * k) (iO (N : Int)) (iO (ssum f 1 i)) (iO ((i : Int) + 1)) (hp XI XA XP XC MI MA ML D) = some (some (.int (iO (ssum f 1 N))), hp (va_up XI 2 (iO 0)) XA XP XC MI MA ML D) := by
  intro j
  induction j with
  | zero =>
    intro i hi
    obtain rfl : i = N := by omega
    rw [eb_X11_forgeCopy_5]
    clear hc
    simp (disch := (first | assumption | (unfold i32; omega) | (unfold i64; omega) | omega)) only [↓reduceIte, ki_0, ki_1, ki_2, ki_3, ki_4, ki_5, ki_6, ki_7, ki_8, ki_9, ki_10, ki_11, ki_12, ki_13, ki_14, ki_15, ki_20, ki_21, ki_30, ki_31, ki_40, ki_41, ki_50, ki_51, ki_60, ki_63, ki_64, ki_65, ki_100, ki_158, ki_160, ki_200, ki_212, ki_1000, ki_2000, ki_2001, ki_5000, ki_10000, ki_10001, ki_100000, ki_200000, ki_1000000, ki_2000000, ki_3000000, iO_neg, iO_add, iO_sub, iO_mul, kn_4, kn_8, kn_10, kn_20, kn_24, kn_40, kn_41, kn_50, kn_60, kn_158, kn_160, kn_200, kn_212, kn_2001, tn_lt, fn_lt, tn_le, fn_le, tn_eq, fn_eq, x_lt, x_le, x_eq, x_ix, x_nat, t_lt, f_lt, t_le, f_le, t_eq, f_eq, eq_self, and_self, true_and, and_true, false_and, and_false, if_true, if_false, Int.toNat_natCast, bI_s, bL_s, bA_s, bA_n, bV_s, mq_s, mq_n, en_le, bl_0, bl_1, u_eq, u_ne, w_eq, w_ne, v_eq, v_ne, ↓hp_cc_1, ↓hp_g_1_0, ↓hp_g_1_1, ↓hp_g_1_2, ↓hp_g_1_3, ↓hp_g_1_4, ↓hp_g_1_5, ↓hp_g_1_6, ↓hp_g_1_7, ↓hp_g_1_8, ↓hp_p_1_8, ↓hp_g_1_9, ↓hp_p_1_9, ↓hp_g_1_10, ↓hp_p_1_10, ↓hp_a_2, ↓hp_n_2, ↓hp_a_3, ↓hp_n_3, ↓hp_a_4, x_done]
  | succ j ih =>
    intro i hi
    have h1 := hc (1 + i) (by omega)
    have e1 : ((i : Int) + 1).toNat = 1 + i := by omega
    rw [← ih (i + 1) (by omega), eb_X11_forgeCopy_5]
    clear ih hc
    simp (disch := (first | assumption | (unfold i32; omega) | (unfold i64; omega) | omega)) only [↓reduceIte, ki_0, ki_1, ki_2, ki_3, ki_4, ki_5, ki_6, ki_7, ki_8, ki_9, ki_10, ki_11, ki_12, ki_13, ki_14, ki_15, ki_20, ki_21, ki_30, ki_31, ki_40, ki_41, ki_50, ki_51, ki_60, ki_63, ki_64, ki_65, ki_100, ki_158, ki_160, ki_200, ki_212, ki_1000, ki_2000, ki_2001, ki_5000, ki_10000, ki_10001, ki_100000, ki_200000, ki_1000000, ki_2000000, ki_3000000, iO_neg, iO_add, iO_sub, iO_mul, kn_4, kn_8, kn_10, kn_20, kn_24, kn_40, kn_41, kn_50, kn_60, kn_158, kn_160, kn_200, kn_212, kn_2001, tn_lt, fn_lt, tn_le, fn_le, tn_eq, fn_eq, x_lt, x_le, x_eq, x_ix, x_nat, t_lt, f_lt, t_le, f_le, t_eq, f_eq, eq_self, and_self, true_and, and_true, false_and, and_false, if_true, if_false, Int.toNat_natCast, bI_s, bL_s, bA_s, bA_n, bV_s, mq_s, mq_n, en_le, bl_0, bl_1, u_eq, u_ne, w_eq, w_ne, v_eq, v_ne, sh_0 hk, sh_a hk, e1, h1]
    try rfl
theorem div1000 : ∀ m : Nat, m < 201 → (m : Int) - 100 ≠ 0 → (1000 : Int32) / iO ((m : Int) - 100) = iO ((1000 : Int).tdiv ((m : Int) - 100)) := by decide +kernel
theorem div1000' {m : Int} (h1 : -100 ≤ m) (h2 : m ≤ 100) (h3 : m ≠ 0) : iO 1000 / iO m = iO ((1000 : Int).tdiv m) := by
  have := div1000 (m + 100).toNat (by omega) (by omega)
  rw [show (((m + 100).toNat : Nat) : Int) - 100 = m by omega] at this
  exact this
theorem mod2 : ∀ m : Nat, m < 201 → (iO ((m : Int) - 100) - iO ((m : Int) - 100) / 2 * 2 = 0 ↔ ((m : Int) - 100) % 2 = 0) := by decide +kernel
theorem mod2' {m : Int} (h1 : -100 ≤ m) (h2 : m ≤ 100) : (iO m - iO m / 2 * 2 = 0) = (m % 2 = 0) := by
  have := mod2 (m + 100).toNat (by omega)
  rw [show (((m + 100).toNat : Nat) : Int) - 100 = m by omega] at this
  exact propext this
set_option maxHeartbeats 2000000 in
theorem mc_forge (hS : OK5 S) {w m k : Int} (hw : i32 w) (hm : i32 m) (hk : i32 k) : MC S (p_forge S w m k).2 (p_forge S w m k).1 (fun z => f_X12_forge sc (n + 40) 26 (iO w) (iO m) (iO k) z) := by
  obtain ⟨w1, w2⟩ := id hw
  obtain ⟨m1, m2⟩ := id hm
  obtain ⟨k1, k2⟩ := id hk
  have h10 := hS.2.1
  unfold p_forge
  by_cases g : 0 ≤ w ∧ w ≤ 6 ∧ -100 ≤ m ∧ m ≤ 100 ∧ -100 ≤ k ∧ k ≤ 100
  · rw [if_pos g]
    obtain ⟨g1, g2, g3, g4, g5, g6⟩ := g
    have r1 := Int.emod_nonneg k (show (10 : Int) ≠ 0 by omega)
    have r2 := Int.emod_lt_of_pos k (show (0 : Int) < 10 by omega)
    have r3 := Int.emod_nonneg k (show (4 : Int) ≠ 0 by omega)
    have r4 := Int.emod_lt_of_pos k (show (0 : Int) < 4 by omega)
    have r5 := Int.emod_nonneg m (show (5 : Int) ≠ 0 by omega)
    have r6 := Int.emod_lt_of_pos m (show (0 : Int) < 5 by omega)
    have i1 : ∀ (z : en_H) (f : Int32 → en_H → Option en_R), en_bI (f_X12_in sc (n + 39) (iO w) 0 6 z) f = f (iO 1) z := fun z f => by
      rw [ki_0, ki_6, e_in hw (by unfold i32; omega) (by unfold i32; omega), if_pos ⟨g1, g2⟩, bI_s]
    have i2 : ∀ (z : en_H) (f : Int32 → en_H → Option en_R), en_bI (f_X12_in sc (n + 39) (iO m) (-100) 100 z) f = f (iO 1) z := fun z f => by
      rw [ki_100, iO_neg, e_in hm (by unfold i32; omega) (by unfold i32; omega), if_pos ⟨g3, g4⟩, bI_s]
    have i3 : ∀ (z : en_H) (f : Int32 → en_H → Option en_R), en_bI (f_X12_in sc (n + 39) (iO k) (-100) 100 z) f = f (iO 1) z := fun z f => by
      rw [ki_100, iO_neg, e_in hk (by unfold i32; omega) (by unfold i32; omega), if_pos ⟨g5, g6⟩, bI_s]
    have md10 : ∀ (z : en_H) (f : Int32 → en_H → Option en_R), en_bI (f_X12_modulo sc (n + 39) (iO k) 10 z) f = f (iO (k % 10)) z := fun z f => by
      rw [ki_10, m_modulo (sc := sc) (n := n + 38) (a := k) (b := 10) (z := z) g5 g6 (by omega) (by omega), bI_s]
    have md4 : ∀ (z : en_H) (f : Int32 → en_H → Option en_R), en_bI (f_X12_modulo sc (n + 39) (iO k) 4 z) f = f (iO (k % 4)) z := fun z f => by
      rw [ki_4, m_modulo (sc := sc) (n := n + 38) (a := k) (b := 4) (z := z) g5 g6 (by omega) (by omega), bI_s]
    have md5 : ∀ (z : en_H) (f : Int32 → en_H → Option en_R), en_bI (f_X12_modulo sc (n + 39) (iO m) 5 z) f = f (iO (m % 5)) z := fun z f => by
      rw [ki_5, m_modulo (sc := sc) (n := n + 38) (a := m) (b := 5) (z := z) g3 g4 (by omega) (by omega), bI_s]
    obtain ⟨x, hx⟩ : ∃ x : Nat, k % 4 = x := ⟨(k % 4).toNat, by omega⟩
    have hx4 : x < 4 := by omega
    rw [hx, Int.toNat_natCast]
    have hSV := hS.2.2.2.2.1 x hx4
    obtain ⟨s1, s2, s3, s4, -, s6⟩ := hSV
    rcases (show w = 0 ∨ w = 1 ∨ w = 2 ∨ w = 3 ∨ w = 4 ∨ w = 5 ∨ w = 6 by omega) with rfl | rfl | rfl | rfl | rfl | rfl | rfl
    · rw [if_pos rfl]
      cases hq : rowq S (k % 10) with
      | none =>
        apply mc_set
        intro XI XA XP XC MI MA ML D hV
        have hrn := rowq_none hq
        have hrow := e_misRow (sc := sc) (n := n + 37) (XI := XI) (XA := XA) (XP := XP) (XC := XC) (ML := ML) (D0 := D) hV hS (s := k % 10) (by unfold i32; omega)
        rw [if_neg (by omega)] at hrow
        have hrow : ∀ (f : Int32 → en_H → Option en_R), en_bI (f_X12_isRow sc (n + 39) 26 (iO (k % 10)) (hp XI XA XP XC MI MA ML D)) f = f (iO 0) (hp XI XA XP XC MI MA ML D) := fun f => by rw [hrow, bI_s]
        show f_X12_forge sc (n + 40) 26 (iO 0) (iO m) (iO k) _ = _
        rw [e_X12_forge]
        clear hV hrn
        simp (disch := (first | assumption | (unfold i32; omega) | (unfold i64; omega) | omega)) only [↓reduceIte, ki_0, ki_1, ki_2, ki_3, ki_4, ki_5, ki_6, ki_7, ki_8, ki_9, ki_10, ki_11, ki_12, ki_13, ki_14, ki_15, ki_20, ki_21, ki_30, ki_31, ki_40, ki_41, ki_50, ki_51, ki_60, ki_63, ki_64, ki_65, ki_100, ki_158, ki_160, ki_200, ki_212, ki_1000, ki_2000, ki_2001, ki_5000, ki_10000, ki_10001, ki_100000, ki_200000, ki_1000000, ki_2000000, ki_3000000, iO_neg, iO_add, iO_sub, iO_mul, kn_4, kn_8, kn_10, kn_20, kn_24, kn_40, kn_41, kn_50, kn_60, kn_158, kn_160, kn_200, kn_212, kn_2001, tn_lt, fn_lt, tn_le, fn_le, tn_eq, fn_eq, x_lt, x_le, x_eq, x_ix, x_nat, t_lt, f_lt, t_le, f_le, t_eq, f_eq, eq_self, and_self, true_and, and_true, false_and, and_false, if_true, if_false, Int.toNat_natCast, bI_s, bL_s, bA_s, bA_n, bV_s, mq_s, mq_n, en_le, bl_0, bl_1, u_eq, u_ne, w_eq, w_ne, v_eq, v_ne, ↓hp_cc_26, ↓hp_g_26_0, ↓hp_p_26_0, ↓hp_g_26_1, ↓hp_p_26_1, ↓hp_g_26_2, ↓hp_p_26_2, ↓hp_g_26_3, ↓hp_g_26_4, ↓hp_g_26_5, ↓hp_g_26_6, ↓hp_g_26_7, ↓hp_g_26_8, ↓hp_g_26_9, ↓hp_g_26_10, ↓hp_g_26_11, ↓hp_g_26_12, ↓hp_g_26_13, ↓hp_g_26_14, ↓hp_g_26_15, ↓hp_p_26_15, ↓hp_g_26_16, ↓hp_g_26_17, ↓hp_g_26_18, ↓hp_p_26_18, ↓hp_g_26_19, ↓hp_p_26_19, ↓hp_g_26_20, ↓hp_g_26_21, ↓hp_p_26_21, ↓hp_g_26_22, ↓hp_g_26_23, ↓hp_g_26_24, ↓hp_g_26_25, ↓hp_g_26_26, ↓hp_g_26_27, ↓hp_g_26_28, ↓hp_g_26_29, ↓hp_g_26_30, ↓hp_p_26_30, ↓hp_g_26_31, ↓hp_g_26_32, ↓hp_p_26_32, ↓hp_a_27, ↓hp_s_27, ↓hp_l_27, ↓hp_a_28, ↓hp_s_28, ↓hp_l_28, ↓hp_a_29, ↓hp_s_29, ↓hp_l_29, ↓hp_a_30, ↓hp_s_30, ↓hp_l_30, ↓hp_a_31, ↓hp_s_31, ↓hp_l_31, ↓hp_a_32, ↓hp_s_32, ↓hp_l_32, ↓hp_a_33, ↓hp_s_33, ↓hp_l_33, ↓hp_a_34, ↓hp_s_34, ↓hp_l_34, ↓hp_a_35, ↓hp_s_35, ↓hp_l_35, ↓hp_a_36, ↓hp_s_36, ↓hp_l_36, ↓hp_a_37, ↓hp_s_37, ↓hp_l_37, ↓hp_a_38, ↓hp_s_38, ↓hp_l_38, ↓hp_a_39, ↓hp_s_39, ↓hp_a_40, ↓hp_s_40, ↓hp_a_41, ↓hp_s_41, ↓hp_l_41, ↓hp_a_42, ↓hp_s_42, ↓hp_l_42, ↓hp_a_43, ↓hp_s_43, ↓hp_l_43, ↓hp_a_44, ↓hp_s_44, ↓hp_l_44, ↓hp_a_45, ↓hp_s_45, ↓hp_l_45, ↓hp_a_46, ↓hp_s_46, ↓hp_l_46, ↓hp_a_47, ↓hp_s_47, ↓hp_l_47, ↓hp_a_48, ↓hp_s_48, ↓hp_l_48, ↓hp_a_49, ↓hp_s_49, ↓hp_l_49, ↓hp_a_50, ↓hp_s_50, ↓hp_l_50, ↓i1, ↓i2, ↓i3, ↓md10, ↓md4, ↓hrow, m_refuse]
      | some q =>
        obtain ⟨r, hr, hk2, hq2⟩ := rowq_some hq
        have hR := hS.2.2.2.1 q (List.mem_of_getElem? hq2)
        have hq0 := hR.1
        have hq4 := hR.2.1
        dsimp only
        have hmain : ∀ (a j : Int), ((m % 5 = 0 ∨ q.1 = m % 5 ∨ (m % 5 = 1 ∧ (q.1 = 2 ∨ q.1 = 4))) ∧ a = q.1 ∧ j = 0) ∨ (¬ (m % 5 = 0 ∨ q.1 = m % 5 ∨ (m % 5 = 1 ∧ (q.1 = 2 ∨ q.1 = 4))) ∧ a = -1 ∧ j = 11) → MC S (sst S j) a (fun z => f_X12_forge sc (n + 40) 26 (iO 0) (iO m) (iO k) z) := by
          intro a j haj
          apply mc_set
          intro XI XA XP XC MI MA ML D hV
          obtain ⟨c1, c2, c3, c4⟩ := hV.2.2.2.2.2.1 r q hq2
          have hrow := e_misRow (sc := sc) (n := n + 37) (XI := XI) (XA := XA) (XP := XP) (XC := XC) (ML := ML) (D0 := D) hV hS (s := k % 10) (by unfold i32; omega)
          rw [if_pos (by omega)] at hrow
          have hrow : ∀ (f : Int32 → en_H → Option en_R), en_bI (f_X12_isRow sc (n + 39) 26 (iO (k % 10)) (hp XI XA XP XC MI MA ML D)) f = f (iO 1) (hp XI XA XP XC MI MA ML D) := fun f => by rw [hrow, bI_s]
          have hun := fun z => m_isUnder (sc := sc) (n := n + 38) (a := q.1) (b := m % 5) (z := z) hq0 hq4 r5 (by omega)
          show f_X12_forge sc (n + 40) 26 (iO 0) (iO m) (iO k) _ = _
          rw [e_X12_forge]
          rw [hr] at hrow md10
          rcases haj with ⟨u1, rfl, rfl⟩ | ⟨u1, rfl, rfl⟩
          · rw [if_pos u1] at hun
            clear hV c4 u1
            simp (disch := (first | assumption | (unfold i32; omega) | (unfold i64; omega) | omega)) only [↓reduceIte, ki_0, ki_1, ki_2, ki_3, ki_4, ki_5, ki_6, ki_7, ki_8, ki_9, ki_10, ki_11, ki_12, ki_13, ki_14, ki_15, ki_20, ki_21, ki_30, ki_31, ki_40, ki_41, ki_50, ki_51, ki_60, ki_63, ki_64, ki_65, ki_100, ki_158, ki_160, ki_200, ki_212, ki_1000, ki_2000, ki_2001, ki_5000, ki_10000, ki_10001, ki_100000, ki_200000, ki_1000000, ki_2000000, ki_3000000, iO_neg, iO_add, iO_sub, iO_mul, kn_4, kn_8, kn_10, kn_20, kn_24, kn_40, kn_41, kn_50, kn_60, kn_158, kn_160, kn_200, kn_212, kn_2001, tn_lt, fn_lt, tn_le, fn_le, tn_eq, fn_eq, x_lt, x_le, x_eq, x_ix, x_nat, t_lt, f_lt, t_le, f_le, t_eq, f_eq, eq_self, and_self, true_and, and_true, false_and, and_false, if_true, if_false, Int.toNat_natCast, bI_s, bL_s, bA_s, bA_n, bV_s, mq_s, mq_n, en_le, bl_0, bl_1, u_eq, u_ne, w_eq, w_ne, v_eq, v_ne, ↓hp_cc_26, ↓hp_g_26_0, ↓hp_p_26_0, ↓hp_g_26_1, ↓hp_p_26_1, ↓hp_g_26_2, ↓hp_p_26_2, ↓hp_g_26_3, ↓hp_g_26_4, ↓hp_g_26_5, ↓hp_g_26_6, ↓hp_g_26_7, ↓hp_g_26_8, ↓hp_g_26_9, ↓hp_g_26_10, ↓hp_g_26_11, ↓hp_g_26_12, ↓hp_g_26_13, ↓hp_g_26_14, ↓hp_g_26_15, ↓hp_p_26_15, ↓hp_g_26_16, ↓hp_g_26_17, ↓hp_g_26_18, ↓hp_p_26_18, ↓hp_g_26_19, ↓hp_p_26_19, ↓hp_g_26_20, ↓hp_g_26_21, ↓hp_p_26_21, ↓hp_g_26_22, ↓hp_g_26_23, ↓hp_g_26_24, ↓hp_g_26_25, ↓hp_g_26_26, ↓hp_g_26_27, ↓hp_g_26_28, ↓hp_g_26_29, ↓hp_g_26_30, ↓hp_p_26_30, ↓hp_g_26_31, ↓hp_g_26_32, ↓hp_p_26_32, ↓hp_a_27, ↓hp_s_27, ↓hp_l_27, ↓hp_a_28, ↓hp_s_28, ↓hp_l_28, ↓hp_a_29, ↓hp_s_29, ↓hp_l_29, ↓hp_a_30, ↓hp_s_30, ↓hp_l_30, ↓hp_a_31, ↓hp_s_31, ↓hp_l_31, ↓hp_a_32, ↓hp_s_32, ↓hp_l_32, ↓hp_a_33, ↓hp_s_33, ↓hp_l_33, ↓hp_a_34, ↓hp_s_34, ↓hp_l_34, ↓hp_a_35, ↓hp_s_35, ↓hp_l_35, ↓hp_a_36, ↓hp_s_36, ↓hp_l_36, ↓hp_a_37, ↓hp_s_37, ↓hp_l_37, ↓hp_a_38, ↓hp_s_38, ↓hp_l_38, ↓hp_a_39, ↓hp_s_39, ↓hp_a_40, ↓hp_s_40, ↓hp_a_41, ↓hp_s_41, ↓hp_l_41, ↓hp_a_42, ↓hp_s_42, ↓hp_l_42, ↓hp_a_43, ↓hp_s_43, ↓hp_l_43, ↓hp_a_44, ↓hp_s_44, ↓hp_l_44, ↓hp_a_45, ↓hp_s_45, ↓hp_l_45, ↓hp_a_46, ↓hp_s_46, ↓hp_l_46, ↓hp_a_47, ↓hp_s_47, ↓hp_l_47, ↓hp_a_48, ↓hp_s_48, ↓hp_l_48, ↓hp_a_49, ↓hp_s_49, ↓hp_l_49, ↓hp_a_50, ↓hp_s_50, ↓hp_l_50, ↓i1, ↓i2, ↓i3, ↓md10, ↓md4, ↓md5, ↓hrow, c1, hun, m_done]
          · rw [if_neg u1] at hun
            clear hV c4 u1
            simp (disch := (first | assumption | (unfold i32; omega) | (unfold i64; omega) | omega)) only [↓reduceIte, ki_0, ki_1, ki_2, ki_3, ki_4, ki_5, ki_6, ki_7, ki_8, ki_9, ki_10, ki_11, ki_12, ki_13, ki_14, ki_15, ki_20, ki_21, ki_30, ki_31, ki_40, ki_41, ki_50, ki_51, ki_60, ki_63, ki_64, ki_65, ki_100, ki_158, ki_160, ki_200, ki_212, ki_1000, ki_2000, ki_2001, ki_5000, ki_10000, ki_10001, ki_100000, ki_200000, ki_1000000, ki_2000000, ki_3000000, iO_neg, iO_add, iO_sub, iO_mul, kn_4, kn_8, kn_10, kn_20, kn_24, kn_40, kn_41, kn_50, kn_60, kn_158, kn_160, kn_200, kn_212, kn_2001, tn_lt, fn_lt, tn_le, fn_le, tn_eq, fn_eq, x_lt, x_le, x_eq, x_ix, x_nat, t_lt, f_lt, t_le, f_le, t_eq, f_eq, eq_self, and_self, true_and, and_true, false_and, and_false, if_true, if_false, Int.toNat_natCast, bI_s, bL_s, bA_s, bA_n, bV_s, mq_s, mq_n, en_le, bl_0, bl_1, u_eq, u_ne, w_eq, w_ne, v_eq, v_ne, ↓hp_cc_26, ↓hp_g_26_0, ↓hp_p_26_0, ↓hp_g_26_1, ↓hp_p_26_1, ↓hp_g_26_2, ↓hp_p_26_2, ↓hp_g_26_3, ↓hp_g_26_4, ↓hp_g_26_5, ↓hp_g_26_6, ↓hp_g_26_7, ↓hp_g_26_8, ↓hp_g_26_9, ↓hp_g_26_10, ↓hp_g_26_11, ↓hp_g_26_12, ↓hp_g_26_13, ↓hp_g_26_14, ↓hp_g_26_15, ↓hp_p_26_15, ↓hp_g_26_16, ↓hp_g_26_17, ↓hp_g_26_18, ↓hp_p_26_18, ↓hp_g_26_19, ↓hp_p_26_19, ↓hp_g_26_20, ↓hp_g_26_21, ↓hp_p_26_21, ↓hp_g_26_22, ↓hp_g_26_23, ↓hp_g_26_24, ↓hp_g_26_25, ↓hp_g_26_26, ↓hp_g_26_27, ↓hp_g_26_28, ↓hp_g_26_29, ↓hp_g_26_30, ↓hp_p_26_30, ↓hp_g_26_31, ↓hp_g_26_32, ↓hp_p_26_32, ↓hp_a_27, ↓hp_s_27, ↓hp_l_27, ↓hp_a_28, ↓hp_s_28, ↓hp_l_28, ↓hp_a_29, ↓hp_s_29, ↓hp_l_29, ↓hp_a_30, ↓hp_s_30, ↓hp_l_30, ↓hp_a_31, ↓hp_s_31, ↓hp_l_31, ↓hp_a_32, ↓hp_s_32, ↓hp_l_32, ↓hp_a_33, ↓hp_s_33, ↓hp_l_33, ↓hp_a_34, ↓hp_s_34, ↓hp_l_34, ↓hp_a_35, ↓hp_s_35, ↓hp_l_35, ↓hp_a_36, ↓hp_s_36, ↓hp_l_36, ↓hp_a_37, ↓hp_s_37, ↓hp_l_37, ↓hp_a_38, ↓hp_s_38, ↓hp_l_38, ↓hp_a_39, ↓hp_s_39, ↓hp_a_40, ↓hp_s_40, ↓hp_a_41, ↓hp_s_41, ↓hp_l_41, ↓hp_a_42, ↓hp_s_42, ↓hp_l_42, ↓hp_a_43, ↓hp_s_43, ↓hp_l_43, ↓hp_a_44, ↓hp_s_44, ↓hp_l_44, ↓hp_a_45, ↓hp_s_45, ↓hp_l_45, ↓hp_a_46, ↓hp_s_46, ↓hp_l_46, ↓hp_a_47, ↓hp_s_47, ↓hp_l_47, ↓hp_a_48, ↓hp_s_48, ↓hp_l_48, ↓hp_a_49, ↓hp_s_49, ↓hp_l_49, ↓hp_a_50, ↓hp_s_50, ↓hp_l_50, ↓i1, ↓i2, ↓i3, ↓md10, ↓md4, ↓md5, ↓hrow, c1, hun, m_refuse]
        by_cases u : (m % 5 = 0 ∨ q.1 = m % 5 ∨ (m % 5 = 1 ∧ (q.1 = 2 ∨ q.1 = 4)))
        · rw [if_pos u]; exact hmain _ _ (Or.inl ⟨u, rfl, rfl⟩)
        · rw [if_neg u]; exact hmain _ _ (Or.inr ⟨u, rfl, rfl⟩)
    · rw [if_neg (by decide), if_pos rfl]
      by_cases u : m < 0
      · rw [if_pos u]
        apply mc_set
        intro XI XA XP XC MI MA ML D hV
        show f_X12_forge sc (n + 40) 26 (iO 1) (iO m) (iO k) _ = _
        rw [e_X12_forge]
        clear hV
        simp (disch := (first | assumption | (unfold i32; omega) | (unfold i64; omega) | omega)) only [↓reduceIte, ki_0, ki_1, ki_2, ki_3, ki_4, ki_5, ki_6, ki_7, ki_8, ki_9, ki_10, ki_11, ki_12, ki_13, ki_14, ki_15, ki_20, ki_21, ki_30, ki_31, ki_40, ki_41, ki_50, ki_51, ki_60, ki_63, ki_64, ki_65, ki_100, ki_158, ki_160, ki_200, ki_212, ki_1000, ki_2000, ki_2001, ki_5000, ki_10000, ki_10001, ki_100000, ki_200000, ki_1000000, ki_2000000, ki_3000000, iO_neg, iO_add, iO_sub, iO_mul, kn_4, kn_8, kn_10, kn_20, kn_24, kn_40, kn_41, kn_50, kn_60, kn_158, kn_160, kn_200, kn_212, kn_2001, tn_lt, fn_lt, tn_le, fn_le, tn_eq, fn_eq, x_lt, x_le, x_eq, x_ix, x_nat, t_lt, f_lt, t_le, f_le, t_eq, f_eq, eq_self, and_self, true_and, and_true, false_and, and_false, if_true, if_false, Int.toNat_natCast, bI_s, bL_s, bA_s, bA_n, bV_s, mq_s, mq_n, en_le, bl_0, bl_1, u_eq, u_ne, w_eq, w_ne, v_eq, v_ne, ↓hp_cc_26, ↓hp_g_26_0, ↓hp_p_26_0, ↓hp_g_26_1, ↓hp_p_26_1, ↓hp_g_26_2, ↓hp_p_26_2, ↓hp_g_26_3, ↓hp_g_26_4, ↓hp_g_26_5, ↓hp_g_26_6, ↓hp_g_26_7, ↓hp_g_26_8, ↓hp_g_26_9, ↓hp_g_26_10, ↓hp_g_26_11, ↓hp_g_26_12, ↓hp_g_26_13, ↓hp_g_26_14, ↓hp_g_26_15, ↓hp_p_26_15, ↓hp_g_26_16, ↓hp_g_26_17, ↓hp_g_26_18, ↓hp_p_26_18, ↓hp_g_26_19, ↓hp_p_26_19, ↓hp_g_26_20, ↓hp_g_26_21, ↓hp_p_26_21, ↓hp_g_26_22, ↓hp_g_26_23, ↓hp_g_26_24, ↓hp_g_26_25, ↓hp_g_26_26, ↓hp_g_26_27, ↓hp_g_26_28, ↓hp_g_26_29, ↓hp_g_26_30, ↓hp_p_26_30, ↓hp_g_26_31, ↓hp_g_26_32, ↓hp_p_26_32, ↓hp_a_27, ↓hp_s_27, ↓hp_l_27, ↓hp_a_28, ↓hp_s_28, ↓hp_l_28, ↓hp_a_29, ↓hp_s_29, ↓hp_l_29, ↓hp_a_30, ↓hp_s_30, ↓hp_l_30, ↓hp_a_31, ↓hp_s_31, ↓hp_l_31, ↓hp_a_32, ↓hp_s_32, ↓hp_l_32, ↓hp_a_33, ↓hp_s_33, ↓hp_l_33, ↓hp_a_34, ↓hp_s_34, ↓hp_l_34, ↓hp_a_35, ↓hp_s_35, ↓hp_l_35, ↓hp_a_36, ↓hp_s_36, ↓hp_l_36, ↓hp_a_37, ↓hp_s_37, ↓hp_l_37, ↓hp_a_38, ↓hp_s_38, ↓hp_l_38, ↓hp_a_39, ↓hp_s_39, ↓hp_a_40, ↓hp_s_40, ↓hp_a_41, ↓hp_s_41, ↓hp_l_41, ↓hp_a_42, ↓hp_s_42, ↓hp_l_42, ↓hp_a_43, ↓hp_s_43, ↓hp_l_43, ↓hp_a_44, ↓hp_s_44, ↓hp_l_44, ↓hp_a_45, ↓hp_s_45, ↓hp_l_45, ↓hp_a_46, ↓hp_s_46, ↓hp_l_46, ↓hp_a_47, ↓hp_s_47, ↓hp_l_47, ↓hp_a_48, ↓hp_s_48, ↓hp_l_48, ↓hp_a_49, ↓hp_s_49, ↓hp_l_49, ↓hp_a_50, ↓hp_s_50, ↓hp_l_50, ↓i1, ↓i2, ↓i3, ↓md10, ↓md4, m_refuse]
      · rw [if_neg u]
        apply mc_set
        intro XI XA XP XC MI MA ML D hV
        show f_X12_forge sc (n + 40) 26 (iO 1) (iO m) (iO k) _ = _
        rw [e_X12_forge]
        clear hV
        simp (disch := (first | assumption | (unfold i32; omega) | (unfold i64; omega) | omega)) only [↓reduceIte, ki_0, ki_1, ki_2, ki_3, ki_4, ki_5, ki_6, ki_7, ki_8, ki_9, ki_10, ki_11, ki_12, ki_13, ki_14, ki_15, ki_20, ki_21, ki_30, ki_31, ki_40, ki_41, ki_50, ki_51, ki_60, ki_63, ki_64, ki_65, ki_100, ki_158, ki_160, ki_200, ki_212, ki_1000, ki_2000, ki_2001, ki_5000, ki_10000, ki_10001, ki_100000, ki_200000, ki_1000000, ki_2000000, ki_3000000, iO_neg, iO_add, iO_sub, iO_mul, kn_4, kn_8, kn_10, kn_20, kn_24, kn_40, kn_41, kn_50, kn_60, kn_158, kn_160, kn_200, kn_212, kn_2001, tn_lt, fn_lt, tn_le, fn_le, tn_eq, fn_eq, x_lt, x_le, x_eq, x_ix, x_nat, t_lt, f_lt, t_le, f_le, t_eq, f_eq, eq_self, and_self, true_and, and_true, false_and, and_false, if_true, if_false, Int.toNat_natCast, bI_s, bL_s, bA_s, bA_n, bV_s, mq_s, mq_n, en_le, bl_0, bl_1, u_eq, u_ne, w_eq, w_ne, v_eq, v_ne, ↓hp_cc_26, ↓hp_g_26_0, ↓hp_p_26_0, ↓hp_g_26_1, ↓hp_p_26_1, ↓hp_g_26_2, ↓hp_p_26_2, ↓hp_g_26_3, ↓hp_g_26_4, ↓hp_g_26_5, ↓hp_g_26_6, ↓hp_g_26_7, ↓hp_g_26_8, ↓hp_g_26_9, ↓hp_g_26_10, ↓hp_g_26_11, ↓hp_g_26_12, ↓hp_g_26_13, ↓hp_g_26_14, ↓hp_g_26_15, ↓hp_p_26_15, ↓hp_g_26_16, ↓hp_g_26_17, ↓hp_g_26_18, ↓hp_p_26_18, ↓hp_g_26_19, ↓hp_p_26_19, ↓hp_g_26_20, ↓hp_g_26_21, ↓hp_p_26_21, ↓hp_g_26_22, ↓hp_g_26_23, ↓hp_g_26_24, ↓hp_g_26_25, ↓hp_g_26_26, ↓hp_g_26_27, ↓hp_g_26_28, ↓hp_g_26_29, ↓hp_g_26_30, ↓hp_p_26_30, ↓hp_g_26_31, ↓hp_g_26_32, ↓hp_p_26_32, ↓hp_a_27, ↓hp_s_27, ↓hp_l_27, ↓hp_a_28, ↓hp_s_28, ↓hp_l_28, ↓hp_a_29, ↓hp_s_29, ↓hp_l_29, ↓hp_a_30, ↓hp_s_30, ↓hp_l_30, ↓hp_a_31, ↓hp_s_31, ↓hp_l_31, ↓hp_a_32, ↓hp_s_32, ↓hp_l_32, ↓hp_a_33, ↓hp_s_33, ↓hp_l_33, ↓hp_a_34, ↓hp_s_34, ↓hp_l_34, ↓hp_a_35, ↓hp_s_35, ↓hp_l_35, ↓hp_a_36, ↓hp_s_36, ↓hp_l_36, ↓hp_a_37, ↓hp_s_37, ↓hp_l_37, ↓hp_a_38, ↓hp_s_38, ↓hp_l_38, ↓hp_a_39, ↓hp_s_39, ↓hp_a_40, ↓hp_s_40, ↓hp_a_41, ↓hp_s_41, ↓hp_l_41, ↓hp_a_42, ↓hp_s_42, ↓hp_l_42, ↓hp_a_43, ↓hp_s_43, ↓hp_l_43, ↓hp_a_44, ↓hp_s_44, ↓hp_l_44, ↓hp_a_45, ↓hp_s_45, ↓hp_l_45, ↓hp_a_46, ↓hp_s_46, ↓hp_l_46, ↓hp_a_47, ↓hp_s_47, ↓hp_l_47, ↓hp_a_48, ↓hp_s_48, ↓hp_l_48, ↓hp_a_49, ↓hp_s_49, ↓hp_l_49, ↓hp_a_50, ↓hp_s_50, ↓hp_l_50, ↓i1, ↓i2, ↓i3, ↓md10, ↓md4, m_done]
    · rw [if_neg (by decide), if_neg (by decide), if_pos rfl]
      rw [hx] at md4
      by_cases u1 : (S.2.2.1 x).1 = -1
      · rw [if_pos u1]
        apply mc_set
        intro XI XA XP XC MI MA ML D hV
        obtain ⟨t1, t2, t3⟩ := hV.2.2.2.2.2.2.1 x hx4
        show f_X12_forge sc (n + 40) 26 (iO 2) (iO m) (iO k) _ = _
        rw [e_X12_forge]
        clear hV t3 s6
        simp (disch := (first | assumption | (unfold i32; omega) | (unfold i64; omega) | omega)) only [↓reduceIte, ki_0, ki_1, ki_2, ki_3, ki_4, ki_5, ki_6, ki_7, ki_8, ki_9, ki_10, ki_11, ki_12, ki_13, ki_14, ki_15, ki_20, ki_21, ki_30, ki_31, ki_40, ki_41, ki_50, ki_51, ki_60, ki_63, ki_64, ki_65, ki_100, ki_158, ki_160, ki_200, ki_212, ki_1000, ki_2000, ki_2001, ki_5000, ki_10000, ki_10001, ki_100000, ki_200000, ki_1000000, ki_2000000, ki_3000000, iO_neg, iO_add, iO_sub, iO_mul, kn_4, kn_8, kn_10, kn_20, kn_24, kn_40, kn_41, kn_50, kn_60, kn_158, kn_160, kn_200, kn_212, kn_2001, tn_lt, fn_lt, tn_le, fn_le, tn_eq, fn_eq, x_lt, x_le, x_eq, x_ix, x_nat, t_lt, f_lt, t_le, f_le, t_eq, f_eq, eq_self, and_self, true_and, and_true, false_and, and_false, if_true, if_false, Int.toNat_natCast, bI_s, bL_s, bA_s, bA_n, bV_s, mq_s, mq_n, en_le, bl_0, bl_1, u_eq, u_ne, w_eq, w_ne, v_eq, v_ne, ↓hp_cc_26, ↓hp_g_26_0, ↓hp_p_26_0, ↓hp_g_26_1, ↓hp_p_26_1, ↓hp_g_26_2, ↓hp_p_26_2, ↓hp_g_26_3, ↓hp_g_26_4, ↓hp_g_26_5, ↓hp_g_26_6, ↓hp_g_26_7, ↓hp_g_26_8, ↓hp_g_26_9, ↓hp_g_26_10, ↓hp_g_26_11, ↓hp_g_26_12, ↓hp_g_26_13, ↓hp_g_26_14, ↓hp_g_26_15, ↓hp_p_26_15, ↓hp_g_26_16, ↓hp_g_26_17, ↓hp_g_26_18, ↓hp_p_26_18, ↓hp_g_26_19, ↓hp_p_26_19, ↓hp_g_26_20, ↓hp_g_26_21, ↓hp_p_26_21, ↓hp_g_26_22, ↓hp_g_26_23, ↓hp_g_26_24, ↓hp_g_26_25, ↓hp_g_26_26, ↓hp_g_26_27, ↓hp_g_26_28, ↓hp_g_26_29, ↓hp_g_26_30, ↓hp_p_26_30, ↓hp_g_26_31, ↓hp_g_26_32, ↓hp_p_26_32, ↓hp_a_27, ↓hp_s_27, ↓hp_l_27, ↓hp_a_28, ↓hp_s_28, ↓hp_l_28, ↓hp_a_29, ↓hp_s_29, ↓hp_l_29, ↓hp_a_30, ↓hp_s_30, ↓hp_l_30, ↓hp_a_31, ↓hp_s_31, ↓hp_l_31, ↓hp_a_32, ↓hp_s_32, ↓hp_l_32, ↓hp_a_33, ↓hp_s_33, ↓hp_l_33, ↓hp_a_34, ↓hp_s_34, ↓hp_l_34, ↓hp_a_35, ↓hp_s_35, ↓hp_l_35, ↓hp_a_36, ↓hp_s_36, ↓hp_l_36, ↓hp_a_37, ↓hp_s_37, ↓hp_l_37, ↓hp_a_38, ↓hp_s_38, ↓hp_l_38, ↓hp_a_39, ↓hp_s_39, ↓hp_a_40, ↓hp_s_40, ↓hp_a_41, ↓hp_s_41, ↓hp_l_41, ↓hp_a_42, ↓hp_s_42, ↓hp_l_42, ↓hp_a_43, ↓hp_s_43, ↓hp_l_43, ↓hp_a_44, ↓hp_s_44, ↓hp_l_44, ↓hp_a_45, ↓hp_s_45, ↓hp_l_45, ↓hp_a_46, ↓hp_s_46, ↓hp_l_46, ↓hp_a_47, ↓hp_s_47, ↓hp_l_47, ↓hp_a_48, ↓hp_s_48, ↓hp_l_48, ↓hp_a_49, ↓hp_s_49, ↓hp_l_49, ↓hp_a_50, ↓hp_s_50, ↓hp_l_50, ↓i1, ↓i2, ↓i3, ↓md10, ↓md4, t1, m_refuse]
      rw [if_neg u1]
      by_cases u2 : (S.2.2.1 x).1 ≠ 1
      · rw [if_pos u2]
        apply mc_set
        intro XI XA XP XC MI MA ML D hV
        obtain ⟨t1, t2, t3⟩ := hV.2.2.2.2.2.2.1 x hx4
        show f_X12_forge sc (n + 40) 26 (iO 2) (iO m) (iO k) _ = _
        rw [e_X12_forge]
        clear hV t3 s6
        simp (disch := (first | assumption | (unfold i32; omega) | (unfold i64; omega) | omega)) only [↓reduceIte, ki_0, ki_1, ki_2, ki_3, ki_4, ki_5, ki_6, ki_7, ki_8, ki_9, ki_10, ki_11, ki_12, ki_13, ki_14, ki_15, ki_20, ki_21, ki_30, ki_31, ki_40, ki_41, ki_50, ki_51, ki_60, ki_63, ki_64, ki_65, ki_100, ki_158, ki_160, ki_200, ki_212, ki_1000, ki_2000, ki_2001, ki_5000, ki_10000, ki_10001, ki_100000, ki_200000, ki_1000000, ki_2000000, ki_3000000, iO_neg, iO_add, iO_sub, iO_mul, kn_4, kn_8, kn_10, kn_20, kn_24, kn_40, kn_41, kn_50, kn_60, kn_158, kn_160, kn_200, kn_212, kn_2001, tn_lt, fn_lt, tn_le, fn_le, tn_eq, fn_eq, x_lt, x_le, x_eq, x_ix, x_nat, t_lt, f_lt, t_le, f_le, t_eq, f_eq, eq_self, and_self, true_and, and_true, false_and, and_false, if_true, if_false, Int.toNat_natCast, bI_s, bL_s, bA_s, bA_n, bV_s, mq_s, mq_n, en_le, bl_0, bl_1, u_eq, u_ne, w_eq, w_ne, v_eq, v_ne, ↓hp_cc_26, ↓hp_g_26_0, ↓hp_p_26_0, ↓hp_g_26_1, ↓hp_p_26_1, ↓hp_g_26_2, ↓hp_p_26_2, ↓hp_g_26_3, ↓hp_g_26_4, ↓hp_g_26_5, ↓hp_g_26_6, ↓hp_g_26_7, ↓hp_g_26_8, ↓hp_g_26_9, ↓hp_g_26_10, ↓hp_g_26_11, ↓hp_g_26_12, ↓hp_g_26_13, ↓hp_g_26_14, ↓hp_g_26_15, ↓hp_p_26_15, ↓hp_g_26_16, ↓hp_g_26_17, ↓hp_g_26_18, ↓hp_p_26_18, ↓hp_g_26_19, ↓hp_p_26_19, ↓hp_g_26_20, ↓hp_g_26_21, ↓hp_p_26_21, ↓hp_g_26_22, ↓hp_g_26_23, ↓hp_g_26_24, ↓hp_g_26_25, ↓hp_g_26_26, ↓hp_g_26_27, ↓hp_g_26_28, ↓hp_g_26_29, ↓hp_g_26_30, ↓hp_p_26_30, ↓hp_g_26_31, ↓hp_g_26_32, ↓hp_p_26_32, ↓hp_a_27, ↓hp_s_27, ↓hp_l_27, ↓hp_a_28, ↓hp_s_28, ↓hp_l_28, ↓hp_a_29, ↓hp_s_29, ↓hp_l_29, ↓hp_a_30, ↓hp_s_30, ↓hp_l_30, ↓hp_a_31, ↓hp_s_31, ↓hp_l_31, ↓hp_a_32, ↓hp_s_32, ↓hp_l_32, ↓hp_a_33, ↓hp_s_33, ↓hp_l_33, ↓hp_a_34, ↓hp_s_34, ↓hp_l_34, ↓hp_a_35, ↓hp_s_35, ↓hp_l_35, ↓hp_a_36, ↓hp_s_36, ↓hp_l_36, ↓hp_a_37, ↓hp_s_37, ↓hp_l_37, ↓hp_a_38, ↓hp_s_38, ↓hp_l_38, ↓hp_a_39, ↓hp_s_39, ↓hp_a_40, ↓hp_s_40, ↓hp_a_41, ↓hp_s_41, ↓hp_l_41, ↓hp_a_42, ↓hp_s_42, ↓hp_l_42, ↓hp_a_43, ↓hp_s_43, ↓hp_l_43, ↓hp_a_44, ↓hp_s_44, ↓hp_l_44, ↓hp_a_45, ↓hp_s_45, ↓hp_l_45, ↓hp_a_46, ↓hp_s_46, ↓hp_l_46, ↓hp_a_47, ↓hp_s_47, ↓hp_l_47, ↓hp_a_48, ↓hp_s_48, ↓hp_l_48, ↓hp_a_49, ↓hp_s_49, ↓hp_l_49, ↓hp_a_50, ↓hp_s_50, ↓hp_l_50, ↓i1, ↓i2, ↓i3, ↓md10, ↓md4, t1, m_refuse]
      rw [if_neg u2]
      have u2 : (S.2.2.1 x).1 = 1 := by omega
      by_cases u3 : 0 ≤ m ∧ m < (S.2.2.1 x).2.1
      · rw [if_pos u3]
        obtain ⟨u4, u5⟩ := u3
        obtain ⟨y, rfl⟩ : ∃ y : Nat, m = y := ⟨m.toNat, by omega⟩
        rw [Int.toNat_natCast]
        apply mc_set
        intro XI XA XP XC MI MA ML D hV
        obtain ⟨t1, t2, t3⟩ := hV.2.2.2.2.2.2.1 x hx4
        have t4 := t3 y (by omega)
        have e1 : (40 * (x : Int) + (y : Int)).toNat = 40 * x + y := by omega
        show f_X12_forge sc (n + 40) 26 (iO 2) (iO (y : Int)) (iO k) _ = _
        rw [e_X12_forge]
        clear hV t3 s6
        simp (disch := (first | assumption | (unfold i32; omega) | (unfold i64; omega) | omega)) only [↓reduceIte, ki_0, ki_1, ki_2, ki_3, ki_4, ki_5, ki_6, ki_7, ki_8, ki_9, ki_10, ki_11, ki_12, ki_13, ki_14, ki_15, ki_20, ki_21, ki_30, ki_31, ki_40, ki_41, ki_50, ki_51, ki_60, ki_63, ki_64, ki_65, ki_100, ki_158, ki_160, ki_200, ki_212, ki_1000, ki_2000, ki_2001, ki_5000, ki_10000, ki_10001, ki_100000, ki_200000, ki_1000000, ki_2000000, ki_3000000, iO_neg, iO_add, iO_sub, iO_mul, kn_4, kn_8, kn_10, kn_20, kn_24, kn_40, kn_41, kn_50, kn_60, kn_158, kn_160, kn_200, kn_212, kn_2001, tn_lt, fn_lt, tn_le, fn_le, tn_eq, fn_eq, x_lt, x_le, x_eq, x_ix, x_nat, t_lt, f_lt, t_le, f_le, t_eq, f_eq, eq_self, and_self, true_and, and_true, false_and, and_false, if_true, if_false, Int.toNat_natCast, bI_s, bL_s, bA_s, bA_n, bV_s, mq_s, mq_n, en_le, bl_0, bl_1, u_eq, u_ne, w_eq, w_ne, v_eq, v_ne, ↓hp_cc_26, ↓hp_g_26_0, ↓hp_p_26_0, ↓hp_g_26_1, ↓hp_p_26_1, ↓hp_g_26_2, ↓hp_p_26_2, ↓hp_g_26_3, ↓hp_g_26_4, ↓hp_g_26_5, ↓hp_g_26_6, ↓hp_g_26_7, ↓hp_g_26_8, ↓hp_g_26_9, ↓hp_g_26_10, ↓hp_g_26_11, ↓hp_g_26_12, ↓hp_g_26_13, ↓hp_g_26_14, ↓hp_g_26_15, ↓hp_p_26_15, ↓hp_g_26_16, ↓hp_g_26_17, ↓hp_g_26_18, ↓hp_p_26_18, ↓hp_g_26_19, ↓hp_p_26_19, ↓hp_g_26_20, ↓hp_g_26_21, ↓hp_p_26_21, ↓hp_g_26_22, ↓hp_g_26_23, ↓hp_g_26_24, ↓hp_g_26_25, ↓hp_g_26_26, ↓hp_g_26_27, ↓hp_g_26_28, ↓hp_g_26_29, ↓hp_g_26_30, ↓hp_p_26_30, ↓hp_g_26_31, ↓hp_g_26_32, ↓hp_p_26_32, ↓hp_a_27, ↓hp_s_27, ↓hp_l_27, ↓hp_a_28, ↓hp_s_28, ↓hp_l_28, ↓hp_a_29, ↓hp_s_29, ↓hp_l_29, ↓hp_a_30, ↓hp_s_30, ↓hp_l_30, ↓hp_a_31, ↓hp_s_31, ↓hp_l_31, ↓hp_a_32, ↓hp_s_32, ↓hp_l_32, ↓hp_a_33, ↓hp_s_33, ↓hp_l_33, ↓hp_a_34, ↓hp_s_34, ↓hp_l_34, ↓hp_a_35, ↓hp_s_35, ↓hp_l_35, ↓hp_a_36, ↓hp_s_36, ↓hp_l_36, ↓hp_a_37, ↓hp_s_37, ↓hp_l_37, ↓hp_a_38, ↓hp_s_38, ↓hp_l_38, ↓hp_a_39, ↓hp_s_39, ↓hp_a_40, ↓hp_s_40, ↓hp_a_41, ↓hp_s_41, ↓hp_l_41, ↓hp_a_42, ↓hp_s_42, ↓hp_l_42, ↓hp_a_43, ↓hp_s_43, ↓hp_l_43, ↓hp_a_44, ↓hp_s_44, ↓hp_l_44, ↓hp_a_45, ↓hp_s_45, ↓hp_l_45, ↓hp_a_46, ↓hp_s_46, ↓hp_l_46, ↓hp_a_47, ↓hp_s_47, ↓hp_l_47, ↓hp_a_48, ↓hp_s_48, ↓hp_l_48, ↓hp_a_49, ↓hp_s_49, ↓hp_l_49, ↓hp_a_50, ↓hp_s_50, ↓hp_l_50, ↓i1, ↓i2, ↓i3, ↓md10, ↓md4, t1, t2, e_X12_in, e1, t4, m_done]
      · rw [if_neg u3]
        apply mc_set
        intro XI XA XP XC MI MA ML D hV
        obtain ⟨t1, t2, t3⟩ := hV.2.2.2.2.2.2.1 x hx4
        show f_X12_forge sc (n + 40) 26 (iO 2) (iO m) (iO k) _ = _
        rw [e_X12_forge]
        clear hV t3 s6
        rcases Int.lt_or_le m 0 with v | v
        · clear u3; simp (disch := (first | assumption | (unfold i32; omega) | (unfold i64; omega) | omega)) only [↓reduceIte, ki_0, ki_1, ki_2, ki_3, ki_4, ki_5, ki_6, ki_7, ki_8, ki_9, ki_10, ki_11, ki_12, ki_13, ki_14, ki_15, ki_20, ki_21, ki_30, ki_31, ki_40, ki_41, ki_50, ki_51, ki_60, ki_63, ki_64, ki_65, ki_100, ki_158, ki_160, ki_200, ki_212, ki_1000, ki_2000, ki_2001, ki_5000, ki_10000, ki_10001, ki_100000, ki_200000, ki_1000000, ki_2000000, ki_3000000, iO_neg, iO_add, iO_sub, iO_mul, kn_4, kn_8, kn_10, kn_20, kn_24, kn_40, kn_41, kn_50, kn_60, kn_158, kn_160, kn_200, kn_212, kn_2001, tn_lt, fn_lt, tn_le, fn_le, tn_eq, fn_eq, x_lt, x_le, x_eq, x_ix, x_nat, t_lt, f_lt, t_le, f_le, t_eq, f_eq, eq_self, and_self, true_and, and_true, false_and, and_false, if_true, if_false, Int.toNat_natCast, bI_s, bL_s, bA_s, bA_n, bV_s, mq_s, mq_n, en_le, bl_0, bl_1, u_eq, u_ne, w_eq, w_ne, v_eq, v_ne, ↓hp_cc_26, ↓hp_g_26_0, ↓hp_p_26_0, ↓hp_g_26_1, ↓hp_p_26_1, ↓hp_g_26_2, ↓hp_p_26_2, ↓hp_g_26_3, ↓hp_g_26_4, ↓hp_g_26_5, ↓hp_g_26_6, ↓hp_g_26_7, ↓hp_g_26_8, ↓hp_g_26_9, ↓hp_g_26_10, ↓hp_g_26_11, ↓hp_g_26_12, ↓hp_g_26_13, ↓hp_g_26_14, ↓hp_g_26_15, ↓hp_p_26_15, ↓hp_g_26_16, ↓hp_g_26_17, ↓hp_g_26_18, ↓hp_p_26_18, ↓hp_g_26_19, ↓hp_p_26_19, ↓hp_g_26_20, ↓hp_g_26_21, ↓hp_p_26_21, ↓hp_g_26_22, ↓hp_g_26_23, ↓hp_g_26_24, ↓hp_g_26_25, ↓hp_g_26_26, ↓hp_g_26_27, ↓hp_g_26_28, ↓hp_g_26_29, ↓hp_g_26_30, ↓hp_p_26_30, ↓hp_g_26_31, ↓hp_g_26_32, ↓hp_p_26_32, ↓hp_a_27, ↓hp_s_27, ↓hp_l_27, ↓hp_a_28, ↓hp_s_28, ↓hp_l_28, ↓hp_a_29, ↓hp_s_29, ↓hp_l_29, ↓hp_a_30, ↓hp_s_30, ↓hp_l_30, ↓hp_a_31, ↓hp_s_31, ↓hp_l_31, ↓hp_a_32, ↓hp_s_32, ↓hp_l_32, ↓hp_a_33, ↓hp_s_33, ↓hp_l_33, ↓hp_a_34, ↓hp_s_34, ↓hp_l_34, ↓hp_a_35, ↓hp_s_35, ↓hp_l_35, ↓hp_a_36, ↓hp_s_36, ↓hp_l_36, ↓hp_a_37, ↓hp_s_37, ↓hp_l_37, ↓hp_a_38, ↓hp_s_38, ↓hp_l_38, ↓hp_a_39, ↓hp_s_39, ↓hp_a_40, ↓hp_s_40, ↓hp_a_41, ↓hp_s_41, ↓hp_l_41, ↓hp_a_42, ↓hp_s_42, ↓hp_l_42, ↓hp_a_43, ↓hp_s_43, ↓hp_l_43, ↓hp_a_44, ↓hp_s_44, ↓hp_l_44, ↓hp_a_45, ↓hp_s_45, ↓hp_l_45, ↓hp_a_46, ↓hp_s_46, ↓hp_l_46, ↓hp_a_47, ↓hp_s_47, ↓hp_l_47, ↓hp_a_48, ↓hp_s_48, ↓hp_l_48, ↓hp_a_49, ↓hp_s_49, ↓hp_l_49, ↓hp_a_50, ↓hp_s_50, ↓hp_l_50, ↓i1, ↓i2, ↓i3, ↓md10, ↓md4, t1, t2, e_X12_in, m_refuse]
        · have v2 : (S.2.2.1 x).2.1 ≤ m := by omega
          clear u3; simp (disch := (first | assumption | (unfold i32; omega) | (unfold i64; omega) | omega)) only [↓reduceIte, ki_0, ki_1, ki_2, ki_3, ki_4, ki_5, ki_6, ki_7, ki_8, ki_9, ki_10, ki_11, ki_12, ki_13, ki_14, ki_15, ki_20, ki_21, ki_30, ki_31, ki_40, ki_41, ki_50, ki_51, ki_60, ki_63, ki_64, ki_65, ki_100, ki_158, ki_160, ki_200, ki_212, ki_1000, ki_2000, ki_2001, ki_5000, ki_10000, ki_10001, ki_100000, ki_200000, ki_1000000, ki_2000000, ki_3000000, iO_neg, iO_add, iO_sub, iO_mul, kn_4, kn_8, kn_10, kn_20, kn_24, kn_40, kn_41, kn_50, kn_60, kn_158, kn_160, kn_200, kn_212, kn_2001, tn_lt, fn_lt, tn_le, fn_le, tn_eq, fn_eq, x_lt, x_le, x_eq, x_ix, x_nat, t_lt, f_lt, t_le, f_le, t_eq, f_eq, eq_self, and_self, true_and, and_true, false_and, and_false, if_true, if_false, Int.toNat_natCast, bI_s, bL_s, bA_s, bA_n, bV_s, mq_s, mq_n, en_le, bl_0, bl_1, u_eq, u_ne, w_eq, w_ne, v_eq, v_ne, ↓hp_cc_26, ↓hp_g_26_0, ↓hp_p_26_0, ↓hp_g_26_1, ↓hp_p_26_1, ↓hp_g_26_2, ↓hp_p_26_2, ↓hp_g_26_3, ↓hp_g_26_4, ↓hp_g_26_5, ↓hp_g_26_6, ↓hp_g_26_7, ↓hp_g_26_8, ↓hp_g_26_9, ↓hp_g_26_10, ↓hp_g_26_11, ↓hp_g_26_12, ↓hp_g_26_13, ↓hp_g_26_14, ↓hp_g_26_15, ↓hp_p_26_15, ↓hp_g_26_16, ↓hp_g_26_17, ↓hp_g_26_18, ↓hp_p_26_18, ↓hp_g_26_19, ↓hp_p_26_19, ↓hp_g_26_20, ↓hp_g_26_21, ↓hp_p_26_21, ↓hp_g_26_22, ↓hp_g_26_23, ↓hp_g_26_24, ↓hp_g_26_25, ↓hp_g_26_26, ↓hp_g_26_27, ↓hp_g_26_28, ↓hp_g_26_29, ↓hp_g_26_30, ↓hp_p_26_30, ↓hp_g_26_31, ↓hp_g_26_32, ↓hp_p_26_32, ↓hp_a_27, ↓hp_s_27, ↓hp_l_27, ↓hp_a_28, ↓hp_s_28, ↓hp_l_28, ↓hp_a_29, ↓hp_s_29, ↓hp_l_29, ↓hp_a_30, ↓hp_s_30, ↓hp_l_30, ↓hp_a_31, ↓hp_s_31, ↓hp_l_31, ↓hp_a_32, ↓hp_s_32, ↓hp_l_32, ↓hp_a_33, ↓hp_s_33, ↓hp_l_33, ↓hp_a_34, ↓hp_s_34, ↓hp_l_34, ↓hp_a_35, ↓hp_s_35, ↓hp_l_35, ↓hp_a_36, ↓hp_s_36, ↓hp_l_36, ↓hp_a_37, ↓hp_s_37, ↓hp_l_37, ↓hp_a_38, ↓hp_s_38, ↓hp_l_38, ↓hp_a_39, ↓hp_s_39, ↓hp_a_40, ↓hp_s_40, ↓hp_a_41, ↓hp_s_41, ↓hp_l_41, ↓hp_a_42, ↓hp_s_42, ↓hp_l_42, ↓hp_a_43, ↓hp_s_43, ↓hp_l_43, ↓hp_a_44, ↓hp_s_44, ↓hp_l_44, ↓hp_a_45, ↓hp_s_45, ↓hp_l_45, ↓hp_a_46, ↓hp_s_46, ↓hp_l_46, ↓hp_a_47, ↓hp_s_47, ↓hp_l_47, ↓hp_a_48, ↓hp_s_48, ↓hp_l_48, ↓hp_a_49, ↓hp_s_49, ↓hp_l_49, ↓hp_a_50, ↓hp_s_50, ↓hp_l_50, ↓i1, ↓i2, ↓i3, ↓md10, ↓md4, t1, t2, e_X12_in, m_refuse]
    · rw [if_neg (by decide), if_neg (by decide), if_neg (by decide), if_pos rfl]
      rw [hx] at md4
      by_cases u1 : (S.2.2.1 x).1 = -1
      · rw [if_pos u1]
        apply mc_set
        intro XI XA XP XC MI MA ML D hV
        obtain ⟨t1, t2, t3⟩ := hV.2.2.2.2.2.2.1 x hx4
        show f_X12_forge sc (n + 40) 26 (iO 3) (iO m) (iO k) _ = _
        rw [e_X12_forge]
        clear hV t3 s6
        simp (disch := (first | assumption | (unfold i32; omega) | (unfold i64; omega) | omega)) only [↓reduceIte, ki_0, ki_1, ki_2, ki_3, ki_4, ki_5, ki_6, ki_7, ki_8, ki_9, ki_10, ki_11, ki_12, ki_13, ki_14, ki_15, ki_20, ki_21, ki_30, ki_31, ki_40, ki_41, ki_50, ki_51, ki_60, ki_63, ki_64, ki_65, ki_100, ki_158, ki_160, ki_200, ki_212, ki_1000, ki_2000, ki_2001, ki_5000, ki_10000, ki_10001, ki_100000, ki_200000, ki_1000000, ki_2000000, ki_3000000, iO_neg, iO_add, iO_sub, iO_mul, kn_4, kn_8, kn_10, kn_20, kn_24, kn_40, kn_41, kn_50, kn_60, kn_158, kn_160, kn_200, kn_212, kn_2001, tn_lt, fn_lt, tn_le, fn_le, tn_eq, fn_eq, x_lt, x_le, x_eq, x_ix, x_nat, t_lt, f_lt, t_le, f_le, t_eq, f_eq, eq_self, and_self, true_and, and_true, false_and, and_false, if_true, if_false, Int.toNat_natCast, bI_s, bL_s, bA_s, bA_n, bV_s, mq_s, mq_n, en_le, bl_0, bl_1, u_eq, u_ne, w_eq, w_ne, v_eq, v_ne, ↓hp_cc_26, ↓hp_g_26_0, ↓hp_p_26_0, ↓hp_g_26_1, ↓hp_p_26_1, ↓hp_g_26_2, ↓hp_p_26_2, ↓hp_g_26_3, ↓hp_g_26_4, ↓hp_g_26_5, ↓hp_g_26_6, ↓hp_g_26_7, ↓hp_g_26_8, ↓hp_g_26_9, ↓hp_g_26_10, ↓hp_g_26_11, ↓hp_g_26_12, ↓hp_g_26_13, ↓hp_g_26_14, ↓hp_g_26_15, ↓hp_p_26_15, ↓hp_g_26_16, ↓hp_g_26_17, ↓hp_g_26_18, ↓hp_p_26_18, ↓hp_g_26_19, ↓hp_p_26_19, ↓hp_g_26_20, ↓hp_g_26_21, ↓hp_p_26_21, ↓hp_g_26_22, ↓hp_g_26_23, ↓hp_g_26_24, ↓hp_g_26_25, ↓hp_g_26_26, ↓hp_g_26_27, ↓hp_g_26_28, ↓hp_g_26_29, ↓hp_g_26_30, ↓hp_p_26_30, ↓hp_g_26_31, ↓hp_g_26_32, ↓hp_p_26_32, ↓hp_a_27, ↓hp_s_27, ↓hp_l_27, ↓hp_a_28, ↓hp_s_28, ↓hp_l_28, ↓hp_a_29, ↓hp_s_29, ↓hp_l_29, ↓hp_a_30, ↓hp_s_30, ↓hp_l_30, ↓hp_a_31, ↓hp_s_31, ↓hp_l_31, ↓hp_a_32, ↓hp_s_32, ↓hp_l_32, ↓hp_a_33, ↓hp_s_33, ↓hp_l_33, ↓hp_a_34, ↓hp_s_34, ↓hp_l_34, ↓hp_a_35, ↓hp_s_35, ↓hp_l_35, ↓hp_a_36, ↓hp_s_36, ↓hp_l_36, ↓hp_a_37, ↓hp_s_37, ↓hp_l_37, ↓hp_a_38, ↓hp_s_38, ↓hp_l_38, ↓hp_a_39, ↓hp_s_39, ↓hp_a_40, ↓hp_s_40, ↓hp_a_41, ↓hp_s_41, ↓hp_l_41, ↓hp_a_42, ↓hp_s_42, ↓hp_l_42, ↓hp_a_43, ↓hp_s_43, ↓hp_l_43, ↓hp_a_44, ↓hp_s_44, ↓hp_l_44, ↓hp_a_45, ↓hp_s_45, ↓hp_l_45, ↓hp_a_46, ↓hp_s_46, ↓hp_l_46, ↓hp_a_47, ↓hp_s_47, ↓hp_l_47, ↓hp_a_48, ↓hp_s_48, ↓hp_l_48, ↓hp_a_49, ↓hp_s_49, ↓hp_l_49, ↓hp_a_50, ↓hp_s_50, ↓hp_l_50, ↓i1, ↓i2, ↓i3, ↓md10, ↓md4, t1, m_refuse]
      rw [if_neg u1]
      by_cases u2 : (S.2.2.1 x).1 ≠ 0
      · rw [if_pos u2]
        apply mc_set
        intro XI XA XP XC MI MA ML D hV
        obtain ⟨t1, t2, t3⟩ := hV.2.2.2.2.2.2.1 x hx4
        show f_X12_forge sc (n + 40) 26 (iO 3) (iO m) (iO k) _ = _
        rw [e_X12_forge]
        clear hV t3 s6
        simp (disch := (first | assumption | (unfold i32; omega) | (unfold i64; omega) | omega)) only [↓reduceIte, ki_0, ki_1, ki_2, ki_3, ki_4, ki_5, ki_6, ki_7, ki_8, ki_9, ki_10, ki_11, ki_12, ki_13, ki_14, ki_15, ki_20, ki_21, ki_30, ki_31, ki_40, ki_41, ki_50, ki_51, ki_60, ki_63, ki_64, ki_65, ki_100, ki_158, ki_160, ki_200, ki_212, ki_1000, ki_2000, ki_2001, ki_5000, ki_10000, ki_10001, ki_100000, ki_200000, ki_1000000, ki_2000000, ki_3000000, iO_neg, iO_add, iO_sub, iO_mul, kn_4, kn_8, kn_10, kn_20, kn_24, kn_40, kn_41, kn_50, kn_60, kn_158, kn_160, kn_200, kn_212, kn_2001, tn_lt, fn_lt, tn_le, fn_le, tn_eq, fn_eq, x_lt, x_le, x_eq, x_ix, x_nat, t_lt, f_lt, t_le, f_le, t_eq, f_eq, eq_self, and_self, true_and, and_true, false_and, and_false, if_true, if_false, Int.toNat_natCast, bI_s, bL_s, bA_s, bA_n, bV_s, mq_s, mq_n, en_le, bl_0, bl_1, u_eq, u_ne, w_eq, w_ne, v_eq, v_ne, ↓hp_cc_26, ↓hp_g_26_0, ↓hp_p_26_0, ↓hp_g_26_1, ↓hp_p_26_1, ↓hp_g_26_2, ↓hp_p_26_2, ↓hp_g_26_3, ↓hp_g_26_4, ↓hp_g_26_5, ↓hp_g_26_6, ↓hp_g_26_7, ↓hp_g_26_8, ↓hp_g_26_9, ↓hp_g_26_10, ↓hp_g_26_11, ↓hp_g_26_12, ↓hp_g_26_13, ↓hp_g_26_14, ↓hp_g_26_15, ↓hp_p_26_15, ↓hp_g_26_16, ↓hp_g_26_17, ↓hp_g_26_18, ↓hp_p_26_18, ↓hp_g_26_19, ↓hp_p_26_19, ↓hp_g_26_20, ↓hp_g_26_21, ↓hp_p_26_21, ↓hp_g_26_22, ↓hp_g_26_23, ↓hp_g_26_24, ↓hp_g_26_25, ↓hp_g_26_26, ↓hp_g_26_27, ↓hp_g_26_28, ↓hp_g_26_29, ↓hp_g_26_30, ↓hp_p_26_30, ↓hp_g_26_31, ↓hp_g_26_32, ↓hp_p_26_32, ↓hp_a_27, ↓hp_s_27, ↓hp_l_27, ↓hp_a_28, ↓hp_s_28, ↓hp_l_28, ↓hp_a_29, ↓hp_s_29, ↓hp_l_29, ↓hp_a_30, ↓hp_s_30, ↓hp_l_30, ↓hp_a_31, ↓hp_s_31, ↓hp_l_31, ↓hp_a_32, ↓hp_s_32, ↓hp_l_32, ↓hp_a_33, ↓hp_s_33, ↓hp_l_33, ↓hp_a_34, ↓hp_s_34, ↓hp_l_34, ↓hp_a_35, ↓hp_s_35, ↓hp_l_35, ↓hp_a_36, ↓hp_s_36, ↓hp_l_36, ↓hp_a_37, ↓hp_s_37, ↓hp_l_37, ↓hp_a_38, ↓hp_s_38, ↓hp_l_38, ↓hp_a_39, ↓hp_s_39, ↓hp_a_40, ↓hp_s_40, ↓hp_a_41, ↓hp_s_41, ↓hp_l_41, ↓hp_a_42, ↓hp_s_42, ↓hp_l_42, ↓hp_a_43, ↓hp_s_43, ↓hp_l_43, ↓hp_a_44, ↓hp_s_44, ↓hp_l_44, ↓hp_a_45, ↓hp_s_45, ↓hp_l_45, ↓hp_a_46, ↓hp_s_46, ↓hp_l_46, ↓hp_a_47, ↓hp_s_47, ↓hp_l_47, ↓hp_a_48, ↓hp_s_48, ↓hp_l_48, ↓hp_a_49, ↓hp_s_49, ↓hp_l_49, ↓hp_a_50, ↓hp_s_50, ↓hp_l_50, ↓i1, ↓i2, ↓i3, ↓md10, ↓md4, t1, m_refuse]
      rw [if_neg u2]
      have u2 : (S.2.2.1 x).1 = 0 := by omega
      by_cases u3 : 0 ≤ m ∧ 1 + m ≤ (S.2.2.1 x).2.1 ∧ m + m ≤ 6
      · rw [if_pos u3]
        obtain ⟨u4, u5, u6⟩ := u3
        obtain ⟨y, rfl⟩ : ∃ y : Nat, m = y := ⟨m.toNat, by omega⟩
        rw [Int.toNat_natCast]
        apply mc_set
        intro XI XA XP XC MI MA ML D hV
        obtain ⟨t1, t2, t3⟩ := hV.2.2.2.2.2.2.1 x hx4
        have hl := m_forge_loop (sc := sc) (n := n + 38) (XI := XI) (XA := XA) (XP := XP) (XC := XC) (MI := MI) (ML := ML) (D := D) hx4 (N := y) (by omega) t3 y 0 (by omega)
        have hl : b_X12_forge_20 sc (n + 39) 26 (iO (y : Int)) (iO (x : Int)) (iO 0) (iO 1) (hp XI XA XP XC MI MA ML D) = _ := hl
        show f_X12_forge sc (n + 40) 26 (iO 3) (iO (y : Int)) (iO k) _ = _
        rw [e_X12_forge]
        clear hV t3 s6
        simp (disch := (first | assumption | (unfold i32; omega) | (unfold i64; omega) | omega)) only [↓reduceIte, ki_0, ki_1, ki_2, ki_3, ki_4, ki_5, ki_6, ki_7, ki_8, ki_9, ki_10, ki_11, ki_12, ki_13, ki_14, ki_15, ki_20, ki_21, ki_30, ki_31, ki_40, ki_41, ki_50, ki_51, ki_60, ki_63, ki_64, ki_65, ki_100, ki_158, ki_160, ki_200, ki_212, ki_1000, ki_2000, ki_2001, ki_5000, ki_10000, ki_10001, ki_100000, ki_200000, ki_1000000, ki_2000000, ki_3000000, iO_neg, iO_add, iO_sub, iO_mul, kn_4, kn_8, kn_10, kn_20, kn_24, kn_40, kn_41, kn_50, kn_60, kn_158, kn_160, kn_200, kn_212, kn_2001, tn_lt, fn_lt, tn_le, fn_le, tn_eq, fn_eq, x_lt, x_le, x_eq, x_ix, x_nat, t_lt, f_lt, t_le, f_le, t_eq, f_eq, eq_self, and_self, true_and, and_true, false_and, and_false, if_true, if_false, Int.toNat_natCast, bI_s, bL_s, bA_s, bA_n, bV_s, mq_s, mq_n, en_le, bl_0, bl_1, u_eq, u_ne, w_eq, w_ne, v_eq, v_ne, ↓hp_cc_26, ↓hp_g_26_0, ↓hp_p_26_0, ↓hp_g_26_1, ↓hp_p_26_1, ↓hp_g_26_2, ↓hp_p_26_2, ↓hp_g_26_3, ↓hp_g_26_4, ↓hp_g_26_5, ↓hp_g_26_6, ↓hp_g_26_7, ↓hp_g_26_8, ↓hp_g_26_9, ↓hp_g_26_10, ↓hp_g_26_11, ↓hp_g_26_12, ↓hp_g_26_13, ↓hp_g_26_14, ↓hp_g_26_15, ↓hp_p_26_15, ↓hp_g_26_16, ↓hp_g_26_17, ↓hp_g_26_18, ↓hp_p_26_18, ↓hp_g_26_19, ↓hp_p_26_19, ↓hp_g_26_20, ↓hp_g_26_21, ↓hp_p_26_21, ↓hp_g_26_22, ↓hp_g_26_23, ↓hp_g_26_24, ↓hp_g_26_25, ↓hp_g_26_26, ↓hp_g_26_27, ↓hp_g_26_28, ↓hp_g_26_29, ↓hp_g_26_30, ↓hp_p_26_30, ↓hp_g_26_31, ↓hp_g_26_32, ↓hp_p_26_32, ↓hp_a_27, ↓hp_s_27, ↓hp_l_27, ↓hp_a_28, ↓hp_s_28, ↓hp_l_28, ↓hp_a_29, ↓hp_s_29, ↓hp_l_29, ↓hp_a_30, ↓hp_s_30, ↓hp_l_30, ↓hp_a_31, ↓hp_s_31, ↓hp_l_31, ↓hp_a_32, ↓hp_s_32, ↓hp_l_32, ↓hp_a_33, ↓hp_s_33, ↓hp_l_33, ↓hp_a_34, ↓hp_s_34, ↓hp_l_34, ↓hp_a_35, ↓hp_s_35, ↓hp_l_35, ↓hp_a_36, ↓hp_s_36, ↓hp_l_36, ↓hp_a_37, ↓hp_s_37, ↓hp_l_37, ↓hp_a_38, ↓hp_s_38, ↓hp_l_38, ↓hp_a_39, ↓hp_s_39, ↓hp_a_40, ↓hp_s_40, ↓hp_a_41, ↓hp_s_41, ↓hp_l_41, ↓hp_a_42, ↓hp_s_42, ↓hp_l_42, ↓hp_a_43, ↓hp_s_43, ↓hp_l_43, ↓hp_a_44, ↓hp_s_44, ↓hp_l_44, ↓hp_a_45, ↓hp_s_45, ↓hp_l_45, ↓hp_a_46, ↓hp_s_46, ↓hp_l_46, ↓hp_a_47, ↓hp_s_47, ↓hp_l_47, ↓hp_a_48, ↓hp_s_48, ↓hp_l_48, ↓hp_a_49, ↓hp_s_49, ↓hp_l_49, ↓hp_a_50, ↓hp_s_50, ↓hp_l_50, ↓i1, ↓i2, ↓i3, ↓md10, ↓md4, t1, t2, hl]
      · rw [if_neg u3]
        apply mc_set
        intro XI XA XP XC MI MA ML D hV
        obtain ⟨t1, t2, t3⟩ := hV.2.2.2.2.2.2.1 x hx4
        show f_X12_forge sc (n + 40) 26 (iO 3) (iO m) (iO k) _ = _
        rw [e_X12_forge]
        clear hV t3 s6
        rcases Int.lt_or_le m 0 with v | v
        · clear u3; simp (disch := (first | assumption | (unfold i32; omega) | (unfold i64; omega) | omega)) only [↓reduceIte, ki_0, ki_1, ki_2, ki_3, ki_4, ki_5, ki_6, ki_7, ki_8, ki_9, ki_10, ki_11, ki_12, ki_13, ki_14, ki_15, ki_20, ki_21, ki_30, ki_31, ki_40, ki_41, ki_50, ki_51, ki_60, ki_63, ki_64, ki_65, ki_100, ki_158, ki_160, ki_200, ki_212, ki_1000, ki_2000, ki_2001, ki_5000, ki_10000, ki_10001, ki_100000, ki_200000, ki_1000000, ki_2000000, ki_3000000, iO_neg, iO_add, iO_sub, iO_mul, kn_4, kn_8, kn_10, kn_20, kn_24, kn_40, kn_41, kn_50, kn_60, kn_158, kn_160, kn_200, kn_212, kn_2001, tn_lt, fn_lt, tn_le, fn_le, tn_eq, fn_eq, x_lt, x_le, x_eq, x_ix, x_nat, t_lt, f_lt, t_le, f_le, t_eq, f_eq, eq_self, and_self, true_and, and_true, false_and, and_false, if_true, if_false, Int.toNat_natCast, bI_s, bL_s, bA_s, bA_n, bV_s, mq_s, mq_n, en_le, bl_0, bl_1, u_eq, u_ne, w_eq, w_ne, v_eq, v_ne, ↓hp_cc_26, ↓hp_g_26_0, ↓hp_p_26_0, ↓hp_g_26_1, ↓hp_p_26_1, ↓hp_g_26_2, ↓hp_p_26_2, ↓hp_g_26_3, ↓hp_g_26_4, ↓hp_g_26_5, ↓hp_g_26_6, ↓hp_g_26_7, ↓hp_g_26_8, ↓hp_g_26_9, ↓hp_g_26_10, ↓hp_g_26_11, ↓hp_g_26_12, ↓hp_g_26_13, ↓hp_g_26_14, ↓hp_g_26_15, ↓hp_p_26_15, ↓hp_g_26_16, ↓hp_g_26_17, ↓hp_g_26_18, ↓hp_p_26_18, ↓hp_g_26_19, ↓hp_p_26_19, ↓hp_g_26_20, ↓hp_g_26_21, ↓hp_p_26_21, ↓hp_g_26_22, ↓hp_g_26_23, ↓hp_g_26_24, ↓hp_g_26_25, ↓hp_g_26_26, ↓hp_g_26_27, ↓hp_g_26_28, ↓hp_g_26_29, ↓hp_g_26_30, ↓hp_p_26_30, ↓hp_g_26_31, ↓hp_g_26_32, ↓hp_p_26_32, ↓hp_a_27, ↓hp_s_27, ↓hp_l_27, ↓hp_a_28, ↓hp_s_28, ↓hp_l_28, ↓hp_a_29, ↓hp_s_29, ↓hp_l_29, ↓hp_a_30, ↓hp_s_30, ↓hp_l_30, ↓hp_a_31, ↓hp_s_31, ↓hp_l_31, ↓hp_a_32, ↓hp_s_32, ↓hp_l_32, ↓hp_a_33, ↓hp_s_33, ↓hp_l_33, ↓hp_a_34, ↓hp_s_34, ↓hp_l_34, ↓hp_a_35, ↓hp_s_35, ↓hp_l_35, ↓hp_a_36, ↓hp_s_36, ↓hp_l_36, ↓hp_a_37, ↓hp_s_37, ↓hp_l_37, ↓hp_a_38, ↓hp_s_38, ↓hp_l_38, ↓hp_a_39, ↓hp_s_39, ↓hp_a_40, ↓hp_s_40, ↓hp_a_41, ↓hp_s_41, ↓hp_l_41, ↓hp_a_42, ↓hp_s_42, ↓hp_l_42, ↓hp_a_43, ↓hp_s_43, ↓hp_l_43, ↓hp_a_44, ↓hp_s_44, ↓hp_l_44, ↓hp_a_45, ↓hp_s_45, ↓hp_l_45, ↓hp_a_46, ↓hp_s_46, ↓hp_l_46, ↓hp_a_47, ↓hp_s_47, ↓hp_l_47, ↓hp_a_48, ↓hp_s_48, ↓hp_l_48, ↓hp_a_49, ↓hp_s_49, ↓hp_l_49, ↓hp_a_50, ↓hp_s_50, ↓hp_l_50, ↓i1, ↓i2, ↓i3, ↓md10, ↓md4, t1, t2, m_refuse]
        rcases Int.lt_or_le (S.2.2.1 x).2.1 (1 + m) with v2 | v2
        · clear u3; simp (disch := (first | assumption | (unfold i32; omega) | (unfold i64; omega) | omega)) only [↓reduceIte, ki_0, ki_1, ki_2, ki_3, ki_4, ki_5, ki_6, ki_7, ki_8, ki_9, ki_10, ki_11, ki_12, ki_13, ki_14, ki_15, ki_20, ki_21, ki_30, ki_31, ki_40, ki_41, ki_50, ki_51, ki_60, ki_63, ki_64, ki_65, ki_100, ki_158, ki_160, ki_200, ki_212, ki_1000, ki_2000, ki_2001, ki_5000, ki_10000, ki_10001, ki_100000, ki_200000, ki_1000000, ki_2000000, ki_3000000, iO_neg, iO_add, iO_sub, iO_mul, kn_4, kn_8, kn_10, kn_20, kn_24, kn_40, kn_41, kn_50, kn_60, kn_158, kn_160, kn_200, kn_212, kn_2001, tn_lt, fn_lt, tn_le, fn_le, tn_eq, fn_eq, x_lt, x_le, x_eq, x_ix, x_nat, t_lt, f_lt, t_le, f_le, t_eq, f_eq, eq_self, and_self, true_and, and_true, false_and, and_false, if_true, if_false, Int.toNat_natCast, bI_s, bL_s, bA_s, bA_n, bV_s, mq_s, mq_n, en_le, bl_0, bl_1, u_eq, u_ne, w_eq, w_ne, v_eq, v_ne, ↓hp_cc_26, ↓hp_g_26_0, ↓hp_p_26_0, ↓hp_g_26_1, ↓hp_p_26_1, ↓hp_g_26_2, ↓hp_p_26_2, ↓hp_g_26_3, ↓hp_g_26_4, ↓hp_g_26_5, ↓hp_g_26_6, ↓hp_g_26_7, ↓hp_g_26_8, ↓hp_g_26_9, ↓hp_g_26_10, ↓hp_g_26_11, ↓hp_g_26_12, ↓hp_g_26_13, ↓hp_g_26_14, ↓hp_g_26_15, ↓hp_p_26_15, ↓hp_g_26_16, ↓hp_g_26_17, ↓hp_g_26_18, ↓hp_p_26_18, ↓hp_g_26_19, ↓hp_p_26_19, ↓hp_g_26_20, ↓hp_g_26_21, ↓hp_p_26_21, ↓hp_g_26_22, ↓hp_g_26_23, ↓hp_g_26_24, ↓hp_g_26_25, ↓hp_g_26_26, ↓hp_g_26_27, ↓hp_g_26_28, ↓hp_g_26_29, ↓hp_g_26_30, ↓hp_p_26_30, ↓hp_g_26_31, ↓hp_g_26_32, ↓hp_p_26_32, ↓hp_a_27, ↓hp_s_27, ↓hp_l_27, ↓hp_a_28, ↓hp_s_28, ↓hp_l_28, ↓hp_a_29, ↓hp_s_29, ↓hp_l_29, ↓hp_a_30, ↓hp_s_30, ↓hp_l_30, ↓hp_a_31, ↓hp_s_31, ↓hp_l_31, ↓hp_a_32, ↓hp_s_32, ↓hp_l_32, ↓hp_a_33, ↓hp_s_33, ↓hp_l_33, ↓hp_a_34, ↓hp_s_34, ↓hp_l_34, ↓hp_a_35, ↓hp_s_35, ↓hp_l_35, ↓hp_a_36, ↓hp_s_36, ↓hp_l_36, ↓hp_a_37, ↓hp_s_37, ↓hp_l_37, ↓hp_a_38, ↓hp_s_38, ↓hp_l_38, ↓hp_a_39, ↓hp_s_39, ↓hp_a_40, ↓hp_s_40, ↓hp_a_41, ↓hp_s_41, ↓hp_l_41, ↓hp_a_42, ↓hp_s_42, ↓hp_l_42, ↓hp_a_43, ↓hp_s_43, ↓hp_l_43, ↓hp_a_44, ↓hp_s_44, ↓hp_l_44, ↓hp_a_45, ↓hp_s_45, ↓hp_l_45, ↓hp_a_46, ↓hp_s_46, ↓hp_l_46, ↓hp_a_47, ↓hp_s_47, ↓hp_l_47, ↓hp_a_48, ↓hp_s_48, ↓hp_l_48, ↓hp_a_49, ↓hp_s_49, ↓hp_l_49, ↓hp_a_50, ↓hp_s_50, ↓hp_l_50, ↓i1, ↓i2, ↓i3, ↓md10, ↓md4, t1, t2, m_refuse]
        · have v3 : 6 < m + m := by omega
          clear u3; simp (disch := (first | assumption | (unfold i32; omega) | (unfold i64; omega) | omega)) only [↓reduceIte, ki_0, ki_1, ki_2, ki_3, ki_4, ki_5, ki_6, ki_7, ki_8, ki_9, ki_10, ki_11, ki_12, ki_13, ki_14, ki_15, ki_20, ki_21, ki_30, ki_31, ki_40, ki_41, ki_50, ki_51, ki_60, ki_63, ki_64, ki_65, ki_100, ki_158, ki_160, ki_200, ki_212, ki_1000, ki_2000, ki_2001, ki_5000, ki_10000, ki_10001, ki_100000, ki_200000, ki_1000000, ki_2000000, ki_3000000, iO_neg, iO_add, iO_sub, iO_mul, kn_4, kn_8, kn_10, kn_20, kn_24, kn_40, kn_41, kn_50, kn_60, kn_158, kn_160, kn_200, kn_212, kn_2001, tn_lt, fn_lt, tn_le, fn_le, tn_eq, fn_eq, x_lt, x_le, x_eq, x_ix, x_nat, t_lt, f_lt, t_le, f_le, t_eq, f_eq, eq_self, and_self, true_and, and_true, false_and, and_false, if_true, if_false, Int.toNat_natCast, bI_s, bL_s, bA_s, bA_n, bV_s, mq_s, mq_n, en_le, bl_0, bl_1, u_eq, u_ne, w_eq, w_ne, v_eq, v_ne, ↓hp_cc_26, ↓hp_g_26_0, ↓hp_p_26_0, ↓hp_g_26_1, ↓hp_p_26_1, ↓hp_g_26_2, ↓hp_p_26_2, ↓hp_g_26_3, ↓hp_g_26_4, ↓hp_g_26_5, ↓hp_g_26_6, ↓hp_g_26_7, ↓hp_g_26_8, ↓hp_g_26_9, ↓hp_g_26_10, ↓hp_g_26_11, ↓hp_g_26_12, ↓hp_g_26_13, ↓hp_g_26_14, ↓hp_g_26_15, ↓hp_p_26_15, ↓hp_g_26_16, ↓hp_g_26_17, ↓hp_g_26_18, ↓hp_p_26_18, ↓hp_g_26_19, ↓hp_p_26_19, ↓hp_g_26_20, ↓hp_g_26_21, ↓hp_p_26_21, ↓hp_g_26_22, ↓hp_g_26_23, ↓hp_g_26_24, ↓hp_g_26_25, ↓hp_g_26_26, ↓hp_g_26_27, ↓hp_g_26_28, ↓hp_g_26_29, ↓hp_g_26_30, ↓hp_p_26_30, ↓hp_g_26_31, ↓hp_g_26_32, ↓hp_p_26_32, ↓hp_a_27, ↓hp_s_27, ↓hp_l_27, ↓hp_a_28, ↓hp_s_28, ↓hp_l_28, ↓hp_a_29, ↓hp_s_29, ↓hp_l_29, ↓hp_a_30, ↓hp_s_30, ↓hp_l_30, ↓hp_a_31, ↓hp_s_31, ↓hp_l_31, ↓hp_a_32, ↓hp_s_32, ↓hp_l_32, ↓hp_a_33, ↓hp_s_33, ↓hp_l_33, ↓hp_a_34, ↓hp_s_34, ↓hp_l_34, ↓hp_a_35, ↓hp_s_35, ↓hp_l_35, ↓hp_a_36, ↓hp_s_36, ↓hp_l_36, ↓hp_a_37, ↓hp_s_37, ↓hp_l_37, ↓hp_a_38, ↓hp_s_38, ↓hp_l_38, ↓hp_a_39, ↓hp_s_39, ↓hp_a_40, ↓hp_s_40, ↓hp_a_41, ↓hp_s_41, ↓hp_l_41, ↓hp_a_42, ↓hp_s_42, ↓hp_l_42, ↓hp_a_43, ↓hp_s_43, ↓hp_l_43, ↓hp_a_44, ↓hp_s_44, ↓hp_l_44, ↓hp_a_45, ↓hp_s_45, ↓hp_l_45, ↓hp_a_46, ↓hp_s_46, ↓hp_l_46, ↓hp_a_47, ↓hp_s_47, ↓hp_l_47, ↓hp_a_48, ↓hp_s_48, ↓hp_l_48, ↓hp_a_49, ↓hp_s_49, ↓hp_l_49, ↓hp_a_50, ↓hp_s_50, ↓hp_l_50, ↓i1, ↓i2, ↓i3, ↓md10, ↓md4, t1, t2, m_refuse]
    · rw [if_neg (by decide), if_neg (by decide), if_neg (by decide), if_neg (by decide), if_pos rfl]
      cases hq : rowq S (k % 10) with
      | none =>
        apply mc_set
        intro XI XA XP XC MI MA ML D hV
        have hrn := rowq_none hq
        have hrow := e_misRow (sc := sc) (n := n + 37) (XI := XI) (XA := XA) (XP := XP) (XC := XC) (ML := ML) (D0 := D) hV hS (s := k % 10) (by unfold i32; omega)
        rw [if_neg (by omega)] at hrow
        have hrow : ∀ (f : Int32 → en_H → Option en_R), en_bI (f_X12_isRow sc (n + 39) 26 (iO (k % 10)) (hp XI XA XP XC MI MA ML D)) f = f (iO 0) (hp XI XA XP XC MI MA ML D) := fun f => by rw [hrow, bI_s]
        show f_X12_forge sc (n + 40) 26 (iO 4) (iO m) (iO k) _ = _
        rw [e_X12_forge]
        clear hV hrn
        simp (disch := (first | assumption | (unfold i32; omega) | (unfold i64; omega) | omega)) only [↓reduceIte, ki_0, ki_1, ki_2, ki_3, ki_4, ki_5, ki_6, ki_7, ki_8, ki_9, ki_10, ki_11, ki_12, ki_13, ki_14, ki_15, ki_20, ki_21, ki_30, ki_31, ki_40, ki_41, ki_50, ki_51, ki_60, ki_63, ki_64, ki_65, ki_100, ki_158, ki_160, ki_200, ki_212, ki_1000, ki_2000, ki_2001, ki_5000, ki_10000, ki_10001, ki_100000, ki_200000, ki_1000000, ki_2000000, ki_3000000, iO_neg, iO_add, iO_sub, iO_mul, kn_4, kn_8, kn_10, kn_20, kn_24, kn_40, kn_41, kn_50, kn_60, kn_158, kn_160, kn_200, kn_212, kn_2001, tn_lt, fn_lt, tn_le, fn_le, tn_eq, fn_eq, x_lt, x_le, x_eq, x_ix, x_nat, t_lt, f_lt, t_le, f_le, t_eq, f_eq, eq_self, and_self, true_and, and_true, false_and, and_false, if_true, if_false, Int.toNat_natCast, bI_s, bL_s, bA_s, bA_n, bV_s, mq_s, mq_n, en_le, bl_0, bl_1, u_eq, u_ne, w_eq, w_ne, v_eq, v_ne, ↓hp_cc_26, ↓hp_g_26_0, ↓hp_p_26_0, ↓hp_g_26_1, ↓hp_p_26_1, ↓hp_g_26_2, ↓hp_p_26_2, ↓hp_g_26_3, ↓hp_g_26_4, ↓hp_g_26_5, ↓hp_g_26_6, ↓hp_g_26_7, ↓hp_g_26_8, ↓hp_g_26_9, ↓hp_g_26_10, ↓hp_g_26_11, ↓hp_g_26_12, ↓hp_g_26_13, ↓hp_g_26_14, ↓hp_g_26_15, ↓hp_p_26_15, ↓hp_g_26_16, ↓hp_g_26_17, ↓hp_g_26_18, ↓hp_p_26_18, ↓hp_g_26_19, ↓hp_p_26_19, ↓hp_g_26_20, ↓hp_g_26_21, ↓hp_p_26_21, ↓hp_g_26_22, ↓hp_g_26_23, ↓hp_g_26_24, ↓hp_g_26_25, ↓hp_g_26_26, ↓hp_g_26_27, ↓hp_g_26_28, ↓hp_g_26_29, ↓hp_g_26_30, ↓hp_p_26_30, ↓hp_g_26_31, ↓hp_g_26_32, ↓hp_p_26_32, ↓hp_a_27, ↓hp_s_27, ↓hp_l_27, ↓hp_a_28, ↓hp_s_28, ↓hp_l_28, ↓hp_a_29, ↓hp_s_29, ↓hp_l_29, ↓hp_a_30, ↓hp_s_30, ↓hp_l_30, ↓hp_a_31, ↓hp_s_31, ↓hp_l_31, ↓hp_a_32, ↓hp_s_32, ↓hp_l_32, ↓hp_a_33, ↓hp_s_33, ↓hp_l_33, ↓hp_a_34, ↓hp_s_34, ↓hp_l_34, ↓hp_a_35, ↓hp_s_35, ↓hp_l_35, ↓hp_a_36, ↓hp_s_36, ↓hp_l_36, ↓hp_a_37, ↓hp_s_37, ↓hp_l_37, ↓hp_a_38, ↓hp_s_38, ↓hp_l_38, ↓hp_a_39, ↓hp_s_39, ↓hp_a_40, ↓hp_s_40, ↓hp_a_41, ↓hp_s_41, ↓hp_l_41, ↓hp_a_42, ↓hp_s_42, ↓hp_l_42, ↓hp_a_43, ↓hp_s_43, ↓hp_l_43, ↓hp_a_44, ↓hp_s_44, ↓hp_l_44, ↓hp_a_45, ↓hp_s_45, ↓hp_l_45, ↓hp_a_46, ↓hp_s_46, ↓hp_l_46, ↓hp_a_47, ↓hp_s_47, ↓hp_l_47, ↓hp_a_48, ↓hp_s_48, ↓hp_l_48, ↓hp_a_49, ↓hp_s_49, ↓hp_l_49, ↓hp_a_50, ↓hp_s_50, ↓hp_l_50, ↓i1, ↓i2, ↓i3, ↓md10, ↓md4, ↓hrow, m_done]
      | some q =>
        obtain ⟨r, hr, hk2, hq2⟩ := rowq_some hq
        have hR := hS.2.2.2.1 q (List.mem_of_getElem? hq2)
        have hq0 := hR.1
        have hq4 := hR.2.1
        dsimp only
        have hmain : ∀ (a j : Int), ((q.1 = 1 ∨ q.1 = 2 ∨ q.1 = 4) ∧ a = q.1 ∧ j = 0) ∨ (¬ (q.1 = 1 ∨ q.1 = 2 ∨ q.1 = 4) ∧ a = -1 ∧ j = 14) → MC S (sst S j) a (fun z => f_X12_forge sc (n + 40) 26 (iO 4) (iO m) (iO k) z) := by
          intro a j haj
          apply mc_set
          intro XI XA XP XC MI MA ML D hV
          obtain ⟨c1, c2, c3, c4⟩ := hV.2.2.2.2.2.1 r q hq2
          have hrow := e_misRow (sc := sc) (n := n + 37) (XI := XI) (XA := XA) (XP := XP) (XC := XC) (ML := ML) (D0 := D) hV hS (s := k % 10) (by unfold i32; omega)
          rw [if_pos (by omega)] at hrow
          have hrow : ∀ (f : Int32 → en_H → Option en_R), en_bI (f_X12_isRow sc (n + 39) 26 (iO (k % 10)) (hp XI XA XP XC MI MA ML D)) f = f (iO 1) (hp XI XA XP XC MI MA ML D) := fun f => by rw [hrow, bI_s]
          have hun := fun z => m_isUnder (sc := sc) (n := n + 38) (a := q.1) (b := 1) (z := z) hq0 hq4 (by omega) (by omega)
          show f_X12_forge sc (n + 40) 26 (iO 4) (iO m) (iO k) _ = _
          rw [e_X12_forge]
          rw [hr] at hrow md10
          rcases haj with ⟨u1, rfl, rfl⟩ | ⟨u1, rfl, rfl⟩
          · rw [if_pos (by omega)] at hun
            clear hV c4 u1
            simp (disch := (first | assumption | (unfold i32; omega) | (unfold i64; omega) | omega)) only [↓reduceIte, ki_0, ki_1, ki_2, ki_3, ki_4, ki_5, ki_6, ki_7, ki_8, ki_9, ki_10, ki_11, ki_12, ki_13, ki_14, ki_15, ki_20, ki_21, ki_30, ki_31, ki_40, ki_41, ki_50, ki_51, ki_60, ki_63, ki_64, ki_65, ki_100, ki_158, ki_160, ki_200, ki_212, ki_1000, ki_2000, ki_2001, ki_5000, ki_10000, ki_10001, ki_100000, ki_200000, ki_1000000, ki_2000000, ki_3000000, iO_neg, iO_add, iO_sub, iO_mul, kn_4, kn_8, kn_10, kn_20, kn_24, kn_40, kn_41, kn_50, kn_60, kn_158, kn_160, kn_200, kn_212, kn_2001, tn_lt, fn_lt, tn_le, fn_le, tn_eq, fn_eq, x_lt, x_le, x_eq, x_ix, x_nat, t_lt, f_lt, t_le, f_le, t_eq, f_eq, eq_self, and_self, true_and, and_true, false_and, and_false, if_true, if_false, Int.toNat_natCast, bI_s, bL_s, bA_s, bA_n, bV_s, mq_s, mq_n, en_le, bl_0, bl_1, u_eq, u_ne, w_eq, w_ne, v_eq, v_ne, ↓hp_cc_26, ↓hp_g_26_0, ↓hp_p_26_0, ↓hp_g_26_1, ↓hp_p_26_1, ↓hp_g_26_2, ↓hp_p_26_2, ↓hp_g_26_3, ↓hp_g_26_4, ↓hp_g_26_5, ↓hp_g_26_6, ↓hp_g_26_7, ↓hp_g_26_8, ↓hp_g_26_9, ↓hp_g_26_10, ↓hp_g_26_11, ↓hp_g_26_12, ↓hp_g_26_13, ↓hp_g_26_14, ↓hp_g_26_15, ↓hp_p_26_15, ↓hp_g_26_16, ↓hp_g_26_17, ↓hp_g_26_18, ↓hp_p_26_18, ↓hp_g_26_19, ↓hp_p_26_19, ↓hp_g_26_20, ↓hp_g_26_21, ↓hp_p_26_21, ↓hp_g_26_22, ↓hp_g_26_23, ↓hp_g_26_24, ↓hp_g_26_25, ↓hp_g_26_26, ↓hp_g_26_27, ↓hp_g_26_28, ↓hp_g_26_29, ↓hp_g_26_30, ↓hp_p_26_30, ↓hp_g_26_31, ↓hp_g_26_32, ↓hp_p_26_32, ↓hp_a_27, ↓hp_s_27, ↓hp_l_27, ↓hp_a_28, ↓hp_s_28, ↓hp_l_28, ↓hp_a_29, ↓hp_s_29, ↓hp_l_29, ↓hp_a_30, ↓hp_s_30, ↓hp_l_30, ↓hp_a_31, ↓hp_s_31, ↓hp_l_31, ↓hp_a_32, ↓hp_s_32, ↓hp_l_32, ↓hp_a_33, ↓hp_s_33, ↓hp_l_33, ↓hp_a_34, ↓hp_s_34, ↓hp_l_34, ↓hp_a_35, ↓hp_s_35, ↓hp_l_35, ↓hp_a_36, ↓hp_s_36, ↓hp_l_36, ↓hp_a_37, ↓hp_s_37, ↓hp_l_37, ↓hp_a_38, ↓hp_s_38, ↓hp_l_38, ↓hp_a_39, ↓hp_s_39, ↓hp_a_40, ↓hp_s_40, ↓hp_a_41, ↓hp_s_41, ↓hp_l_41, ↓hp_a_42, ↓hp_s_42, ↓hp_l_42, ↓hp_a_43, ↓hp_s_43, ↓hp_l_43, ↓hp_a_44, ↓hp_s_44, ↓hp_l_44, ↓hp_a_45, ↓hp_s_45, ↓hp_l_45, ↓hp_a_46, ↓hp_s_46, ↓hp_l_46, ↓hp_a_47, ↓hp_s_47, ↓hp_l_47, ↓hp_a_48, ↓hp_s_48, ↓hp_l_48, ↓hp_a_49, ↓hp_s_49, ↓hp_l_49, ↓hp_a_50, ↓hp_s_50, ↓hp_l_50, ↓i1, ↓i2, ↓i3, ↓md10, ↓md4, ↓hrow, c1, hun, m_done]
          · rw [if_neg (by omega)] at hun
            clear hV c4 u1
            simp (disch := (first | assumption | (unfold i32; omega) | (unfold i64; omega) | omega)) only [↓reduceIte, ki_0, ki_1, ki_2, ki_3, ki_4, ki_5, ki_6, ki_7, ki_8, ki_9, ki_10, ki_11, ki_12, ki_13, ki_14, ki_15, ki_20, ki_21, ki_30, ki_31, ki_40, ki_41, ki_50, ki_51, ki_60, ki_63, ki_64, ki_65, ki_100, ki_158, ki_160, ki_200, ki_212, ki_1000, ki_2000, ki_2001, ki_5000, ki_10000, ki_10001, ki_100000, ki_200000, ki_1000000, ki_2000000, ki_3000000, iO_neg, iO_add, iO_sub, iO_mul, kn_4, kn_8, kn_10, kn_20, kn_24, kn_40, kn_41, kn_50, kn_60, kn_158, kn_160, kn_200, kn_212, kn_2001, tn_lt, fn_lt, tn_le, fn_le, tn_eq, fn_eq, x_lt, x_le, x_eq, x_ix, x_nat, t_lt, f_lt, t_le, f_le, t_eq, f_eq, eq_self, and_self, true_and, and_true, false_and, and_false, if_true, if_false, Int.toNat_natCast, bI_s, bL_s, bA_s, bA_n, bV_s, mq_s, mq_n, en_le, bl_0, bl_1, u_eq, u_ne, w_eq, w_ne, v_eq, v_ne, ↓hp_cc_26, ↓hp_g_26_0, ↓hp_p_26_0, ↓hp_g_26_1, ↓hp_p_26_1, ↓hp_g_26_2, ↓hp_p_26_2, ↓hp_g_26_3, ↓hp_g_26_4, ↓hp_g_26_5, ↓hp_g_26_6, ↓hp_g_26_7, ↓hp_g_26_8, ↓hp_g_26_9, ↓hp_g_26_10, ↓hp_g_26_11, ↓hp_g_26_12, ↓hp_g_26_13, ↓hp_g_26_14, ↓hp_g_26_15, ↓hp_p_26_15, ↓hp_g_26_16, ↓hp_g_26_17, ↓hp_g_26_18, ↓hp_p_26_18, ↓hp_g_26_19, ↓hp_p_26_19, ↓hp_g_26_20, ↓hp_g_26_21, ↓hp_p_26_21, ↓hp_g_26_22, ↓hp_g_26_23, ↓hp_g_26_24, ↓hp_g_26_25, ↓hp_g_26_26, ↓hp_g_26_27, ↓hp_g_26_28, ↓hp_g_26_29, ↓hp_g_26_30, ↓hp_p_26_30, ↓hp_g_26_31, ↓hp_g_26_32, ↓hp_p_26_32, ↓hp_a_27, ↓hp_s_27, ↓hp_l_27, ↓hp_a_28, ↓hp_s_28, ↓hp_l_28, ↓hp_a_29, ↓hp_s_29, ↓hp_l_29, ↓hp_a_30, ↓hp_s_30, ↓hp_l_30, ↓hp_a_31, ↓hp_s_31, ↓hp_l_31, ↓hp_a_32, ↓hp_s_32, ↓hp_l_32, ↓hp_a_33, ↓hp_s_33, ↓hp_l_33, ↓hp_a_34, ↓hp_s_34, ↓hp_l_34, ↓hp_a_35, ↓hp_s_35, ↓hp_l_35, ↓hp_a_36, ↓hp_s_36, ↓hp_l_36, ↓hp_a_37, ↓hp_s_37, ↓hp_l_37, ↓hp_a_38, ↓hp_s_38, ↓hp_l_38, ↓hp_a_39, ↓hp_s_39, ↓hp_a_40, ↓hp_s_40, ↓hp_a_41, ↓hp_s_41, ↓hp_l_41, ↓hp_a_42, ↓hp_s_42, ↓hp_l_42, ↓hp_a_43, ↓hp_s_43, ↓hp_l_43, ↓hp_a_44, ↓hp_s_44, ↓hp_l_44, ↓hp_a_45, ↓hp_s_45, ↓hp_l_45, ↓hp_a_46, ↓hp_s_46, ↓hp_l_46, ↓hp_a_47, ↓hp_s_47, ↓hp_l_47, ↓hp_a_48, ↓hp_s_48, ↓hp_l_48, ↓hp_a_49, ↓hp_s_49, ↓hp_l_49, ↓hp_a_50, ↓hp_s_50, ↓hp_l_50, ↓i1, ↓i2, ↓i3, ↓md10, ↓md4, ↓hrow, c1, hun, m_refuse]
        by_cases u : (q.1 = 1 ∨ q.1 = 2 ∨ q.1 = 4)
        · rw [if_pos u]; exact hmain _ _ (Or.inl ⟨u, rfl, rfl⟩)
        · rw [if_neg u]; exact hmain _ _ (Or.inr ⟨u, rfl, rfl⟩)
    · rw [if_neg (by decide), if_neg (by decide), if_neg (by decide), if_neg (by decide), if_neg (by decide), if_pos rfl]
      by_cases u : m = 0
      · rw [if_pos u]
        apply mc_set
        intro XI XA XP XC MI MA ML D hV
        show f_X12_forge sc (n + 40) 26 (iO 5) (iO m) (iO k) _ = _
        rw [e_X12_forge]
        clear hV
        simp (disch := (first | assumption | (unfold i32; omega) | (unfold i64; omega) | omega)) only [↓reduceIte, ki_0, ki_1, ki_2, ki_3, ki_4, ki_5, ki_6, ki_7, ki_8, ki_9, ki_10, ki_11, ki_12, ki_13, ki_14, ki_15, ki_20, ki_21, ki_30, ki_31, ki_40, ki_41, ki_50, ki_51, ki_60, ki_63, ki_64, ki_65, ki_100, ki_158, ki_160, ki_200, ki_212, ki_1000, ki_2000, ki_2001, ki_5000, ki_10000, ki_10001, ki_100000, ki_200000, ki_1000000, ki_2000000, ki_3000000, iO_neg, iO_add, iO_sub, iO_mul, kn_4, kn_8, kn_10, kn_20, kn_24, kn_40, kn_41, kn_50, kn_60, kn_158, kn_160, kn_200, kn_212, kn_2001, tn_lt, fn_lt, tn_le, fn_le, tn_eq, fn_eq, x_lt, x_le, x_eq, x_ix, x_nat, t_lt, f_lt, t_le, f_le, t_eq, f_eq, eq_self, and_self, true_and, and_true, false_and, and_false, if_true, if_false, Int.toNat_natCast, bI_s, bL_s, bA_s, bA_n, bV_s, mq_s, mq_n, en_le, bl_0, bl_1, u_eq, u_ne, w_eq, w_ne, v_eq, v_ne, ↓hp_cc_26, ↓hp_g_26_0, ↓hp_p_26_0, ↓hp_g_26_1, ↓hp_p_26_1, ↓hp_g_26_2, ↓hp_p_26_2, ↓hp_g_26_3, ↓hp_g_26_4, ↓hp_g_26_5, ↓hp_g_26_6, ↓hp_g_26_7, ↓hp_g_26_8, ↓hp_g_26_9, ↓hp_g_26_10, ↓hp_g_26_11, ↓hp_g_26_12, ↓hp_g_26_13, ↓hp_g_26_14, ↓hp_g_26_15, ↓hp_p_26_15, ↓hp_g_26_16, ↓hp_g_26_17, ↓hp_g_26_18, ↓hp_p_26_18, ↓hp_g_26_19, ↓hp_p_26_19, ↓hp_g_26_20, ↓hp_g_26_21, ↓hp_p_26_21, ↓hp_g_26_22, ↓hp_g_26_23, ↓hp_g_26_24, ↓hp_g_26_25, ↓hp_g_26_26, ↓hp_g_26_27, ↓hp_g_26_28, ↓hp_g_26_29, ↓hp_g_26_30, ↓hp_p_26_30, ↓hp_g_26_31, ↓hp_g_26_32, ↓hp_p_26_32, ↓hp_a_27, ↓hp_s_27, ↓hp_l_27, ↓hp_a_28, ↓hp_s_28, ↓hp_l_28, ↓hp_a_29, ↓hp_s_29, ↓hp_l_29, ↓hp_a_30, ↓hp_s_30, ↓hp_l_30, ↓hp_a_31, ↓hp_s_31, ↓hp_l_31, ↓hp_a_32, ↓hp_s_32, ↓hp_l_32, ↓hp_a_33, ↓hp_s_33, ↓hp_l_33, ↓hp_a_34, ↓hp_s_34, ↓hp_l_34, ↓hp_a_35, ↓hp_s_35, ↓hp_l_35, ↓hp_a_36, ↓hp_s_36, ↓hp_l_36, ↓hp_a_37, ↓hp_s_37, ↓hp_l_37, ↓hp_a_38, ↓hp_s_38, ↓hp_l_38, ↓hp_a_39, ↓hp_s_39, ↓hp_a_40, ↓hp_s_40, ↓hp_a_41, ↓hp_s_41, ↓hp_l_41, ↓hp_a_42, ↓hp_s_42, ↓hp_l_42, ↓hp_a_43, ↓hp_s_43, ↓hp_l_43, ↓hp_a_44, ↓hp_s_44, ↓hp_l_44, ↓hp_a_45, ↓hp_s_45, ↓hp_l_45, ↓hp_a_46, ↓hp_s_46, ↓hp_l_46, ↓hp_a_47, ↓hp_s_47, ↓hp_l_47, ↓hp_a_48, ↓hp_s_48, ↓hp_l_48, ↓hp_a_49, ↓hp_s_49, ↓hp_l_49, ↓hp_a_50, ↓hp_s_50, ↓hp_l_50, ↓i1, ↓i2, ↓i3, ↓md10, ↓md4, m_refuse]
      · rw [if_neg u]
        apply mc_set
        intro XI XA XP XC MI MA ML D hV
        have hdv := div1000' g3 g4 u
        show f_X12_forge sc (n + 40) 26 (iO 5) (iO m) (iO k) _ = _
        rw [e_X12_forge]
        clear hV
        simp (disch := (first | assumption | (unfold i32; omega) | (unfold i64; omega) | omega)) only [↓reduceIte, ki_0, ki_1, ki_2, ki_3, ki_4, ki_5, ki_6, ki_7, ki_8, ki_9, ki_10, ki_11, ki_12, ki_13, ki_14, ki_15, ki_20, ki_21, ki_30, ki_31, ki_40, ki_41, ki_50, ki_51, ki_60, ki_63, ki_64, ki_65, ki_100, ki_158, ki_160, ki_200, ki_212, ki_1000, ki_2000, ki_2001, ki_5000, ki_10000, ki_10001, ki_100000, ki_200000, ki_1000000, ki_2000000, ki_3000000, iO_neg, iO_add, iO_sub, iO_mul, kn_4, kn_8, kn_10, kn_20, kn_24, kn_40, kn_41, kn_50, kn_60, kn_158, kn_160, kn_200, kn_212, kn_2001, tn_lt, fn_lt, tn_le, fn_le, tn_eq, fn_eq, x_lt, x_le, x_eq, x_ix, x_nat, t_lt, f_lt, t_le, f_le, t_eq, f_eq, eq_self, and_self, true_and, and_true, false_and, and_false, if_true, if_false, Int.toNat_natCast, bI_s, bL_s, bA_s, bA_n, bV_s, mq_s, mq_n, en_le, bl_0, bl_1, u_eq, u_ne, w_eq, w_ne, v_eq, v_ne, ↓hp_cc_26, ↓hp_g_26_0, ↓hp_p_26_0, ↓hp_g_26_1, ↓hp_p_26_1, ↓hp_g_26_2, ↓hp_p_26_2, ↓hp_g_26_3, ↓hp_g_26_4, ↓hp_g_26_5, ↓hp_g_26_6, ↓hp_g_26_7, ↓hp_g_26_8, ↓hp_g_26_9, ↓hp_g_26_10, ↓hp_g_26_11, ↓hp_g_26_12, ↓hp_g_26_13, ↓hp_g_26_14, ↓hp_g_26_15, ↓hp_p_26_15, ↓hp_g_26_16, ↓hp_g_26_17, ↓hp_g_26_18, ↓hp_p_26_18, ↓hp_g_26_19, ↓hp_p_26_19, ↓hp_g_26_20, ↓hp_g_26_21, ↓hp_p_26_21, ↓hp_g_26_22, ↓hp_g_26_23, ↓hp_g_26_24, ↓hp_g_26_25, ↓hp_g_26_26, ↓hp_g_26_27, ↓hp_g_26_28, ↓hp_g_26_29, ↓hp_g_26_30, ↓hp_p_26_30, ↓hp_g_26_31, ↓hp_g_26_32, ↓hp_p_26_32, ↓hp_a_27, ↓hp_s_27, ↓hp_l_27, ↓hp_a_28, ↓hp_s_28, ↓hp_l_28, ↓hp_a_29, ↓hp_s_29, ↓hp_l_29, ↓hp_a_30, ↓hp_s_30, ↓hp_l_30, ↓hp_a_31, ↓hp_s_31, ↓hp_l_31, ↓hp_a_32, ↓hp_s_32, ↓hp_l_32, ↓hp_a_33, ↓hp_s_33, ↓hp_l_33, ↓hp_a_34, ↓hp_s_34, ↓hp_l_34, ↓hp_a_35, ↓hp_s_35, ↓hp_l_35, ↓hp_a_36, ↓hp_s_36, ↓hp_l_36, ↓hp_a_37, ↓hp_s_37, ↓hp_l_37, ↓hp_a_38, ↓hp_s_38, ↓hp_l_38, ↓hp_a_39, ↓hp_s_39, ↓hp_a_40, ↓hp_s_40, ↓hp_a_41, ↓hp_s_41, ↓hp_l_41, ↓hp_a_42, ↓hp_s_42, ↓hp_l_42, ↓hp_a_43, ↓hp_s_43, ↓hp_l_43, ↓hp_a_44, ↓hp_s_44, ↓hp_l_44, ↓hp_a_45, ↓hp_s_45, ↓hp_l_45, ↓hp_a_46, ↓hp_s_46, ↓hp_l_46, ↓hp_a_47, ↓hp_s_47, ↓hp_l_47, ↓hp_a_48, ↓hp_s_48, ↓hp_l_48, ↓hp_a_49, ↓hp_s_49, ↓hp_l_49, ↓hp_a_50, ↓hp_s_50, ↓hp_l_50, ↓i1, ↓i2, ↓i3, ↓md10, ↓md4, hdv, m_done]
    · rw [if_neg (by decide), if_neg (by decide), if_neg (by decide), if_neg (by decide), if_neg (by decide), if_neg (by decide)]
      have hm2 := mod2' g3 g4
      rw [ki_2, ki_0] at hm2
      by_cases u : m % 2 = 0
      · rw [if_pos u]
        apply mc_set
        intro XI XA XP XC MI MA ML D hV
        rw [eq_true u] at hm2
        show f_X12_forge sc (n + 40) 26 (iO 6) (iO m) (iO k) _ = _
        rw [e_X12_forge]
        clear hV
        simp (disch := (first | assumption | (unfold i32; omega) | (unfold i64; omega) | omega)) only [↓reduceIte, ki_0, ki_1, ki_2, ki_3, ki_4, ki_5, ki_6, ki_7, ki_8, ki_9, ki_10, ki_11, ki_12, ki_13, ki_14, ki_15, ki_20, ki_21, ki_30, ki_31, ki_40, ki_41, ki_50, ki_51, ki_60, ki_63, ki_64, ki_65, ki_100, ki_158, ki_160, ki_200, ki_212, ki_1000, ki_2000, ki_2001, ki_5000, ki_10000, ki_10001, ki_100000, ki_200000, ki_1000000, ki_2000000, ki_3000000, iO_neg, iO_add, iO_sub, iO_mul, kn_4, kn_8, kn_10, kn_20, kn_24, kn_40, kn_41, kn_50, kn_60, kn_158, kn_160, kn_200, kn_212, kn_2001, tn_lt, fn_lt, tn_le, fn_le, tn_eq, fn_eq, x_lt, x_le, x_eq, x_ix, x_nat, t_lt, f_lt, t_le, f_le, t_eq, f_eq, eq_self, and_self, true_and, and_true, false_and, and_false, if_true, if_false, Int.toNat_natCast, bI_s, bL_s, bA_s, bA_n, bV_s, mq_s, mq_n, en_le, bl_0, bl_1, u_eq, u_ne, w_eq, w_ne, v_eq, v_ne, ↓hp_cc_26, ↓hp_g_26_0, ↓hp_p_26_0, ↓hp_g_26_1, ↓hp_p_26_1, ↓hp_g_26_2, ↓hp_p_26_2, ↓hp_g_26_3, ↓hp_g_26_4, ↓hp_g_26_5, ↓hp_g_26_6, ↓hp_g_26_7, ↓hp_g_26_8, ↓hp_g_26_9, ↓hp_g_26_10, ↓hp_g_26_11, ↓hp_g_26_12, ↓hp_g_26_13, ↓hp_g_26_14, ↓hp_g_26_15, ↓hp_p_26_15, ↓hp_g_26_16, ↓hp_g_26_17, ↓hp_g_26_18, ↓hp_p_26_18, ↓hp_g_26_19, ↓hp_p_26_19, ↓hp_g_26_20, ↓hp_g_26_21, ↓hp_p_26_21, ↓hp_g_26_22, ↓hp_g_26_23, ↓hp_g_26_24, ↓hp_g_26_25, ↓hp_g_26_26, ↓hp_g_26_27, ↓hp_g_26_28, ↓hp_g_26_29, ↓hp_g_26_30, ↓hp_p_26_30, ↓hp_g_26_31, ↓hp_g_26_32, ↓hp_p_26_32, ↓hp_a_27, ↓hp_s_27, ↓hp_l_27, ↓hp_a_28, ↓hp_s_28, ↓hp_l_28, ↓hp_a_29, ↓hp_s_29, ↓hp_l_29, ↓hp_a_30, ↓hp_s_30, ↓hp_l_30, ↓hp_a_31, ↓hp_s_31, ↓hp_l_31, ↓hp_a_32, ↓hp_s_32, ↓hp_l_32, ↓hp_a_33, ↓hp_s_33, ↓hp_l_33, ↓hp_a_34, ↓hp_s_34, ↓hp_l_34, ↓hp_a_35, ↓hp_s_35, ↓hp_l_35, ↓hp_a_36, ↓hp_s_36, ↓hp_l_36, ↓hp_a_37, ↓hp_s_37, ↓hp_l_37, ↓hp_a_38, ↓hp_s_38, ↓hp_l_38, ↓hp_a_39, ↓hp_s_39, ↓hp_a_40, ↓hp_s_40, ↓hp_a_41, ↓hp_s_41, ↓hp_l_41, ↓hp_a_42, ↓hp_s_42, ↓hp_l_42, ↓hp_a_43, ↓hp_s_43, ↓hp_l_43, ↓hp_a_44, ↓hp_s_44, ↓hp_l_44, ↓hp_a_45, ↓hp_s_45, ↓hp_l_45, ↓hp_a_46, ↓hp_s_46, ↓hp_l_46, ↓hp_a_47, ↓hp_s_47, ↓hp_l_47, ↓hp_a_48, ↓hp_s_48, ↓hp_l_48, ↓hp_a_49, ↓hp_s_49, ↓hp_l_49, ↓hp_a_50, ↓hp_s_50, ↓hp_l_50, ↓i1, ↓i2, ↓i3, ↓md10, ↓md4, hm2, m_refuse]
      · rw [if_neg u]
        apply mc_set
        intro XI XA XP XC MI MA ML D hV
        rw [eq_false u] at hm2
        show f_X12_forge sc (n + 40) 26 (iO 6) (iO m) (iO k) _ = _
        rw [e_X12_forge]
        clear hV
        simp (disch := (first | assumption | (unfold i32; omega) | (unfold i64; omega) | omega)) only [↓reduceIte, ki_0, ki_1, ki_2, ki_3, ki_4, ki_5, ki_6, ki_7, ki_8, ki_9, ki_10, ki_11, ki_12, ki_13, ki_14, ki_15, ki_20, ki_21, ki_30, ki_31, ki_40, ki_41, ki_50, ki_51, ki_60, ki_63, ki_64, ki_65, ki_100, ki_158, ki_160, ki_200, ki_212, ki_1000, ki_2000, ki_2001, ki_5000, ki_10000, ki_10001, ki_100000, ki_200000, ki_1000000, ki_2000000, ki_3000000, iO_neg, iO_add, iO_sub, iO_mul, kn_4, kn_8, kn_10, kn_20, kn_24, kn_40, kn_41, kn_50, kn_60, kn_158, kn_160, kn_200, kn_212, kn_2001, tn_lt, fn_lt, tn_le, fn_le, tn_eq, fn_eq, x_lt, x_le, x_eq, x_ix, x_nat, t_lt, f_lt, t_le, f_le, t_eq, f_eq, eq_self, and_self, true_and, and_true, false_and, and_false, if_true, if_false, Int.toNat_natCast, bI_s, bL_s, bA_s, bA_n, bV_s, mq_s, mq_n, en_le, bl_0, bl_1, u_eq, u_ne, w_eq, w_ne, v_eq, v_ne, ↓hp_cc_26, ↓hp_g_26_0, ↓hp_p_26_0, ↓hp_g_26_1, ↓hp_p_26_1, ↓hp_g_26_2, ↓hp_p_26_2, ↓hp_g_26_3, ↓hp_g_26_4, ↓hp_g_26_5, ↓hp_g_26_6, ↓hp_g_26_7, ↓hp_g_26_8, ↓hp_g_26_9, ↓hp_g_26_10, ↓hp_g_26_11, ↓hp_g_26_12, ↓hp_g_26_13, ↓hp_g_26_14, ↓hp_g_26_15, ↓hp_p_26_15, ↓hp_g_26_16, ↓hp_g_26_17, ↓hp_g_26_18, ↓hp_p_26_18, ↓hp_g_26_19, ↓hp_p_26_19, ↓hp_g_26_20, ↓hp_g_26_21, ↓hp_p_26_21, ↓hp_g_26_22, ↓hp_g_26_23, ↓hp_g_26_24, ↓hp_g_26_25, ↓hp_g_26_26, ↓hp_g_26_27, ↓hp_g_26_28, ↓hp_g_26_29, ↓hp_g_26_30, ↓hp_p_26_30, ↓hp_g_26_31, ↓hp_g_26_32, ↓hp_p_26_32, ↓hp_a_27, ↓hp_s_27, ↓hp_l_27, ↓hp_a_28, ↓hp_s_28, ↓hp_l_28, ↓hp_a_29, ↓hp_s_29, ↓hp_l_29, ↓hp_a_30, ↓hp_s_30, ↓hp_l_30, ↓hp_a_31, ↓hp_s_31, ↓hp_l_31, ↓hp_a_32, ↓hp_s_32, ↓hp_l_32, ↓hp_a_33, ↓hp_s_33, ↓hp_l_33, ↓hp_a_34, ↓hp_s_34, ↓hp_l_34, ↓hp_a_35, ↓hp_s_35, ↓hp_l_35, ↓hp_a_36, ↓hp_s_36, ↓hp_l_36, ↓hp_a_37, ↓hp_s_37, ↓hp_l_37, ↓hp_a_38, ↓hp_s_38, ↓hp_l_38, ↓hp_a_39, ↓hp_s_39, ↓hp_a_40, ↓hp_s_40, ↓hp_a_41, ↓hp_s_41, ↓hp_l_41, ↓hp_a_42, ↓hp_s_42, ↓hp_l_42, ↓hp_a_43, ↓hp_s_43, ↓hp_l_43, ↓hp_a_44, ↓hp_s_44, ↓hp_l_44, ↓hp_a_45, ↓hp_s_45, ↓hp_l_45, ↓hp_a_46, ↓hp_s_46, ↓hp_l_46, ↓hp_a_47, ↓hp_s_47, ↓hp_l_47, ↓hp_a_48, ↓hp_s_48, ↓hp_l_48, ↓hp_a_49, ↓hp_s_49, ↓hp_l_49, ↓hp_a_50, ↓hp_s_50, ↓hp_l_50, ↓i1, ↓i2, ↓i3, ↓md10, ↓md4, hm2, m_done]
  · rw [if_neg g]
    apply mc_set
    intro XI XA XP XC MI MA ML D hV
    show f_X12_forge sc (n + 40) 26 (iO w) (iO m) (iO k) _ = _
    have i1 : ∀ (z : en_H) (f : Int32 → en_H → Option en_R), en_bI (f_X12_in sc (n + 39) (iO w) 0 6 z) f = f (iO (if 0 ≤ w ∧ w ≤ 6 then 1 else 0)) z := fun z f => by
      rw [ki_0, ki_6, e_in hw (by unfold i32; omega) (by unfold i32; omega), bI_s]
    have i2 : ∀ (z : en_H) (f : Int32 → en_H → Option en_R), en_bI (f_X12_in sc (n + 39) (iO m) (-100) 100 z) f = f (iO (if -100 ≤ m ∧ m ≤ 100 then 1 else 0)) z := fun z f => by
      rw [ki_100, iO_neg, e_in hm (by unfold i32; omega) (by unfold i32; omega), bI_s]
    have i3 : ∀ (z : en_H) (f : Int32 → en_H → Option en_R), en_bI (f_X12_in sc (n + 39) (iO k) (-100) 100 z) f = f (iO (if -100 ≤ k ∧ k ≤ 100 then 1 else 0)) z := fun z f => by
      rw [ki_100, iO_neg, e_in hk (by unfold i32; omega) (by unfold i32; omega), bI_s]
    rw [e_X12_forge, i1]
    by_cases t1 : 0 ≤ w ∧ w ≤ 6
    · rw [if_pos t1, if_neg (show ¬ iO 1 = 0 by decide), i2]
      by_cases t2 : -100 ≤ m ∧ m ≤ 100
      · rw [if_pos t2, if_neg (show ¬ iO 1 = 0 by decide), i3, if_neg (show ¬ (-100 ≤ k ∧ k ≤ 100) by omega), if_pos (show iO 0 = 0 from rfl), hp_cc_26, if_pos rfl, m_refuse]
        rfl
      · rw [if_neg t2, if_pos (show iO 0 = 0 from rfl), hp_cc_26, if_pos rfl, m_refuse]
        rfl
    · rw [if_neg t1, if_pos (show iO 0 = 0 from rfl), hp_cc_26, if_pos rfl, m_refuse]
      rfl
end FRG
