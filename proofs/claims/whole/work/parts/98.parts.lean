/-! parts: both sides -/
/-- two rows of numbers are alike up to L -/
def alg (g h : Nat → Int) : Nat → Bool
  | 0 => true
  | L + 1 => alg g h L && decide (g L = h L)
theorem alg_iff {g h : Nat → Int} : ∀ L, alg g h L = true ↔ ∀ i, i < L → g i = h i
  | 0 => ⟨fun _ i hi => by omega, fun _ => rfl⟩
  | L + 1 => by
    rw [alg, Bool.and_eq_true, alg_iff L, decide_eq_true_eq]
    constructor
    · intro h i hi
      by_cases e : i = L
      · subst e; exact h.2
      · exact h.1 i (by omega)
    · intro h
      exact ⟨fun i hi => h i (by omega), h L (by omega)⟩
theorem alg_no {g h : Nat → Int} {L i : Nat} (hi : i < L) (hne : g i ≠ h i) : alg g h L = false := by
  cases q : alg g h L with
  | false => rfl
  | true => exact absurd ((alg_iff L).mp q i hi) hne
/-- stretches of length L from a and from b on -/
def alk (f : Nat → Int) (L a b : Nat) : Bool := alg (fun i => f (a + i)) (fun i => f (b + i)) L
def bwd (f : Nat → Int) (L a : Nat) : Bool := alg (fun i => f (a + i)) (fun i => f (a + (L - 1 - i))) L
theorem alk_iff {f : Nat → Int} {L a b : Nat} : alk f L a b = true ↔ ∀ i, i < L → f (a + i) = f (b + i) := alg_iff L
theorem alk_symm {f : Nat → Int} {L a b : Nat} (h : alk f L a b = true) : alk f L b a = true := alk_iff.mpr (fun i hi => (alk_iff.mp h i hi).symm)
theorem alk_trans {f : Nat → Int} {L a b c : Nat} (h : alk f L a b = true) (h2 : alk f L b c = true) : alk f L a c = true := alk_iff.mpr (fun i hi => (alk_iff.mp h i hi).trans (alk_iff.mp h2 i hi))
/-- none of the first b is like a -/
def nwb (f : Nat → Int) (L a : Nat) : Nat → Bool
  | 0 => true
  | b + 1 => nwb f L a b && !alk f L a b
theorem nwb_iff {f : Nat → Int} {L a : Nat} : ∀ b, nwb f L a b = true ↔ ∀ i, i < b → alk f L a i = false
  | 0 => ⟨fun _ i hi => by omega, fun _ => rfl⟩
  | b + 1 => by
    rw [nwb, Bool.and_eq_true, nwb_iff b, Bool.not_eq_true']
    constructor
    · intro h i hi
      by_cases e : i = b
      · subst e; exact h.2
      · exact h.1 i (by omega)
    · intro h
      exact ⟨fun i hi => h i (by omega), h b (by omega)⟩
theorem nwb_mono {f : Nat → Int} {L a b c : Nat} (h : nwb f L a b = false) (hbc : b ≤ c) : nwb f L a c = false := by
  cases q : nwb f L a c with
  | false => rfl
  | true =>
    rw [(nwb_iff b).mpr (fun i hi => (nwb_iff c).mp q i (by omega))] at h
    cases h
def nwa (f : Nat → Int) (L a : Nat) : Bool := nwb f L a a
/-- how many begin -/
def pcn (sz L : Nat) : Nat := min 200 (sz + 1 - L)
def p_parts (S : ST5) (r L w : Int) : Int := match rowq S r with
  | none => -1
  | some q => if 1 ≤ L ∧ L ≤ 12 ∧ 0 ≤ w ∧ w ≤ 1 then ((tb (fun a => nwa q.2.2.2 L.toNat a && (decide (w = 0) || bwd q.2.2.2 L.toNat a)) (pcn q.2.2.1 L.toNat) : Nat) : Int) else -1
section PRM
variable {sc : en_S} {d : Nat} {XI : Nat → Int32} {XA : Nat → Nat → Int32} {XP : Nat → Nat → Option Nat} {XC : Value} {MI : Nat → Int32} {MA : Nat → Nat → Int32} {ML : Nat → Nat → Int64} {D : en_H} {r L sz : Nat} {f : Nat → Int}
theorem m_alike (hr : r < 10) (hL : L ≤ 12) (hsz : sz ≤ 10001) (hf : ∀ i, i < sz → MA 7 (10001 * r + i) = iO (f i)) (hv : ∀ i, i < sz → 0 ≤ f i ∧ f i ≤ 100) {a b : Nat} (ha : a + L ≤ sz) (hb : b + L ≤ sz) : f_X12_areAlike sc (d + 1) 26 (iO (r : Int)) (iO (a : Int)) (iO (b : Int)) (iO (L : Int)) (hp XI XA XP XC MI MA ML D) = some (some (.int (iO (if alk f L a b = true then 1 else 0))), hp XI XA XP XC MI MA ML D) := by
  have key : ∀ (j i : Nat), i + j = L → (∀ t, t < i → f (a + t) = f (b + t)) → b_X12_areAlike_1 sc d 26 (iO (r : Int)) (iO (a : Int)) (iO (b : Int)) (iO (L : Int)) (iO (i : Int)) (hp XI XA XP XC MI MA ML D) = some (some (.int (iO (if alk f L a b = true then 1 else 0))), hp XI XA XP XC MI MA ML D) := by
    intro j
    induction j with
    | zero =>
      intro i hi h
      obtain rfl : i = L := by omega
      rw [if_pos (alk_iff.mpr h), eb_X12_areAlike_1]
      clear hf hv h
      simp (disch := (first | assumption | (unfold i32; omega) | (unfold i64; omega) | omega)) only [↓reduceIte, ki_0, ki_1, ki_2, ki_3, ki_4, ki_5, ki_6, ki_7, ki_8, ki_9, ki_10, ki_11, ki_12, ki_13, ki_14, ki_15, ki_20, ki_21, ki_30, ki_31, ki_40, ki_41, ki_50, ki_51, ki_60, ki_63, ki_64, ki_65, ki_100, ki_158, ki_160, ki_200, ki_212, ki_1000, ki_2000, ki_2001, ki_5000, ki_10000, ki_10001, ki_100000, ki_200000, ki_1000000, ki_2000000, ki_3000000, iO_neg, iO_add, iO_sub, iO_mul, kn_4, kn_8, kn_10, kn_20, kn_24, kn_40, kn_41, kn_50, kn_60, kn_158, kn_160, kn_200, kn_212, kn_2001, tn_lt, fn_lt, tn_le, fn_le, tn_eq, fn_eq, x_lt, x_le, x_eq, x_ix, x_nat, t_lt, f_lt, t_le, f_le, t_eq, f_eq, eq_self, and_self, true_and, and_true, false_and, and_false, if_true, if_false, Int.toNat_natCast, bI_s, bL_s, bA_s, bA_n, bV_s, mq_s, mq_n, en_le, bl_0, bl_1, u_eq, u_ne, w_eq, w_ne, v_eq, v_ne]
    | succ j ih =>
      intro i hi h
      have h1 := hf (a + i) (by omega)
      have h2 := hf (b + i) (by omega)
      obtain ⟨v1, v2⟩ := hv (a + i) (by omega)
      obtain ⟨v3, v4⟩ := hv (b + i) (by omega)
      have e1 : (10001 * (r : Int) + (a : Int) + (i : Int)).toNat = 10001 * r + (a + i) := by omega
      have e2 : (10001 * (r : Int) + (b : Int) + (i : Int)).toNat = 10001 * r + (b + i) := by omega
      by_cases g : f (a + i) = f (b + i)
      · rw [← ih (i + 1) (by omega) (fun t ht => by
          by_cases e : t = i
          · subst e; exact g
          · exact h t (by omega)), eb_X12_areAlike_1]
        clear ih hf hv h
        simp (disch := (first | assumption | (unfold i32; omega) | (unfold i64; omega) | omega)) only [↓reduceIte, ki_0, ki_1, ki_2, ki_3, ki_4, ki_5, ki_6, ki_7, ki_8, ki_9, ki_10, ki_11, ki_12, ki_13, ki_14, ki_15, ki_20, ki_21, ki_30, ki_31, ki_40, ki_41, ki_50, ki_51, ki_60, ki_63, ki_64, ki_65, ki_100, ki_158, ki_160, ki_200, ki_212, ki_1000, ki_2000, ki_2001, ki_5000, ki_10000, ki_10001, ki_100000, ki_200000, ki_1000000, ki_2000000, ki_3000000, iO_neg, iO_add, iO_sub, iO_mul, kn_4, kn_8, kn_10, kn_20, kn_24, kn_40, kn_41, kn_50, kn_60, kn_158, kn_160, kn_200, kn_212, kn_2001, tn_lt, fn_lt, tn_le, fn_le, tn_eq, fn_eq, x_lt, x_le, x_eq, x_ix, x_nat, t_lt, f_lt, t_le, f_le, t_eq, f_eq, eq_self, and_self, true_and, and_true, false_and, and_false, if_true, if_false, Int.toNat_natCast, bI_s, bL_s, bA_s, bA_n, bV_s, mq_s, mq_n, en_le, bl_0, bl_1, u_eq, u_ne, w_eq, w_ne, v_eq, v_ne, ↓hp_cc_26, ↓hp_g_26_0, ↓hp_p_26_0, ↓hp_g_26_1, ↓hp_p_26_1, ↓hp_g_26_2, ↓hp_p_26_2, ↓hp_g_26_3, ↓hp_g_26_4, ↓hp_g_26_5, ↓hp_g_26_6, ↓hp_g_26_7, ↓hp_g_26_8, ↓hp_g_26_9, ↓hp_g_26_10, ↓hp_g_26_11, ↓hp_g_26_12, ↓hp_g_26_13, ↓hp_g_26_14, ↓hp_g_26_15, ↓hp_p_26_15, ↓hp_g_26_16, ↓hp_g_26_17, ↓hp_g_26_18, ↓hp_p_26_18, ↓hp_g_26_19, ↓hp_p_26_19, ↓hp_g_26_20, ↓hp_g_26_21, ↓hp_p_26_21, ↓hp_g_26_22, ↓hp_g_26_23, ↓hp_g_26_24, ↓hp_g_26_25, ↓hp_g_26_26, ↓hp_g_26_27, ↓hp_g_26_28, ↓hp_g_26_29, ↓hp_g_26_30, ↓hp_p_26_30, ↓hp_g_26_31, ↓hp_g_26_32, ↓hp_p_26_32, ↓hp_a_27, ↓hp_s_27, ↓hp_l_27, ↓hp_a_28, ↓hp_s_28, ↓hp_l_28, ↓hp_a_29, ↓hp_s_29, ↓hp_l_29, ↓hp_a_30, ↓hp_s_30, ↓hp_l_30, ↓hp_a_31, ↓hp_s_31, ↓hp_l_31, ↓hp_a_32, ↓hp_s_32, ↓hp_l_32, ↓hp_a_33, ↓hp_s_33, ↓hp_l_33, ↓hp_a_34, ↓hp_s_34, ↓hp_l_34, ↓hp_a_35, ↓hp_s_35, ↓hp_l_35, ↓hp_a_36, ↓hp_s_36, ↓hp_l_36, ↓hp_a_37, ↓hp_s_37, ↓hp_l_37, ↓hp_a_38, ↓hp_s_38, ↓hp_l_38, ↓hp_a_39, ↓hp_s_39, ↓hp_a_40, ↓hp_s_40, ↓hp_a_41, ↓hp_s_41, ↓hp_l_41, ↓hp_a_42, ↓hp_s_42, ↓hp_l_42, ↓hp_a_43, ↓hp_s_43, ↓hp_l_43, ↓hp_a_44, ↓hp_s_44, ↓hp_l_44, ↓hp_a_45, ↓hp_s_45, ↓hp_l_45, ↓hp_a_46, ↓hp_s_46, ↓hp_l_46, ↓hp_a_47, ↓hp_s_47, ↓hp_l_47, ↓hp_a_48, ↓hp_s_48, ↓hp_l_48, ↓hp_a_49, ↓hp_s_49, ↓hp_l_49, ↓hp_a_50, ↓hp_s_50, ↓hp_l_50, e1, e2, h1, h2]
        try rfl
      · have hno : alk f L a b = false := alg_no (show i < L by omega) g
        rw [hno, if_neg Bool.false_ne_true, eb_X12_areAlike_1]
        clear ih hf hv h hno
        simp (disch := (first | assumption | (unfold i32; omega) | (unfold i64; omega) | omega)) only [↓reduceIte, ki_0, ki_1, ki_2, ki_3, ki_4, ki_5, ki_6, ki_7, ki_8, ki_9, ki_10, ki_11, ki_12, ki_13, ki_14, ki_15, ki_20, ki_21, ki_30, ki_31, ki_40, ki_41, ki_50, ki_51, ki_60, ki_63, ki_64, ki_65, ki_100, ki_158, ki_160, ki_200, ki_212, ki_1000, ki_2000, ki_2001, ki_5000, ki_10000, ki_10001, ki_100000, ki_200000, ki_1000000, ki_2000000, ki_3000000, iO_neg, iO_add, iO_sub, iO_mul, kn_4, kn_8, kn_10, kn_20, kn_24, kn_40, kn_41, kn_50, kn_60, kn_158, kn_160, kn_200, kn_212, kn_2001, tn_lt, fn_lt, tn_le, fn_le, tn_eq, fn_eq, x_lt, x_le, x_eq, x_ix, x_nat, t_lt, f_lt, t_le, f_le, t_eq, f_eq, eq_self, and_self, true_and, and_true, false_and, and_false, if_true, if_false, Int.toNat_natCast, bI_s, bL_s, bA_s, bA_n, bV_s, mq_s, mq_n, en_le, bl_0, bl_1, u_eq, u_ne, w_eq, w_ne, v_eq, v_ne, ↓hp_cc_26, ↓hp_g_26_0, ↓hp_p_26_0, ↓hp_g_26_1, ↓hp_p_26_1, ↓hp_g_26_2, ↓hp_p_26_2, ↓hp_g_26_3, ↓hp_g_26_4, ↓hp_g_26_5, ↓hp_g_26_6, ↓hp_g_26_7, ↓hp_g_26_8, ↓hp_g_26_9, ↓hp_g_26_10, ↓hp_g_26_11, ↓hp_g_26_12, ↓hp_g_26_13, ↓hp_g_26_14, ↓hp_g_26_15, ↓hp_p_26_15, ↓hp_g_26_16, ↓hp_g_26_17, ↓hp_g_26_18, ↓hp_p_26_18, ↓hp_g_26_19, ↓hp_p_26_19, ↓hp_g_26_20, ↓hp_g_26_21, ↓hp_p_26_21, ↓hp_g_26_22, ↓hp_g_26_23, ↓hp_g_26_24, ↓hp_g_26_25, ↓hp_g_26_26, ↓hp_g_26_27, ↓hp_g_26_28, ↓hp_g_26_29, ↓hp_g_26_30, ↓hp_p_26_30, ↓hp_g_26_31, ↓hp_g_26_32, ↓hp_p_26_32, ↓hp_a_27, ↓hp_s_27, ↓hp_l_27, ↓hp_a_28, ↓hp_s_28, ↓hp_l_28, ↓hp_a_29, ↓hp_s_29, ↓hp_l_29, ↓hp_a_30, ↓hp_s_30, ↓hp_l_30, ↓hp_a_31, ↓hp_s_31, ↓hp_l_31, ↓hp_a_32, ↓hp_s_32, ↓hp_l_32, ↓hp_a_33, ↓hp_s_33, ↓hp_l_33, ↓hp_a_34, ↓hp_s_34, ↓hp_l_34, ↓hp_a_35, ↓hp_s_35, ↓hp_l_35, ↓hp_a_36, ↓hp_s_36, ↓hp_l_36, ↓hp_a_37, ↓hp_s_37, ↓hp_l_37, ↓hp_a_38, ↓hp_s_38, ↓hp_l_38, ↓hp_a_39, ↓hp_s_39, ↓hp_a_40, ↓hp_s_40, ↓hp_a_41, ↓hp_s_41, ↓hp_l_41, ↓hp_a_42, ↓hp_s_42, ↓hp_l_42, ↓hp_a_43, ↓hp_s_43, ↓hp_l_43, ↓hp_a_44, ↓hp_s_44, ↓hp_l_44, ↓hp_a_45, ↓hp_s_45, ↓hp_l_45, ↓hp_a_46, ↓hp_s_46, ↓hp_l_46, ↓hp_a_47, ↓hp_s_47, ↓hp_l_47, ↓hp_a_48, ↓hp_s_48, ↓hp_l_48, ↓hp_a_49, ↓hp_s_49, ↓hp_l_49, ↓hp_a_50, ↓hp_s_50, ↓hp_l_50, e1, e2, h1, h2]
  rw [e_X12_areAlike]
  exact key L 0 (by omega) (fun t ht => by omega)
theorem m_backw (hr : r < 10) (hL : L ≤ 12) (hsz : sz ≤ 10001) (hf : ∀ i, i < sz → MA 7 (10001 * r + i) = iO (f i)) (hv : ∀ i, i < sz → 0 ≤ f i ∧ f i ≤ 100) {a : Nat} (ha : a + L ≤ sz) : f_X12_isBackward sc (d + 1) 26 (iO (r : Int)) (iO (a : Int)) (iO (L : Int)) (hp XI XA XP XC MI MA ML D) = some (some (.int (iO (if bwd f L a = true then 1 else 0))), hp XI XA XP XC MI MA ML D) := by
  have key : ∀ (j i : Nat), i + j = L → (∀ t, t < i → f (a + t) = f (a + (L - 1 - t))) → b_X12_isBackward_1 sc d 26 (iO (r : Int)) (iO (a : Int)) (iO (L : Int)) (iO (i : Int)) (hp XI XA XP XC MI MA ML D) = some (some (.int (iO (if bwd f L a = true then 1 else 0))), hp XI XA XP XC MI MA ML D) := by
    intro j
    induction j with
    | zero =>
      intro i hi h
      obtain rfl : i = L := by omega
      have hb0 : bwd f i a = true := (alg_iff i).mpr h
      rw [hb0, if_pos rfl, eb_X12_isBackward_1]
      clear hf hv h
      simp (disch := (first | assumption | (unfold i32; omega) | (unfold i64; omega) | omega)) only [↓reduceIte, ki_0, ki_1, ki_2, ki_3, ki_4, ki_5, ki_6, ki_7, ki_8, ki_9, ki_10, ki_11, ki_12, ki_13, ki_14, ki_15, ki_20, ki_21, ki_30, ki_31, ki_40, ki_41, ki_50, ki_51, ki_60, ki_63, ki_64, ki_65, ki_100, ki_158, ki_160, ki_200, ki_212, ki_1000, ki_2000, ki_2001, ki_5000, ki_10000, ki_10001, ki_100000, ki_200000, ki_1000000, ki_2000000, ki_3000000, iO_neg, iO_add, iO_sub, iO_mul, kn_4, kn_8, kn_10, kn_20, kn_24, kn_40, kn_41, kn_50, kn_60, kn_158, kn_160, kn_200, kn_212, kn_2001, tn_lt, fn_lt, tn_le, fn_le, tn_eq, fn_eq, x_lt, x_le, x_eq, x_ix, x_nat, t_lt, f_lt, t_le, f_le, t_eq, f_eq, eq_self, and_self, true_and, and_true, false_and, and_false, if_true, if_false, Int.toNat_natCast, bI_s, bL_s, bA_s, bA_n, bV_s, mq_s, mq_n, en_le, bl_0, bl_1, u_eq, u_ne, w_eq, w_ne, v_eq, v_ne]
    | succ j ih =>
      intro i hi h
      have h1 := hf (a + i) (by omega)
      have h2 := hf (a + (L - 1 - i)) (by omega)
      obtain ⟨v1, v2⟩ := hv (a + i) (by omega)
      obtain ⟨v3, v4⟩ := hv (a + (L - 1 - i)) (by omega)
      have e1 : (10001 * (r : Int) + (a : Int) + (i : Int)).toNat = 10001 * r + (a + i) := by omega
      have e2 : (10001 * (r : Int) + (a : Int) + (L : Int) - 1 - (i : Int)).toNat = 10001 * r + (a + (L - 1 - i)) := by omega
      by_cases g : f (a + i) = f (a + (L - 1 - i))
      · rw [← ih (i + 1) (by omega) (fun t ht => by
          by_cases e : t = i
          · subst e; exact g
          · exact h t (by omega)), eb_X12_isBackward_1]
        clear ih hf hv h
        simp (disch := (first | assumption | (unfold i32; omega) | (unfold i64; omega) | omega)) only [↓reduceIte, ki_0, ki_1, ki_2, ki_3, ki_4, ki_5, ki_6, ki_7, ki_8, ki_9, ki_10, ki_11, ki_12, ki_13, ki_14, ki_15, ki_20, ki_21, ki_30, ki_31, ki_40, ki_41, ki_50, ki_51, ki_60, ki_63, ki_64, ki_65, ki_100, ki_158, ki_160, ki_200, ki_212, ki_1000, ki_2000, ki_2001, ki_5000, ki_10000, ki_10001, ki_100000, ki_200000, ki_1000000, ki_2000000, ki_3000000, iO_neg, iO_add, iO_sub, iO_mul, kn_4, kn_8, kn_10, kn_20, kn_24, kn_40, kn_41, kn_50, kn_60, kn_158, kn_160, kn_200, kn_212, kn_2001, tn_lt, fn_lt, tn_le, fn_le, tn_eq, fn_eq, x_lt, x_le, x_eq, x_ix, x_nat, t_lt, f_lt, t_le, f_le, t_eq, f_eq, eq_self, and_self, true_and, and_true, false_and, and_false, if_true, if_false, Int.toNat_natCast, bI_s, bL_s, bA_s, bA_n, bV_s, mq_s, mq_n, en_le, bl_0, bl_1, u_eq, u_ne, w_eq, w_ne, v_eq, v_ne, ↓hp_cc_26, ↓hp_g_26_0, ↓hp_p_26_0, ↓hp_g_26_1, ↓hp_p_26_1, ↓hp_g_26_2, ↓hp_p_26_2, ↓hp_g_26_3, ↓hp_g_26_4, ↓hp_g_26_5, ↓hp_g_26_6, ↓hp_g_26_7, ↓hp_g_26_8, ↓hp_g_26_9, ↓hp_g_26_10, ↓hp_g_26_11, ↓hp_g_26_12, ↓hp_g_26_13, ↓hp_g_26_14, ↓hp_g_26_15, ↓hp_p_26_15, ↓hp_g_26_16, ↓hp_g_26_17, ↓hp_g_26_18, ↓hp_p_26_18, ↓hp_g_26_19, ↓hp_p_26_19, ↓hp_g_26_20, ↓hp_g_26_21, ↓hp_p_26_21, ↓hp_g_26_22, ↓hp_g_26_23, ↓hp_g_26_24, ↓hp_g_26_25, ↓hp_g_26_26, ↓hp_g_26_27, ↓hp_g_26_28, ↓hp_g_26_29, ↓hp_g_26_30, ↓hp_p_26_30, ↓hp_g_26_31, ↓hp_g_26_32, ↓hp_p_26_32, ↓hp_a_27, ↓hp_s_27, ↓hp_l_27, ↓hp_a_28, ↓hp_s_28, ↓hp_l_28, ↓hp_a_29, ↓hp_s_29, ↓hp_l_29, ↓hp_a_30, ↓hp_s_30, ↓hp_l_30, ↓hp_a_31, ↓hp_s_31, ↓hp_l_31, ↓hp_a_32, ↓hp_s_32, ↓hp_l_32, ↓hp_a_33, ↓hp_s_33, ↓hp_l_33, ↓hp_a_34, ↓hp_s_34, ↓hp_l_34, ↓hp_a_35, ↓hp_s_35, ↓hp_l_35, ↓hp_a_36, ↓hp_s_36, ↓hp_l_36, ↓hp_a_37, ↓hp_s_37, ↓hp_l_37, ↓hp_a_38, ↓hp_s_38, ↓hp_l_38, ↓hp_a_39, ↓hp_s_39, ↓hp_a_40, ↓hp_s_40, ↓hp_a_41, ↓hp_s_41, ↓hp_l_41, ↓hp_a_42, ↓hp_s_42, ↓hp_l_42, ↓hp_a_43, ↓hp_s_43, ↓hp_l_43, ↓hp_a_44, ↓hp_s_44, ↓hp_l_44, ↓hp_a_45, ↓hp_s_45, ↓hp_l_45, ↓hp_a_46, ↓hp_s_46, ↓hp_l_46, ↓hp_a_47, ↓hp_s_47, ↓hp_l_47, ↓hp_a_48, ↓hp_s_48, ↓hp_l_48, ↓hp_a_49, ↓hp_s_49, ↓hp_l_49, ↓hp_a_50, ↓hp_s_50, ↓hp_l_50, e1, e2, h1, h2]
        try rfl
      · have hno : bwd f L a = false := alg_no (show i < L by omega) g
        rw [hno, if_neg Bool.false_ne_true, eb_X12_isBackward_1]
        clear ih hf hv h hno
        simp (disch := (first | assumption | (unfold i32; omega) | (unfold i64; omega) | omega)) only [↓reduceIte, ki_0, ki_1, ki_2, ki_3, ki_4, ki_5, ki_6, ki_7, ki_8, ki_9, ki_10, ki_11, ki_12, ki_13, ki_14, ki_15, ki_20, ki_21, ki_30, ki_31, ki_40, ki_41, ki_50, ki_51, ki_60, ki_63, ki_64, ki_65, ki_100, ki_158, ki_160, ki_200, ki_212, ki_1000, ki_2000, ki_2001, ki_5000, ki_10000, ki_10001, ki_100000, ki_200000, ki_1000000, ki_2000000, ki_3000000, iO_neg, iO_add, iO_sub, iO_mul, kn_4, kn_8, kn_10, kn_20, kn_24, kn_40, kn_41, kn_50, kn_60, kn_158, kn_160, kn_200, kn_212, kn_2001, tn_lt, fn_lt, tn_le, fn_le, tn_eq, fn_eq, x_lt, x_le, x_eq, x_ix, x_nat, t_lt, f_lt, t_le, f_le, t_eq, f_eq, eq_self, and_self, true_and, and_true, false_and, and_false, if_true, if_false, Int.toNat_natCast, bI_s, bL_s, bA_s, bA_n, bV_s, mq_s, mq_n, en_le, bl_0, bl_1, u_eq, u_ne, w_eq, w_ne, v_eq, v_ne, ↓hp_cc_26, ↓hp_g_26_0, ↓hp_p_26_0, ↓hp_g_26_1, ↓hp_p_26_1, ↓hp_g_26_2, ↓hp_p_26_2, ↓hp_g_26_3, ↓hp_g_26_4, ↓hp_g_26_5, ↓hp_g_26_6, ↓hp_g_26_7, ↓hp_g_26_8, ↓hp_g_26_9, ↓hp_g_26_10, ↓hp_g_26_11, ↓hp_g_26_12, ↓hp_g_26_13, ↓hp_g_26_14, ↓hp_g_26_15, ↓hp_p_26_15, ↓hp_g_26_16, ↓hp_g_26_17, ↓hp_g_26_18, ↓hp_p_26_18, ↓hp_g_26_19, ↓hp_p_26_19, ↓hp_g_26_20, ↓hp_g_26_21, ↓hp_p_26_21, ↓hp_g_26_22, ↓hp_g_26_23, ↓hp_g_26_24, ↓hp_g_26_25, ↓hp_g_26_26, ↓hp_g_26_27, ↓hp_g_26_28, ↓hp_g_26_29, ↓hp_g_26_30, ↓hp_p_26_30, ↓hp_g_26_31, ↓hp_g_26_32, ↓hp_p_26_32, ↓hp_a_27, ↓hp_s_27, ↓hp_l_27, ↓hp_a_28, ↓hp_s_28, ↓hp_l_28, ↓hp_a_29, ↓hp_s_29, ↓hp_l_29, ↓hp_a_30, ↓hp_s_30, ↓hp_l_30, ↓hp_a_31, ↓hp_s_31, ↓hp_l_31, ↓hp_a_32, ↓hp_s_32, ↓hp_l_32, ↓hp_a_33, ↓hp_s_33, ↓hp_l_33, ↓hp_a_34, ↓hp_s_34, ↓hp_l_34, ↓hp_a_35, ↓hp_s_35, ↓hp_l_35, ↓hp_a_36, ↓hp_s_36, ↓hp_l_36, ↓hp_a_37, ↓hp_s_37, ↓hp_l_37, ↓hp_a_38, ↓hp_s_38, ↓hp_l_38, ↓hp_a_39, ↓hp_s_39, ↓hp_a_40, ↓hp_s_40, ↓hp_a_41, ↓hp_s_41, ↓hp_l_41, ↓hp_a_42, ↓hp_s_42, ↓hp_l_42, ↓hp_a_43, ↓hp_s_43, ↓hp_l_43, ↓hp_a_44, ↓hp_s_44, ↓hp_l_44, ↓hp_a_45, ↓hp_s_45, ↓hp_l_45, ↓hp_a_46, ↓hp_s_46, ↓hp_l_46, ↓hp_a_47, ↓hp_s_47, ↓hp_l_47, ↓hp_a_48, ↓hp_s_48, ↓hp_l_48, ↓hp_a_49, ↓hp_s_49, ↓hp_l_49, ↓hp_a_50, ↓hp_s_50, ↓hp_l_50, e1, e2, h1, h2]
  rw [e_X12_isBackward]
  exact key L 0 (by omega) (fun t ht => by omega)
theorem m_parts4 (hr : r < 10) (hL : L ≤ 12) (hsz : sz ≤ 10001) (hf : ∀ i, i < sz → MA 7 (10001 * r + i) = iO (f i)) (hv : ∀ i, i < sz → 0 ≤ f i ∧ f i ≤ 100) {a : Nat} (ha : a + L ≤ sz) (ha2 : a < 200) {w c : Int} : ∀ (j b : Nat), b + j = a → b_X12_parts_4 sc (d + 1) 26 (iO (r : Int)) (iO (L : Int)) (iO w) (iO c) (iO (a : Int)) (iO (if nwb f L a b = true then 1 else 0)) (iO (b : Int)) (hp XI XA XP XC MI MA ML D) = b_X12_parts_7 sc (d + 1) 26 (iO (r : Int)) (iO (L : Int)) (iO w) (iO c) (iO (a : Int)) (iO (if nwa f L a = true then 1 else 0)) (hp XI XA XP XC MI MA ML D) := by
  intro j
  induction j with
  | zero =>
    intro b hb
    obtain rfl : b = a := by omega
    rw [eb_X12_parts_4]
    clear hf hv
    simp (disch := (first | assumption | (unfold i32; omega) | (unfold i64; omega) | omega)) only [↓reduceIte, ki_0, ki_1, ki_2, ki_3, ki_4, ki_5, ki_6, ki_7, ki_8, ki_9, ki_10, ki_11, ki_12, ki_13, ki_14, ki_15, ki_20, ki_21, ki_30, ki_31, ki_40, ki_41, ki_50, ki_51, ki_60, ki_63, ki_64, ki_65, ki_100, ki_158, ki_160, ki_200, ki_212, ki_1000, ki_2000, ki_2001, ki_5000, ki_10000, ki_10001, ki_100000, ki_200000, ki_1000000, ki_2000000, ki_3000000, iO_neg, iO_add, iO_sub, iO_mul, kn_4, kn_8, kn_10, kn_20, kn_24, kn_40, kn_41, kn_50, kn_60, kn_158, kn_160, kn_200, kn_212, kn_2001, tn_lt, fn_lt, tn_le, fn_le, tn_eq, fn_eq, x_lt, x_le, x_eq, x_ix, x_nat, t_lt, f_lt, t_le, f_le, t_eq, f_eq, eq_self, and_self, true_and, and_true, false_and, and_false, if_true, if_false, Int.toNat_natCast, bI_s, bL_s, bA_s, bA_n, bV_s, mq_s, mq_n, en_le, bl_0, bl_1, u_eq, u_ne, w_eq, w_ne, v_eq, v_ne]
    try rfl
  | succ j ih =>
    intro b hb
    have hal := m_alike (sc := sc) (d := d) (XI := XI) (XA := XA) (XP := XP) (XC := XC) (MI := MI) (MA := MA) (ML := ML) (D := D) hr hL hsz hf hv (a := a) (b := b) ha (by omega)
    cases hn : nwb f L a b with
    | false =>
      have hna : nwa f L a = false := nwb_mono hn (by omega)
      rw [hna, if_neg Bool.false_ne_true, eb_X12_parts_4]
      clear hf hv ih hal hn hna
      simp (disch := (first | assumption | (unfold i32; omega) | (unfold i64; omega) | omega)) only [↓reduceIte, ki_0, ki_1, ki_2, ki_3, ki_4, ki_5, ki_6, ki_7, ki_8, ki_9, ki_10, ki_11, ki_12, ki_13, ki_14, ki_15, ki_20, ki_21, ki_30, ki_31, ki_40, ki_41, ki_50, ki_51, ki_60, ki_63, ki_64, ki_65, ki_100, ki_158, ki_160, ki_200, ki_212, ki_1000, ki_2000, ki_2001, ki_5000, ki_10000, ki_10001, ki_100000, ki_200000, ki_1000000, ki_2000000, ki_3000000, iO_neg, iO_add, iO_sub, iO_mul, kn_4, kn_8, kn_10, kn_20, kn_24, kn_40, kn_41, kn_50, kn_60, kn_158, kn_160, kn_200, kn_212, kn_2001, tn_lt, fn_lt, tn_le, fn_le, tn_eq, fn_eq, x_lt, x_le, x_eq, x_ix, x_nat, t_lt, f_lt, t_le, f_le, t_eq, f_eq, eq_self, and_self, true_and, and_true, false_and, and_false, if_true, if_false, Int.toNat_natCast, bI_s, bL_s, bA_s, bA_n, bV_s, mq_s, mq_n, en_le, bl_0, bl_1, u_eq, u_ne, w_eq, w_ne, v_eq, v_ne]
    | true =>
      rw [← ih (b + 1) (by omega), if_pos rfl, eb_X12_parts_4]
      cases ha' : alk f L a b with
      | false =>
        have e : nwb f L a (b + 1) = true := by rw [nwb, hn, ha']; rfl
        rw [e, if_pos rfl]
        rw [ha', if_neg Bool.false_ne_true] at hal
        clear hf hv ih hn ha' e
        simp (disch := (first | assumption | (unfold i32; omega) | (unfold i64; omega) | omega)) only [↓reduceIte, ki_0, ki_1, ki_2, ki_3, ki_4, ki_5, ki_6, ki_7, ki_8, ki_9, ki_10, ki_11, ki_12, ki_13, ki_14, ki_15, ki_20, ki_21, ki_30, ki_31, ki_40, ki_41, ki_50, ki_51, ki_60, ki_63, ki_64, ki_65, ki_100, ki_158, ki_160, ki_200, ki_212, ki_1000, ki_2000, ki_2001, ki_5000, ki_10000, ki_10001, ki_100000, ki_200000, ki_1000000, ki_2000000, ki_3000000, iO_neg, iO_add, iO_sub, iO_mul, kn_4, kn_8, kn_10, kn_20, kn_24, kn_40, kn_41, kn_50, kn_60, kn_158, kn_160, kn_200, kn_212, kn_2001, tn_lt, fn_lt, tn_le, fn_le, tn_eq, fn_eq, x_lt, x_le, x_eq, x_ix, x_nat, t_lt, f_lt, t_le, f_le, t_eq, f_eq, eq_self, and_self, true_and, and_true, false_and, and_false, if_true, if_false, Int.toNat_natCast, bI_s, bL_s, bA_s, bA_n, bV_s, mq_s, mq_n, en_le, bl_0, bl_1, u_eq, u_ne, w_eq, w_ne, v_eq, v_ne, ↓hp_cc_26, ↓hp_g_26_0, ↓hp_p_26_0, ↓hp_g_26_1, ↓hp_p_26_1, ↓hp_g_26_2, ↓hp_p_26_2, ↓hp_g_26_3, ↓hp_g_26_4, ↓hp_g_26_5, ↓hp_g_26_6, ↓hp_g_26_7, ↓hp_g_26_8, ↓hp_g_26_9, ↓hp_g_26_10, ↓hp_g_26_11, ↓hp_g_26_12, ↓hp_g_26_13, ↓hp_g_26_14, ↓hp_g_26_15, ↓hp_p_26_15, ↓hp_g_26_16, ↓hp_g_26_17, ↓hp_g_26_18, ↓hp_p_26_18, ↓hp_g_26_19, ↓hp_p_26_19, ↓hp_g_26_20, ↓hp_g_26_21, ↓hp_p_26_21, ↓hp_g_26_22, ↓hp_g_26_23, ↓hp_g_26_24, ↓hp_g_26_25, ↓hp_g_26_26, ↓hp_g_26_27, ↓hp_g_26_28, ↓hp_g_26_29, ↓hp_g_26_30, ↓hp_p_26_30, ↓hp_g_26_31, ↓hp_g_26_32, ↓hp_p_26_32, ↓hp_a_27, ↓hp_s_27, ↓hp_l_27, ↓hp_a_28, ↓hp_s_28, ↓hp_l_28, ↓hp_a_29, ↓hp_s_29, ↓hp_l_29, ↓hp_a_30, ↓hp_s_30, ↓hp_l_30, ↓hp_a_31, ↓hp_s_31, ↓hp_l_31, ↓hp_a_32, ↓hp_s_32, ↓hp_l_32, ↓hp_a_33, ↓hp_s_33, ↓hp_l_33, ↓hp_a_34, ↓hp_s_34, ↓hp_l_34, ↓hp_a_35, ↓hp_s_35, ↓hp_l_35, ↓hp_a_36, ↓hp_s_36, ↓hp_l_36, ↓hp_a_37, ↓hp_s_37, ↓hp_l_37, ↓hp_a_38, ↓hp_s_38, ↓hp_l_38, ↓hp_a_39, ↓hp_s_39, ↓hp_a_40, ↓hp_s_40, ↓hp_a_41, ↓hp_s_41, ↓hp_l_41, ↓hp_a_42, ↓hp_s_42, ↓hp_l_42, ↓hp_a_43, ↓hp_s_43, ↓hp_l_43, ↓hp_a_44, ↓hp_s_44, ↓hp_l_44, ↓hp_a_45, ↓hp_s_45, ↓hp_l_45, ↓hp_a_46, ↓hp_s_46, ↓hp_l_46, ↓hp_a_47, ↓hp_s_47, ↓hp_l_47, ↓hp_a_48, ↓hp_s_48, ↓hp_l_48, ↓hp_a_49, ↓hp_s_49, ↓hp_l_49, ↓hp_a_50, ↓hp_s_50, ↓hp_l_50, hal]
        try rfl
      | true =>
        have e : nwb f L a (b + 1) = false := by rw [nwb, hn, ha']; rfl
        rw [e, if_neg Bool.false_ne_true]
        rw [ha', if_pos rfl] at hal
        clear hf hv ih hn ha' e
        simp (disch := (first | assumption | (unfold i32; omega) | (unfold i64; omega) | omega)) only [↓reduceIte, ki_0, ki_1, ki_2, ki_3, ki_4, ki_5, ki_6, ki_7, ki_8, ki_9, ki_10, ki_11, ki_12, ki_13, ki_14, ki_15, ki_20, ki_21, ki_30, ki_31, ki_40, ki_41, ki_50, ki_51, ki_60, ki_63, ki_64, ki_65, ki_100, ki_158, ki_160, ki_200, ki_212, ki_1000, ki_2000, ki_2001, ki_5000, ki_10000, ki_10001, ki_100000, ki_200000, ki_1000000, ki_2000000, ki_3000000, iO_neg, iO_add, iO_sub, iO_mul, kn_4, kn_8, kn_10, kn_20, kn_24, kn_40, kn_41, kn_50, kn_60, kn_158, kn_160, kn_200, kn_212, kn_2001, tn_lt, fn_lt, tn_le, fn_le, tn_eq, fn_eq, x_lt, x_le, x_eq, x_ix, x_nat, t_lt, f_lt, t_le, f_le, t_eq, f_eq, eq_self, and_self, true_and, and_true, false_and, and_false, if_true, if_false, Int.toNat_natCast, bI_s, bL_s, bA_s, bA_n, bV_s, mq_s, mq_n, en_le, bl_0, bl_1, u_eq, u_ne, w_eq, w_ne, v_eq, v_ne, ↓hp_cc_26, ↓hp_g_26_0, ↓hp_p_26_0, ↓hp_g_26_1, ↓hp_p_26_1, ↓hp_g_26_2, ↓hp_p_26_2, ↓hp_g_26_3, ↓hp_g_26_4, ↓hp_g_26_5, ↓hp_g_26_6, ↓hp_g_26_7, ↓hp_g_26_8, ↓hp_g_26_9, ↓hp_g_26_10, ↓hp_g_26_11, ↓hp_g_26_12, ↓hp_g_26_13, ↓hp_g_26_14, ↓hp_g_26_15, ↓hp_p_26_15, ↓hp_g_26_16, ↓hp_g_26_17, ↓hp_g_26_18, ↓hp_p_26_18, ↓hp_g_26_19, ↓hp_p_26_19, ↓hp_g_26_20, ↓hp_g_26_21, ↓hp_p_26_21, ↓hp_g_26_22, ↓hp_g_26_23, ↓hp_g_26_24, ↓hp_g_26_25, ↓hp_g_26_26, ↓hp_g_26_27, ↓hp_g_26_28, ↓hp_g_26_29, ↓hp_g_26_30, ↓hp_p_26_30, ↓hp_g_26_31, ↓hp_g_26_32, ↓hp_p_26_32, ↓hp_a_27, ↓hp_s_27, ↓hp_l_27, ↓hp_a_28, ↓hp_s_28, ↓hp_l_28, ↓hp_a_29, ↓hp_s_29, ↓hp_l_29, ↓hp_a_30, ↓hp_s_30, ↓hp_l_30, ↓hp_a_31, ↓hp_s_31, ↓hp_l_31, ↓hp_a_32, ↓hp_s_32, ↓hp_l_32, ↓hp_a_33, ↓hp_s_33, ↓hp_l_33, ↓hp_a_34, ↓hp_s_34, ↓hp_l_34, ↓hp_a_35, ↓hp_s_35, ↓hp_l_35, ↓hp_a_36, ↓hp_s_36, ↓hp_l_36, ↓hp_a_37, ↓hp_s_37, ↓hp_l_37, ↓hp_a_38, ↓hp_s_38, ↓hp_l_38, ↓hp_a_39, ↓hp_s_39, ↓hp_a_40, ↓hp_s_40, ↓hp_a_41, ↓hp_s_41, ↓hp_l_41, ↓hp_a_42, ↓hp_s_42, ↓hp_l_42, ↓hp_a_43, ↓hp_s_43, ↓hp_l_43, ↓hp_a_44, ↓hp_s_44, ↓hp_l_44, ↓hp_a_45, ↓hp_s_45, ↓hp_l_45, ↓hp_a_46, ↓hp_s_46, ↓hp_l_46, ↓hp_a_47, ↓hp_s_47, ↓hp_l_47, ↓hp_a_48, ↓hp_s_48, ↓hp_l_48, ↓hp_a_49, ↓hp_s_49, ↓hp_l_49, ↓hp_a_50, ↓hp_s_50, ↓hp_l_50, hal]
        try rfl
theorem m_parts3 (hr : r < 10) (hL1 : 1 ≤ L) (hL : L ≤ 12) (hsz : sz ≤ 10001) (h5 : MA 5 r = iO (sz : Nat)) (hf : ∀ i, i < sz → MA 7 (10001 * r + i) = iO (f i)) (hv : ∀ i, i < sz → 0 ≤ f i ∧ f i ≤ 100) {w : Int} (hw : w = 0 ∨ w = 1) : ∀ (j a : Nat), a + j = pcn sz L → b_X12_parts_3 sc (d + 1) 26 (iO (r : Int)) (iO (L : Int)) (iO w) (iO ((tb (fun a => nwa f L a && (decide (w = 0) || bwd f L a)) a : Nat) : Int)) (iO (a : Int)) (hp XI XA XP XC MI MA ML D) = some (some (.int (iO ((tb (fun a => nwa f L a && (decide (w = 0) || bwd f L a)) (pcn sz L) : Nat) : Int))), hp XI XA XP XC MI MA ML D) := by
  intro j
  induction j with
  | zero =>
    intro a ha
    obtain rfl : a = pcn sz L := by omega
    have hb := tb_le (fun a => nwa f L a && (decide (w = 0) || bwd f L a)) (pcn sz L)
    generalize tb (fun a => nwa f L a && (decide (w = 0) || bwd f L a)) (pcn sz L) = T at *
    have hp1 : pcn sz L ≤ 200 := Nat.min_le_left _ _
    rw [eb_X12_parts_3]
    by_cases g : 200 ≤ pcn sz L
    · generalize pcn sz L = P at *
      clear hf hv
      simp (disch := (first | assumption | (unfold i32; omega) | (unfold i64; omega) | omega)) only [↓reduceIte, ki_0, ki_1, ki_2, ki_3, ki_4, ki_5, ki_6, ki_7, ki_8, ki_9, ki_10, ki_11, ki_12, ki_13, ki_14, ki_15, ki_20, ki_21, ki_30, ki_31, ki_40, ki_41, ki_50, ki_51, ki_60, ki_63, ki_64, ki_65, ki_100, ki_158, ki_160, ki_200, ki_212, ki_1000, ki_2000, ki_2001, ki_5000, ki_10000, ki_10001, ki_100000, ki_200000, ki_1000000, ki_2000000, ki_3000000, iO_neg, iO_add, iO_sub, iO_mul, kn_4, kn_8, kn_10, kn_20, kn_24, kn_40, kn_41, kn_50, kn_60, kn_158, kn_160, kn_200, kn_212, kn_2001, tn_lt, fn_lt, tn_le, fn_le, tn_eq, fn_eq, x_lt, x_le, x_eq, x_ix, x_nat, t_lt, f_lt, t_le, f_le, t_eq, f_eq, eq_self, and_self, true_and, and_true, false_and, and_false, if_true, if_false, Int.toNat_natCast, bI_s, bL_s, bA_s, bA_n, bV_s, mq_s, mq_n, en_le, bl_0, bl_1, u_eq, u_ne, w_eq, w_ne, v_eq, v_ne]
    · have g2 : sz < pcn sz L + L := by unfold pcn at g ⊢; omega
      generalize pcn sz L = P at *
      clear hf hv
      simp (disch := (first | assumption | (unfold i32; omega) | (unfold i64; omega) | omega)) only [↓reduceIte, ki_0, ki_1, ki_2, ki_3, ki_4, ki_5, ki_6, ki_7, ki_8, ki_9, ki_10, ki_11, ki_12, ki_13, ki_14, ki_15, ki_20, ki_21, ki_30, ki_31, ki_40, ki_41, ki_50, ki_51, ki_60, ki_63, ki_64, ki_65, ki_100, ki_158, ki_160, ki_200, ki_212, ki_1000, ki_2000, ki_2001, ki_5000, ki_10000, ki_10001, ki_100000, ki_200000, ki_1000000, ki_2000000, ki_3000000, iO_neg, iO_add, iO_sub, iO_mul, kn_4, kn_8, kn_10, kn_20, kn_24, kn_40, kn_41, kn_50, kn_60, kn_158, kn_160, kn_200, kn_212, kn_2001, tn_lt, fn_lt, tn_le, fn_le, tn_eq, fn_eq, x_lt, x_le, x_eq, x_ix, x_nat, t_lt, f_lt, t_le, f_le, t_eq, f_eq, eq_self, and_self, true_and, and_true, false_and, and_false, if_true, if_false, Int.toNat_natCast, bI_s, bL_s, bA_s, bA_n, bV_s, mq_s, mq_n, en_le, bl_0, bl_1, u_eq, u_ne, w_eq, w_ne, v_eq, v_ne, ↓hp_cc_26, ↓hp_g_26_0, ↓hp_p_26_0, ↓hp_g_26_1, ↓hp_p_26_1, ↓hp_g_26_2, ↓hp_p_26_2, ↓hp_g_26_3, ↓hp_g_26_4, ↓hp_g_26_5, ↓hp_g_26_6, ↓hp_g_26_7, ↓hp_g_26_8, ↓hp_g_26_9, ↓hp_g_26_10, ↓hp_g_26_11, ↓hp_g_26_12, ↓hp_g_26_13, ↓hp_g_26_14, ↓hp_g_26_15, ↓hp_p_26_15, ↓hp_g_26_16, ↓hp_g_26_17, ↓hp_g_26_18, ↓hp_p_26_18, ↓hp_g_26_19, ↓hp_p_26_19, ↓hp_g_26_20, ↓hp_g_26_21, ↓hp_p_26_21, ↓hp_g_26_22, ↓hp_g_26_23, ↓hp_g_26_24, ↓hp_g_26_25, ↓hp_g_26_26, ↓hp_g_26_27, ↓hp_g_26_28, ↓hp_g_26_29, ↓hp_g_26_30, ↓hp_p_26_30, ↓hp_g_26_31, ↓hp_g_26_32, ↓hp_p_26_32, ↓hp_a_27, ↓hp_s_27, ↓hp_l_27, ↓hp_a_28, ↓hp_s_28, ↓hp_l_28, ↓hp_a_29, ↓hp_s_29, ↓hp_l_29, ↓hp_a_30, ↓hp_s_30, ↓hp_l_30, ↓hp_a_31, ↓hp_s_31, ↓hp_l_31, ↓hp_a_32, ↓hp_s_32, ↓hp_l_32, ↓hp_a_33, ↓hp_s_33, ↓hp_l_33, ↓hp_a_34, ↓hp_s_34, ↓hp_l_34, ↓hp_a_35, ↓hp_s_35, ↓hp_l_35, ↓hp_a_36, ↓hp_s_36, ↓hp_l_36, ↓hp_a_37, ↓hp_s_37, ↓hp_l_37, ↓hp_a_38, ↓hp_s_38, ↓hp_l_38, ↓hp_a_39, ↓hp_s_39, ↓hp_a_40, ↓hp_s_40, ↓hp_a_41, ↓hp_s_41, ↓hp_l_41, ↓hp_a_42, ↓hp_s_42, ↓hp_l_42, ↓hp_a_43, ↓hp_s_43, ↓hp_l_43, ↓hp_a_44, ↓hp_s_44, ↓hp_l_44, ↓hp_a_45, ↓hp_s_45, ↓hp_l_45, ↓hp_a_46, ↓hp_s_46, ↓hp_l_46, ↓hp_a_47, ↓hp_s_47, ↓hp_l_47, ↓hp_a_48, ↓hp_s_48, ↓hp_l_48, ↓hp_a_49, ↓hp_s_49, ↓hp_l_49, ↓hp_a_50, ↓hp_s_50, ↓hp_l_50, h5]
  | succ j ih =>
    intro a ha
    have hp1 : pcn sz L ≤ 200 := Nat.min_le_left _ _
    have haL : a + L ≤ sz := by unfold pcn at ha; omega
    have ih' := ih (a + 1) (by omega)
    have h4 := m_parts4 (sc := sc) (d := d) (XI := XI) (XA := XA) (XP := XP) (XC := XC) (MI := MI) (MA := MA) (ML := ML) (D := D) hr hL hsz hf hv (a := a) haL (by omega) (w := w) (c := ((tb (fun a => nwa f L a && (decide (w = 0) || bwd f L a)) a : Nat) : Int)) a 0 (by omega)
    have hbk := m_backw (sc := sc) (d := d) (XI := XI) (XA := XA) (XP := XP) (XC := XC) (MI := MI) (MA := MA) (ML := ML) (D := D) hr hL hsz hf hv (a := a) haL
    have hb := tb_le (fun a => nwa f L a && (decide (w = 0) || bwd f L a)) a
    have estep : tb (fun a => nwa f L a && (decide (w = 0) || bwd f L a)) (a + 1) = tb (fun a => nwa f L a && (decide (w = 0) || bwd f L a)) a + (nwa f L a && (decide (w = 0) || bwd f L a)).toNat := rfl
    rw [estep] at ih'
    rw [← ih']
    have e3 : b_X12_parts_3 sc (d + 1) 26 (iO (r : Int)) (iO (L : Int)) (iO w) (iO ((tb (fun a => nwa f L a && (decide (w = 0) || bwd f L a)) a : Nat) : Int)) (iO (a : Int)) (hp XI XA XP XC MI MA ML D) = b_X12_parts_4 sc (d + 1) 26 (iO (r : Int)) (iO (L : Int)) (iO w) (iO ((tb (fun a => nwa f L a && (decide (w = 0) || bwd f L a)) a : Nat) : Int)) (iO (a : Int)) (iO 1) (iO 0) (hp XI XA XP XC MI MA ML D) := by
      generalize tb (fun a => nwa f L a && (decide (w = 0) || bwd f L a)) a = T at *
      rw [eb_X12_parts_3]
      clear hf hv ih ih' h4 hbk estep
      simp (disch := (first | assumption | (unfold i32; omega) | (unfold i64; omega) | omega)) only [↓reduceIte, ki_0, ki_1, ki_2, ki_3, ki_4, ki_5, ki_6, ki_7, ki_8, ki_9, ki_10, ki_11, ki_12, ki_13, ki_14, ki_15, ki_20, ki_21, ki_30, ki_31, ki_40, ki_41, ki_50, ki_51, ki_60, ki_63, ki_64, ki_65, ki_100, ki_158, ki_160, ki_200, ki_212, ki_1000, ki_2000, ki_2001, ki_5000, ki_10000, ki_10001, ki_100000, ki_200000, ki_1000000, ki_2000000, ki_3000000, iO_neg, iO_add, iO_sub, iO_mul, kn_4, kn_8, kn_10, kn_20, kn_24, kn_40, kn_41, kn_50, kn_60, kn_158, kn_160, kn_200, kn_212, kn_2001, tn_lt, fn_lt, tn_le, fn_le, tn_eq, fn_eq, x_lt, x_le, x_eq, x_ix, x_nat, t_lt, f_lt, t_le, f_le, t_eq, f_eq, eq_self, and_self, true_and, and_true, false_and, and_false, if_true, if_false, Int.toNat_natCast, bI_s, bL_s, bA_s, bA_n, bV_s, mq_s, mq_n, en_le, bl_0, bl_1, u_eq, u_ne, w_eq, w_ne, v_eq, v_ne, ↓hp_cc_26, ↓hp_g_26_0, ↓hp_p_26_0, ↓hp_g_26_1, ↓hp_p_26_1, ↓hp_g_26_2, ↓hp_p_26_2, ↓hp_g_26_3, ↓hp_g_26_4, ↓hp_g_26_5, ↓hp_g_26_6, ↓hp_g_26_7, ↓hp_g_26_8, ↓hp_g_26_9, ↓hp_g_26_10, ↓hp_g_26_11, ↓hp_g_26_12, ↓hp_g_26_13, ↓hp_g_26_14, ↓hp_g_26_15, ↓hp_p_26_15, ↓hp_g_26_16, ↓hp_g_26_17, ↓hp_g_26_18, ↓hp_p_26_18, ↓hp_g_26_19, ↓hp_p_26_19, ↓hp_g_26_20, ↓hp_g_26_21, ↓hp_p_26_21, ↓hp_g_26_22, ↓hp_g_26_23, ↓hp_g_26_24, ↓hp_g_26_25, ↓hp_g_26_26, ↓hp_g_26_27, ↓hp_g_26_28, ↓hp_g_26_29, ↓hp_g_26_30, ↓hp_p_26_30, ↓hp_g_26_31, ↓hp_g_26_32, ↓hp_p_26_32, ↓hp_a_27, ↓hp_s_27, ↓hp_l_27, ↓hp_a_28, ↓hp_s_28, ↓hp_l_28, ↓hp_a_29, ↓hp_s_29, ↓hp_l_29, ↓hp_a_30, ↓hp_s_30, ↓hp_l_30, ↓hp_a_31, ↓hp_s_31, ↓hp_l_31, ↓hp_a_32, ↓hp_s_32, ↓hp_l_32, ↓hp_a_33, ↓hp_s_33, ↓hp_l_33, ↓hp_a_34, ↓hp_s_34, ↓hp_l_34, ↓hp_a_35, ↓hp_s_35, ↓hp_l_35, ↓hp_a_36, ↓hp_s_36, ↓hp_l_36, ↓hp_a_37, ↓hp_s_37, ↓hp_l_37, ↓hp_a_38, ↓hp_s_38, ↓hp_l_38, ↓hp_a_39, ↓hp_s_39, ↓hp_a_40, ↓hp_s_40, ↓hp_a_41, ↓hp_s_41, ↓hp_l_41, ↓hp_a_42, ↓hp_s_42, ↓hp_l_42, ↓hp_a_43, ↓hp_s_43, ↓hp_l_43, ↓hp_a_44, ↓hp_s_44, ↓hp_l_44, ↓hp_a_45, ↓hp_s_45, ↓hp_l_45, ↓hp_a_46, ↓hp_s_46, ↓hp_l_46, ↓hp_a_47, ↓hp_s_47, ↓hp_l_47, ↓hp_a_48, ↓hp_s_48, ↓hp_l_48, ↓hp_a_49, ↓hp_s_49, ↓hp_l_49, ↓hp_a_50, ↓hp_s_50, ↓hp_l_50, h5]
    rw [e3]
    refine Eq.trans h4 ?_
    generalize tb (fun a => nwa f L a && (decide (w = 0) || bwd f L a)) a = T at *
    rw [eb_X12_parts_7]
    clear hf hv ih ih' h4 e3 estep
    cases hn : nwa f L a with
    | false =>
      rw [if_neg Bool.false_ne_true]
      simp (disch := (first | assumption | (unfold i32; omega) | (unfold i64; omega) | omega)) only [↓reduceIte, ki_0, ki_1, ki_2, ki_3, ki_4, ki_5, ki_6, ki_7, ki_8, ki_9, ki_10, ki_11, ki_12, ki_13, ki_14, ki_15, ki_20, ki_21, ki_30, ki_31, ki_40, ki_41, ki_50, ki_51, ki_60, ki_63, ki_64, ki_65, ki_100, ki_158, ki_160, ki_200, ki_212, ki_1000, ki_2000, ki_2001, ki_5000, ki_10000, ki_10001, ki_100000, ki_200000, ki_1000000, ki_2000000, ki_3000000, iO_neg, iO_add, iO_sub, iO_mul, kn_4, kn_8, kn_10, kn_20, kn_24, kn_40, kn_41, kn_50, kn_60, kn_158, kn_160, kn_200, kn_212, kn_2001, tn_lt, fn_lt, tn_le, fn_le, tn_eq, fn_eq, x_lt, x_le, x_eq, x_ix, x_nat, t_lt, f_lt, t_le, f_le, t_eq, f_eq, eq_self, and_self, true_and, and_true, false_and, and_false, if_true, if_false, Int.toNat_natCast, bI_s, bL_s, bA_s, bA_n, bV_s, mq_s, mq_n, en_le, bl_0, bl_1, u_eq, u_ne, w_eq, w_ne, v_eq, v_ne, Bool.false_and, Bool.toNat_false, Nat.add_zero]
      try rfl
    | true =>
      rw [if_pos rfl]
      rcases hw with rfl | rfl
      · simp (disch := (first | assumption | (unfold i32; omega) | (unfold i64; omega) | omega)) only [↓reduceIte, ki_0, ki_1, ki_2, ki_3, ki_4, ki_5, ki_6, ki_7, ki_8, ki_9, ki_10, ki_11, ki_12, ki_13, ki_14, ki_15, ki_20, ki_21, ki_30, ki_31, ki_40, ki_41, ki_50, ki_51, ki_60, ki_63, ki_64, ki_65, ki_100, ki_158, ki_160, ki_200, ki_212, ki_1000, ki_2000, ki_2001, ki_5000, ki_10000, ki_10001, ki_100000, ki_200000, ki_1000000, ki_2000000, ki_3000000, iO_neg, iO_add, iO_sub, iO_mul, kn_4, kn_8, kn_10, kn_20, kn_24, kn_40, kn_41, kn_50, kn_60, kn_158, kn_160, kn_200, kn_212, kn_2001, tn_lt, fn_lt, tn_le, fn_le, tn_eq, fn_eq, x_lt, x_le, x_eq, x_ix, x_nat, t_lt, f_lt, t_le, f_le, t_eq, f_eq, eq_self, and_self, true_and, and_true, false_and, and_false, if_true, if_false, Int.toNat_natCast, bI_s, bL_s, bA_s, bA_n, bV_s, mq_s, mq_n, en_le, bl_0, bl_1, u_eq, u_ne, w_eq, w_ne, v_eq, v_ne, decide_true, Bool.true_or, Bool.true_and, Bool.toNat_true]
        rfl
      · cases hbw : bwd f L a with
        | false =>
          rw [hbw, if_neg Bool.false_ne_true] at hbk
          have e0 : (true && (decide ((1 : Int) = 0) || false)).toNat = 0 := by decide
          rw [e0, Nat.add_zero]
          simp (disch := (first | assumption | (unfold i32; omega) | (unfold i64; omega) | omega)) only [↓reduceIte, ki_0, ki_1, ki_2, ki_3, ki_4, ki_5, ki_6, ki_7, ki_8, ki_9, ki_10, ki_11, ki_12, ki_13, ki_14, ki_15, ki_20, ki_21, ki_30, ki_31, ki_40, ki_41, ki_50, ki_51, ki_60, ki_63, ki_64, ki_65, ki_100, ki_158, ki_160, ki_200, ki_212, ki_1000, ki_2000, ki_2001, ki_5000, ki_10000, ki_10001, ki_100000, ki_200000, ki_1000000, ki_2000000, ki_3000000, iO_neg, iO_add, iO_sub, iO_mul, kn_4, kn_8, kn_10, kn_20, kn_24, kn_40, kn_41, kn_50, kn_60, kn_158, kn_160, kn_200, kn_212, kn_2001, tn_lt, fn_lt, tn_le, fn_le, tn_eq, fn_eq, x_lt, x_le, x_eq, x_ix, x_nat, t_lt, f_lt, t_le, f_le, t_eq, f_eq, eq_self, and_self, true_and, and_true, false_and, and_false, if_true, if_false, Int.toNat_natCast, bI_s, bL_s, bA_s, bA_n, bV_s, mq_s, mq_n, en_le, bl_0, bl_1, u_eq, u_ne, w_eq, w_ne, v_eq, v_ne, ↓hp_cc_26, ↓hp_g_26_0, ↓hp_p_26_0, ↓hp_g_26_1, ↓hp_p_26_1, ↓hp_g_26_2, ↓hp_p_26_2, ↓hp_g_26_3, ↓hp_g_26_4, ↓hp_g_26_5, ↓hp_g_26_6, ↓hp_g_26_7, ↓hp_g_26_8, ↓hp_g_26_9, ↓hp_g_26_10, ↓hp_g_26_11, ↓hp_g_26_12, ↓hp_g_26_13, ↓hp_g_26_14, ↓hp_g_26_15, ↓hp_p_26_15, ↓hp_g_26_16, ↓hp_g_26_17, ↓hp_g_26_18, ↓hp_p_26_18, ↓hp_g_26_19, ↓hp_p_26_19, ↓hp_g_26_20, ↓hp_g_26_21, ↓hp_p_26_21, ↓hp_g_26_22, ↓hp_g_26_23, ↓hp_g_26_24, ↓hp_g_26_25, ↓hp_g_26_26, ↓hp_g_26_27, ↓hp_g_26_28, ↓hp_g_26_29, ↓hp_g_26_30, ↓hp_p_26_30, ↓hp_g_26_31, ↓hp_g_26_32, ↓hp_p_26_32, ↓hp_a_27, ↓hp_s_27, ↓hp_l_27, ↓hp_a_28, ↓hp_s_28, ↓hp_l_28, ↓hp_a_29, ↓hp_s_29, ↓hp_l_29, ↓hp_a_30, ↓hp_s_30, ↓hp_l_30, ↓hp_a_31, ↓hp_s_31, ↓hp_l_31, ↓hp_a_32, ↓hp_s_32, ↓hp_l_32, ↓hp_a_33, ↓hp_s_33, ↓hp_l_33, ↓hp_a_34, ↓hp_s_34, ↓hp_l_34, ↓hp_a_35, ↓hp_s_35, ↓hp_l_35, ↓hp_a_36, ↓hp_s_36, ↓hp_l_36, ↓hp_a_37, ↓hp_s_37, ↓hp_l_37, ↓hp_a_38, ↓hp_s_38, ↓hp_l_38, ↓hp_a_39, ↓hp_s_39, ↓hp_a_40, ↓hp_s_40, ↓hp_a_41, ↓hp_s_41, ↓hp_l_41, ↓hp_a_42, ↓hp_s_42, ↓hp_l_42, ↓hp_a_43, ↓hp_s_43, ↓hp_l_43, ↓hp_a_44, ↓hp_s_44, ↓hp_l_44, ↓hp_a_45, ↓hp_s_45, ↓hp_l_45, ↓hp_a_46, ↓hp_s_46, ↓hp_l_46, ↓hp_a_47, ↓hp_s_47, ↓hp_l_47, ↓hp_a_48, ↓hp_s_48, ↓hp_l_48, ↓hp_a_49, ↓hp_s_49, ↓hp_l_49, ↓hp_a_50, ↓hp_s_50, ↓hp_l_50, hbk]
          try rfl
        | true =>
          rw [hbw, if_pos rfl] at hbk
          have e0 : (true && (decide ((1 : Int) = 0) || true)).toNat = 1 := by decide
          rw [e0]
          simp (disch := (first | assumption | (unfold i32; omega) | (unfold i64; omega) | omega)) only [↓reduceIte, ki_0, ki_1, ki_2, ki_3, ki_4, ki_5, ki_6, ki_7, ki_8, ki_9, ki_10, ki_11, ki_12, ki_13, ki_14, ki_15, ki_20, ki_21, ki_30, ki_31, ki_40, ki_41, ki_50, ki_51, ki_60, ki_63, ki_64, ki_65, ki_100, ki_158, ki_160, ki_200, ki_212, ki_1000, ki_2000, ki_2001, ki_5000, ki_10000, ki_10001, ki_100000, ki_200000, ki_1000000, ki_2000000, ki_3000000, iO_neg, iO_add, iO_sub, iO_mul, kn_4, kn_8, kn_10, kn_20, kn_24, kn_40, kn_41, kn_50, kn_60, kn_158, kn_160, kn_200, kn_212, kn_2001, tn_lt, fn_lt, tn_le, fn_le, tn_eq, fn_eq, x_lt, x_le, x_eq, x_ix, x_nat, t_lt, f_lt, t_le, f_le, t_eq, f_eq, eq_self, and_self, true_and, and_true, false_and, and_false, if_true, if_false, Int.toNat_natCast, bI_s, bL_s, bA_s, bA_n, bV_s, mq_s, mq_n, en_le, bl_0, bl_1, u_eq, u_ne, w_eq, w_ne, v_eq, v_ne, ↓hp_cc_26, ↓hp_g_26_0, ↓hp_p_26_0, ↓hp_g_26_1, ↓hp_p_26_1, ↓hp_g_26_2, ↓hp_p_26_2, ↓hp_g_26_3, ↓hp_g_26_4, ↓hp_g_26_5, ↓hp_g_26_6, ↓hp_g_26_7, ↓hp_g_26_8, ↓hp_g_26_9, ↓hp_g_26_10, ↓hp_g_26_11, ↓hp_g_26_12, ↓hp_g_26_13, ↓hp_g_26_14, ↓hp_g_26_15, ↓hp_p_26_15, ↓hp_g_26_16, ↓hp_g_26_17, ↓hp_g_26_18, ↓hp_p_26_18, ↓hp_g_26_19, ↓hp_p_26_19, ↓hp_g_26_20, ↓hp_g_26_21, ↓hp_p_26_21, ↓hp_g_26_22, ↓hp_g_26_23, ↓hp_g_26_24, ↓hp_g_26_25, ↓hp_g_26_26, ↓hp_g_26_27, ↓hp_g_26_28, ↓hp_g_26_29, ↓hp_g_26_30, ↓hp_p_26_30, ↓hp_g_26_31, ↓hp_g_26_32, ↓hp_p_26_32, ↓hp_a_27, ↓hp_s_27, ↓hp_l_27, ↓hp_a_28, ↓hp_s_28, ↓hp_l_28, ↓hp_a_29, ↓hp_s_29, ↓hp_l_29, ↓hp_a_30, ↓hp_s_30, ↓hp_l_30, ↓hp_a_31, ↓hp_s_31, ↓hp_l_31, ↓hp_a_32, ↓hp_s_32, ↓hp_l_32, ↓hp_a_33, ↓hp_s_33, ↓hp_l_33, ↓hp_a_34, ↓hp_s_34, ↓hp_l_34, ↓hp_a_35, ↓hp_s_35, ↓hp_l_35, ↓hp_a_36, ↓hp_s_36, ↓hp_l_36, ↓hp_a_37, ↓hp_s_37, ↓hp_l_37, ↓hp_a_38, ↓hp_s_38, ↓hp_l_38, ↓hp_a_39, ↓hp_s_39, ↓hp_a_40, ↓hp_s_40, ↓hp_a_41, ↓hp_s_41, ↓hp_l_41, ↓hp_a_42, ↓hp_s_42, ↓hp_l_42, ↓hp_a_43, ↓hp_s_43, ↓hp_l_43, ↓hp_a_44, ↓hp_s_44, ↓hp_l_44, ↓hp_a_45, ↓hp_s_45, ↓hp_l_45, ↓hp_a_46, ↓hp_s_46, ↓hp_l_46, ↓hp_a_47, ↓hp_s_47, ↓hp_l_47, ↓hp_a_48, ↓hp_s_48, ↓hp_l_48, ↓hp_a_49, ↓hp_s_49, ↓hp_l_49, ↓hp_a_50, ↓hp_s_50, ↓hp_l_50, hbk]
          try rfl
end PRM
section PRC
variable {sc : en_S} {n : Nat} {S : ST5}
theorem mc_parts (hS : OK5 S) {r L w : Int} (hr : i32 r) (hL : i32 L) (hw : i32 w) : MC S S (p_parts S r L w) (fun z => f_X12_parts sc (n + 40) 26 (iO r) (iO L) (iO w) z) := by
  apply mc_ask
  intro XI XA XP XC MI MA ML D hV
  have h10 := hS.2.1
  obtain ⟨w1, w2⟩ := id hw
  obtain ⟨l1, l2⟩ := id hL
  show f_X12_parts sc (n + 40) 26 (iO r) (iO L) (iO w) _ = _
  rw [e_X12_parts]
  unfold p_parts
  cases hq : rowq S r with
  | none =>
    have := rowq_none hq
    rw [hp_cc_26, if_pos rfl, e_misRow hV hS hr, if_neg (by omega)]
    rfl
  | some q =>
    obtain ⟨k, rfl, hk, hq2⟩ := rowq_some hq
    obtain ⟨c1, c2, c3, c4⟩ := hV.2.2.2.2.2.1 k q hq2
    have hR := hS.2.2.2.1 q (List.mem_of_getElem? hq2)
    have hsz : q.2.2.1 ≤ 10001 := hR.2.2.2.2.1
    have hva := hR.2.2.2.2.2.1
    rw [hp_cc_26, if_pos rfl, e_misRow hV hS hr, if_pos (by omega)]
    dsimp only
    by_cases g : 1 ≤ L ∧ L ≤ 12 ∧ 0 ≤ w ∧ w ≤ 1
    · rw [if_pos g]
      obtain ⟨g1, g2, g3, g4⟩ := g
      obtain ⟨y, rfl⟩ : ∃ y : Nat, L = y := ⟨L.toNat, by omega⟩
      rw [Int.toNat_natCast]
      have h3 := m_parts3 (sc := sc) (d := n + 38) (XI := XI) (XA := XA) (XP := XP) (XC := XC) (MI := MI) (MA := MA) (ML := ML) (D := D) (r := k) (L := y) (by omega) (by omega) (by omega) hsz c2 c4 hva (w := w) (by omega) (pcn q.2.2.1 y) 0 (by omega)
      have h3 : b_X12_parts_3 sc (n + 39) 26 (iO (k : Int)) (iO (y : Int)) (iO w) (iO 0) (iO 0) (hp XI XA XP XC MI MA ML D) = _ := h3
      clear hV c4 hva
      simp (disch := (first | assumption | (unfold i32; omega) | (unfold i64; omega) | omega)) only [↓reduceIte, ki_0, ki_1, ki_2, ki_3, ki_4, ki_5, ki_6, ki_7, ki_8, ki_9, ki_10, ki_11, ki_12, ki_13, ki_14, ki_15, ki_20, ki_21, ki_30, ki_31, ki_40, ki_41, ki_50, ki_51, ki_60, ki_63, ki_64, ki_65, ki_100, ki_158, ki_160, ki_200, ki_212, ki_1000, ki_2000, ki_2001, ki_5000, ki_10000, ki_10001, ki_100000, ki_200000, ki_1000000, ki_2000000, ki_3000000, iO_neg, iO_add, iO_sub, iO_mul, kn_4, kn_8, kn_10, kn_20, kn_24, kn_40, kn_41, kn_50, kn_60, kn_158, kn_160, kn_200, kn_212, kn_2001, tn_lt, fn_lt, tn_le, fn_le, tn_eq, fn_eq, x_lt, x_le, x_eq, x_ix, x_nat, t_lt, f_lt, t_le, f_le, t_eq, f_eq, eq_self, and_self, true_and, and_true, false_and, and_false, if_true, if_false, Int.toNat_natCast, bI_s, bL_s, bA_s, bA_n, bV_s, mq_s, mq_n, en_le, bl_0, bl_1, u_eq, u_ne, w_eq, w_ne, v_eq, v_ne, ↓hp_cc_26, ↓hp_g_26_0, ↓hp_p_26_0, ↓hp_g_26_1, ↓hp_p_26_1, ↓hp_g_26_2, ↓hp_p_26_2, ↓hp_g_26_3, ↓hp_g_26_4, ↓hp_g_26_5, ↓hp_g_26_6, ↓hp_g_26_7, ↓hp_g_26_8, ↓hp_g_26_9, ↓hp_g_26_10, ↓hp_g_26_11, ↓hp_g_26_12, ↓hp_g_26_13, ↓hp_g_26_14, ↓hp_g_26_15, ↓hp_p_26_15, ↓hp_g_26_16, ↓hp_g_26_17, ↓hp_g_26_18, ↓hp_p_26_18, ↓hp_g_26_19, ↓hp_p_26_19, ↓hp_g_26_20, ↓hp_g_26_21, ↓hp_p_26_21, ↓hp_g_26_22, ↓hp_g_26_23, ↓hp_g_26_24, ↓hp_g_26_25, ↓hp_g_26_26, ↓hp_g_26_27, ↓hp_g_26_28, ↓hp_g_26_29, ↓hp_g_26_30, ↓hp_p_26_30, ↓hp_g_26_31, ↓hp_g_26_32, ↓hp_p_26_32, ↓hp_a_27, ↓hp_s_27, ↓hp_l_27, ↓hp_a_28, ↓hp_s_28, ↓hp_l_28, ↓hp_a_29, ↓hp_s_29, ↓hp_l_29, ↓hp_a_30, ↓hp_s_30, ↓hp_l_30, ↓hp_a_31, ↓hp_s_31, ↓hp_l_31, ↓hp_a_32, ↓hp_s_32, ↓hp_l_32, ↓hp_a_33, ↓hp_s_33, ↓hp_l_33, ↓hp_a_34, ↓hp_s_34, ↓hp_l_34, ↓hp_a_35, ↓hp_s_35, ↓hp_l_35, ↓hp_a_36, ↓hp_s_36, ↓hp_l_36, ↓hp_a_37, ↓hp_s_37, ↓hp_l_37, ↓hp_a_38, ↓hp_s_38, ↓hp_l_38, ↓hp_a_39, ↓hp_s_39, ↓hp_a_40, ↓hp_s_40, ↓hp_a_41, ↓hp_s_41, ↓hp_l_41, ↓hp_a_42, ↓hp_s_42, ↓hp_l_42, ↓hp_a_43, ↓hp_s_43, ↓hp_l_43, ↓hp_a_44, ↓hp_s_44, ↓hp_l_44, ↓hp_a_45, ↓hp_s_45, ↓hp_l_45, ↓hp_a_46, ↓hp_s_46, ↓hp_l_46, ↓hp_a_47, ↓hp_s_47, ↓hp_l_47, ↓hp_a_48, ↓hp_s_48, ↓hp_l_48, ↓hp_a_49, ↓hp_s_49, ↓hp_l_49, ↓hp_a_50, ↓hp_s_50, ↓hp_l_50, e_X12_in, h3]
    · rw [if_neg g]
      clear hV c4 hva
      by_cases t1 : L < 1
      · clear g; simp (disch := (first | assumption | (unfold i32; omega) | (unfold i64; omega) | omega)) only [↓reduceIte, ki_0, ki_1, ki_2, ki_3, ki_4, ki_5, ki_6, ki_7, ki_8, ki_9, ki_10, ki_11, ki_12, ki_13, ki_14, ki_15, ki_20, ki_21, ki_30, ki_31, ki_40, ki_41, ki_50, ki_51, ki_60, ki_63, ki_64, ki_65, ki_100, ki_158, ki_160, ki_200, ki_212, ki_1000, ki_2000, ki_2001, ki_5000, ki_10000, ki_10001, ki_100000, ki_200000, ki_1000000, ki_2000000, ki_3000000, iO_neg, iO_add, iO_sub, iO_mul, kn_4, kn_8, kn_10, kn_20, kn_24, kn_40, kn_41, kn_50, kn_60, kn_158, kn_160, kn_200, kn_212, kn_2001, tn_lt, fn_lt, tn_le, fn_le, tn_eq, fn_eq, x_lt, x_le, x_eq, x_ix, x_nat, t_lt, f_lt, t_le, f_le, t_eq, f_eq, eq_self, and_self, true_and, and_true, false_and, and_false, if_true, if_false, Int.toNat_natCast, bI_s, bL_s, bA_s, bA_n, bV_s, mq_s, mq_n, en_le, bl_0, bl_1, u_eq, u_ne, w_eq, w_ne, v_eq, v_ne, ↓hp_cc_26, ↓hp_g_26_0, ↓hp_p_26_0, ↓hp_g_26_1, ↓hp_p_26_1, ↓hp_g_26_2, ↓hp_p_26_2, ↓hp_g_26_3, ↓hp_g_26_4, ↓hp_g_26_5, ↓hp_g_26_6, ↓hp_g_26_7, ↓hp_g_26_8, ↓hp_g_26_9, ↓hp_g_26_10, ↓hp_g_26_11, ↓hp_g_26_12, ↓hp_g_26_13, ↓hp_g_26_14, ↓hp_g_26_15, ↓hp_p_26_15, ↓hp_g_26_16, ↓hp_g_26_17, ↓hp_g_26_18, ↓hp_p_26_18, ↓hp_g_26_19, ↓hp_p_26_19, ↓hp_g_26_20, ↓hp_g_26_21, ↓hp_p_26_21, ↓hp_g_26_22, ↓hp_g_26_23, ↓hp_g_26_24, ↓hp_g_26_25, ↓hp_g_26_26, ↓hp_g_26_27, ↓hp_g_26_28, ↓hp_g_26_29, ↓hp_g_26_30, ↓hp_p_26_30, ↓hp_g_26_31, ↓hp_g_26_32, ↓hp_p_26_32, ↓hp_a_27, ↓hp_s_27, ↓hp_l_27, ↓hp_a_28, ↓hp_s_28, ↓hp_l_28, ↓hp_a_29, ↓hp_s_29, ↓hp_l_29, ↓hp_a_30, ↓hp_s_30, ↓hp_l_30, ↓hp_a_31, ↓hp_s_31, ↓hp_l_31, ↓hp_a_32, ↓hp_s_32, ↓hp_l_32, ↓hp_a_33, ↓hp_s_33, ↓hp_l_33, ↓hp_a_34, ↓hp_s_34, ↓hp_l_34, ↓hp_a_35, ↓hp_s_35, ↓hp_l_35, ↓hp_a_36, ↓hp_s_36, ↓hp_l_36, ↓hp_a_37, ↓hp_s_37, ↓hp_l_37, ↓hp_a_38, ↓hp_s_38, ↓hp_l_38, ↓hp_a_39, ↓hp_s_39, ↓hp_a_40, ↓hp_s_40, ↓hp_a_41, ↓hp_s_41, ↓hp_l_41, ↓hp_a_42, ↓hp_s_42, ↓hp_l_42, ↓hp_a_43, ↓hp_s_43, ↓hp_l_43, ↓hp_a_44, ↓hp_s_44, ↓hp_l_44, ↓hp_a_45, ↓hp_s_45, ↓hp_l_45, ↓hp_a_46, ↓hp_s_46, ↓hp_l_46, ↓hp_a_47, ↓hp_s_47, ↓hp_l_47, ↓hp_a_48, ↓hp_s_48, ↓hp_l_48, ↓hp_a_49, ↓hp_s_49, ↓hp_l_49, ↓hp_a_50, ↓hp_s_50, ↓hp_l_50, e_X12_in]
      by_cases t2 : 12 < L
      · clear g; simp (disch := (first | assumption | (unfold i32; omega) | (unfold i64; omega) | omega)) only [↓reduceIte, ki_0, ki_1, ki_2, ki_3, ki_4, ki_5, ki_6, ki_7, ki_8, ki_9, ki_10, ki_11, ki_12, ki_13, ki_14, ki_15, ki_20, ki_21, ki_30, ki_31, ki_40, ki_41, ki_50, ki_51, ki_60, ki_63, ki_64, ki_65, ki_100, ki_158, ki_160, ki_200, ki_212, ki_1000, ki_2000, ki_2001, ki_5000, ki_10000, ki_10001, ki_100000, ki_200000, ki_1000000, ki_2000000, ki_3000000, iO_neg, iO_add, iO_sub, iO_mul, kn_4, kn_8, kn_10, kn_20, kn_24, kn_40, kn_41, kn_50, kn_60, kn_158, kn_160, kn_200, kn_212, kn_2001, tn_lt, fn_lt, tn_le, fn_le, tn_eq, fn_eq, x_lt, x_le, x_eq, x_ix, x_nat, t_lt, f_lt, t_le, f_le, t_eq, f_eq, eq_self, and_self, true_and, and_true, false_and, and_false, if_true, if_false, Int.toNat_natCast, bI_s, bL_s, bA_s, bA_n, bV_s, mq_s, mq_n, en_le, bl_0, bl_1, u_eq, u_ne, w_eq, w_ne, v_eq, v_ne, ↓hp_cc_26, ↓hp_g_26_0, ↓hp_p_26_0, ↓hp_g_26_1, ↓hp_p_26_1, ↓hp_g_26_2, ↓hp_p_26_2, ↓hp_g_26_3, ↓hp_g_26_4, ↓hp_g_26_5, ↓hp_g_26_6, ↓hp_g_26_7, ↓hp_g_26_8, ↓hp_g_26_9, ↓hp_g_26_10, ↓hp_g_26_11, ↓hp_g_26_12, ↓hp_g_26_13, ↓hp_g_26_14, ↓hp_g_26_15, ↓hp_p_26_15, ↓hp_g_26_16, ↓hp_g_26_17, ↓hp_g_26_18, ↓hp_p_26_18, ↓hp_g_26_19, ↓hp_p_26_19, ↓hp_g_26_20, ↓hp_g_26_21, ↓hp_p_26_21, ↓hp_g_26_22, ↓hp_g_26_23, ↓hp_g_26_24, ↓hp_g_26_25, ↓hp_g_26_26, ↓hp_g_26_27, ↓hp_g_26_28, ↓hp_g_26_29, ↓hp_g_26_30, ↓hp_p_26_30, ↓hp_g_26_31, ↓hp_g_26_32, ↓hp_p_26_32, ↓hp_a_27, ↓hp_s_27, ↓hp_l_27, ↓hp_a_28, ↓hp_s_28, ↓hp_l_28, ↓hp_a_29, ↓hp_s_29, ↓hp_l_29, ↓hp_a_30, ↓hp_s_30, ↓hp_l_30, ↓hp_a_31, ↓hp_s_31, ↓hp_l_31, ↓hp_a_32, ↓hp_s_32, ↓hp_l_32, ↓hp_a_33, ↓hp_s_33, ↓hp_l_33, ↓hp_a_34, ↓hp_s_34, ↓hp_l_34, ↓hp_a_35, ↓hp_s_35, ↓hp_l_35, ↓hp_a_36, ↓hp_s_36, ↓hp_l_36, ↓hp_a_37, ↓hp_s_37, ↓hp_l_37, ↓hp_a_38, ↓hp_s_38, ↓hp_l_38, ↓hp_a_39, ↓hp_s_39, ↓hp_a_40, ↓hp_s_40, ↓hp_a_41, ↓hp_s_41, ↓hp_l_41, ↓hp_a_42, ↓hp_s_42, ↓hp_l_42, ↓hp_a_43, ↓hp_s_43, ↓hp_l_43, ↓hp_a_44, ↓hp_s_44, ↓hp_l_44, ↓hp_a_45, ↓hp_s_45, ↓hp_l_45, ↓hp_a_46, ↓hp_s_46, ↓hp_l_46, ↓hp_a_47, ↓hp_s_47, ↓hp_l_47, ↓hp_a_48, ↓hp_s_48, ↓hp_l_48, ↓hp_a_49, ↓hp_s_49, ↓hp_l_49, ↓hp_a_50, ↓hp_s_50, ↓hp_l_50, e_X12_in]
      by_cases t3 : w < 0
      · clear g; simp (disch := (first | assumption | (unfold i32; omega) | (unfold i64; omega) | omega)) only [↓reduceIte, ki_0, ki_1, ki_2, ki_3, ki_4, ki_5, ki_6, ki_7, ki_8, ki_9, ki_10, ki_11, ki_12, ki_13, ki_14, ki_15, ki_20, ki_21, ki_30, ki_31, ki_40, ki_41, ki_50, ki_51, ki_60, ki_63, ki_64, ki_65, ki_100, ki_158, ki_160, ki_200, ki_212, ki_1000, ki_2000, ki_2001, ki_5000, ki_10000, ki_10001, ki_100000, ki_200000, ki_1000000, ki_2000000, ki_3000000, iO_neg, iO_add, iO_sub, iO_mul, kn_4, kn_8, kn_10, kn_20, kn_24, kn_40, kn_41, kn_50, kn_60, kn_158, kn_160, kn_200, kn_212, kn_2001, tn_lt, fn_lt, tn_le, fn_le, tn_eq, fn_eq, x_lt, x_le, x_eq, x_ix, x_nat, t_lt, f_lt, t_le, f_le, t_eq, f_eq, eq_self, and_self, true_and, and_true, false_and, and_false, if_true, if_false, Int.toNat_natCast, bI_s, bL_s, bA_s, bA_n, bV_s, mq_s, mq_n, en_le, bl_0, bl_1, u_eq, u_ne, w_eq, w_ne, v_eq, v_ne, ↓hp_cc_26, ↓hp_g_26_0, ↓hp_p_26_0, ↓hp_g_26_1, ↓hp_p_26_1, ↓hp_g_26_2, ↓hp_p_26_2, ↓hp_g_26_3, ↓hp_g_26_4, ↓hp_g_26_5, ↓hp_g_26_6, ↓hp_g_26_7, ↓hp_g_26_8, ↓hp_g_26_9, ↓hp_g_26_10, ↓hp_g_26_11, ↓hp_g_26_12, ↓hp_g_26_13, ↓hp_g_26_14, ↓hp_g_26_15, ↓hp_p_26_15, ↓hp_g_26_16, ↓hp_g_26_17, ↓hp_g_26_18, ↓hp_p_26_18, ↓hp_g_26_19, ↓hp_p_26_19, ↓hp_g_26_20, ↓hp_g_26_21, ↓hp_p_26_21, ↓hp_g_26_22, ↓hp_g_26_23, ↓hp_g_26_24, ↓hp_g_26_25, ↓hp_g_26_26, ↓hp_g_26_27, ↓hp_g_26_28, ↓hp_g_26_29, ↓hp_g_26_30, ↓hp_p_26_30, ↓hp_g_26_31, ↓hp_g_26_32, ↓hp_p_26_32, ↓hp_a_27, ↓hp_s_27, ↓hp_l_27, ↓hp_a_28, ↓hp_s_28, ↓hp_l_28, ↓hp_a_29, ↓hp_s_29, ↓hp_l_29, ↓hp_a_30, ↓hp_s_30, ↓hp_l_30, ↓hp_a_31, ↓hp_s_31, ↓hp_l_31, ↓hp_a_32, ↓hp_s_32, ↓hp_l_32, ↓hp_a_33, ↓hp_s_33, ↓hp_l_33, ↓hp_a_34, ↓hp_s_34, ↓hp_l_34, ↓hp_a_35, ↓hp_s_35, ↓hp_l_35, ↓hp_a_36, ↓hp_s_36, ↓hp_l_36, ↓hp_a_37, ↓hp_s_37, ↓hp_l_37, ↓hp_a_38, ↓hp_s_38, ↓hp_l_38, ↓hp_a_39, ↓hp_s_39, ↓hp_a_40, ↓hp_s_40, ↓hp_a_41, ↓hp_s_41, ↓hp_l_41, ↓hp_a_42, ↓hp_s_42, ↓hp_l_42, ↓hp_a_43, ↓hp_s_43, ↓hp_l_43, ↓hp_a_44, ↓hp_s_44, ↓hp_l_44, ↓hp_a_45, ↓hp_s_45, ↓hp_l_45, ↓hp_a_46, ↓hp_s_46, ↓hp_l_46, ↓hp_a_47, ↓hp_s_47, ↓hp_l_47, ↓hp_a_48, ↓hp_s_48, ↓hp_l_48, ↓hp_a_49, ↓hp_s_49, ↓hp_l_49, ↓hp_a_50, ↓hp_s_50, ↓hp_l_50, e_X12_in]
      · have t4 : 1 < w := by omega
        clear g; simp (disch := (first | assumption | (unfold i32; omega) | (unfold i64; omega) | omega)) only [↓reduceIte, ki_0, ki_1, ki_2, ki_3, ki_4, ki_5, ki_6, ki_7, ki_8, ki_9, ki_10, ki_11, ki_12, ki_13, ki_14, ki_15, ki_20, ki_21, ki_30, ki_31, ki_40, ki_41, ki_50, ki_51, ki_60, ki_63, ki_64, ki_65, ki_100, ki_158, ki_160, ki_200, ki_212, ki_1000, ki_2000, ki_2001, ki_5000, ki_10000, ki_10001, ki_100000, ki_200000, ki_1000000, ki_2000000, ki_3000000, iO_neg, iO_add, iO_sub, iO_mul, kn_4, kn_8, kn_10, kn_20, kn_24, kn_40, kn_41, kn_50, kn_60, kn_158, kn_160, kn_200, kn_212, kn_2001, tn_lt, fn_lt, tn_le, fn_le, tn_eq, fn_eq, x_lt, x_le, x_eq, x_ix, x_nat, t_lt, f_lt, t_le, f_le, t_eq, f_eq, eq_self, and_self, true_and, and_true, false_and, and_false, if_true, if_false, Int.toNat_natCast, bI_s, bL_s, bA_s, bA_n, bV_s, mq_s, mq_n, en_le, bl_0, bl_1, u_eq, u_ne, w_eq, w_ne, v_eq, v_ne, ↓hp_cc_26, ↓hp_g_26_0, ↓hp_p_26_0, ↓hp_g_26_1, ↓hp_p_26_1, ↓hp_g_26_2, ↓hp_p_26_2, ↓hp_g_26_3, ↓hp_g_26_4, ↓hp_g_26_5, ↓hp_g_26_6, ↓hp_g_26_7, ↓hp_g_26_8, ↓hp_g_26_9, ↓hp_g_26_10, ↓hp_g_26_11, ↓hp_g_26_12, ↓hp_g_26_13, ↓hp_g_26_14, ↓hp_g_26_15, ↓hp_p_26_15, ↓hp_g_26_16, ↓hp_g_26_17, ↓hp_g_26_18, ↓hp_p_26_18, ↓hp_g_26_19, ↓hp_p_26_19, ↓hp_g_26_20, ↓hp_g_26_21, ↓hp_p_26_21, ↓hp_g_26_22, ↓hp_g_26_23, ↓hp_g_26_24, ↓hp_g_26_25, ↓hp_g_26_26, ↓hp_g_26_27, ↓hp_g_26_28, ↓hp_g_26_29, ↓hp_g_26_30, ↓hp_p_26_30, ↓hp_g_26_31, ↓hp_g_26_32, ↓hp_p_26_32, ↓hp_a_27, ↓hp_s_27, ↓hp_l_27, ↓hp_a_28, ↓hp_s_28, ↓hp_l_28, ↓hp_a_29, ↓hp_s_29, ↓hp_l_29, ↓hp_a_30, ↓hp_s_30, ↓hp_l_30, ↓hp_a_31, ↓hp_s_31, ↓hp_l_31, ↓hp_a_32, ↓hp_s_32, ↓hp_l_32, ↓hp_a_33, ↓hp_s_33, ↓hp_l_33, ↓hp_a_34, ↓hp_s_34, ↓hp_l_34, ↓hp_a_35, ↓hp_s_35, ↓hp_l_35, ↓hp_a_36, ↓hp_s_36, ↓hp_l_36, ↓hp_a_37, ↓hp_s_37, ↓hp_l_37, ↓hp_a_38, ↓hp_s_38, ↓hp_l_38, ↓hp_a_39, ↓hp_s_39, ↓hp_a_40, ↓hp_s_40, ↓hp_a_41, ↓hp_s_41, ↓hp_l_41, ↓hp_a_42, ↓hp_s_42, ↓hp_l_42, ↓hp_a_43, ↓hp_s_43, ↓hp_l_43, ↓hp_a_44, ↓hp_s_44, ↓hp_l_44, ↓hp_a_45, ↓hp_s_45, ↓hp_l_45, ↓hp_a_46, ↓hp_s_46, ↓hp_l_46, ↓hp_a_47, ↓hp_s_47, ↓hp_l_47, ↓hp_a_48, ↓hp_s_48, ↓hp_l_48, ↓hp_a_49, ↓hp_s_49, ↓hp_l_49, ↓hp_a_50, ↓hp_s_50, ↓hp_l_50, e_X12_in]
end PRC
