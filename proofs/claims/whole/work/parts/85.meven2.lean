/-! EVEN or not: the model's call -/
def p_isEven (S : ST5) (r a m : Int) : Int := match rowq S r with
  | none => -1
  | some q => if 1 ≤ m ∧ m ≤ 40 ∧ 0 ≤ a ∧ a + m ≤ (q.2.2.1 : Nat) then (match cl1 (fun x k => ssum q.2.2.2 (a.toNat + x) k) m.toNat m.toNat 1 with | none => 1 | some _ => 0) else -1
theorem cl3_ub {t : Nat → Nat → Int} {k a : Nat} {c : Int} (hk : k ≤ 100) (ha : a ≤ 100) : ∀ (j b : Nat), b + j ≤ 200 → cl3 t k a j b = some c → c ≤ 2000000 := by
  intro j
  induction j with
  | zero => intro b _ h; exact absurd h (by unfold cl3; exact fun h => nomatch h)
  | succ j ih =>
    intro b hb h
    rw [cl3] at h
    split at h
    · have := Option.some.inj h
      omega
    · exact ih _ (by omega) h
theorem cl2_ub {t : Nat → Nat → Int} {n k : Nat} {c : Int} (hn : n ≤ 40) (hk : k ≤ 100) : ∀ (j a : Nat), a + j ≤ 100 → cl2 t n k j a = some c → c ≤ 2000000 := by
  intro j
  induction j with
  | zero => intro b _ h; exact absurd h (by unfold cl2; exact fun h => nomatch h)
  | succ j ih =>
    intro b hb h
    rw [cl2] at h
    split at h
    · rename_i c' hc
      have := Option.some.inj h
      have := cl3_ub hk (by omega) _ _ (by omega) hc
      omega
    · exact ih _ (by omega) h
theorem cl1_ub {t : Nat → Nat → Int} {n : Nat} {c : Int} (hn : n ≤ 40) : ∀ (j k : Nat), k + j ≤ 100 → cl1 t n j k = some c → c ≤ 2000000 := by
  intro j
  induction j with
  | zero => intro b _ h; exact absurd h (by unfold cl1; exact fun h => nomatch h)
  | succ j ih =>
    intro b hb h
    rw [cl1] at h
    split at h
    · rename_i c' hc
      have := Option.some.inj h
      have := cl2_ub hn (by omega) _ _ (by omega) hc
      omega
    · exact ih _ (by omega) h
section MEV
variable {sc : en_S} {n : Nat} {S : ST5}
theorem mc_isEven (hS : OK5 S) {r a m : Int} (hr : i32 r) (ha : i32 a) (hm : i32 m) : MC S S (p_isEven S r a m) (fun z => f_X12_isEven sc (n + 40) 26 (iO r) (iO a) (iO m) z) := by
  apply mc_ask
  intro XI XA XP XC MI MA ML D hV
  have h10 := hS.2.1
  show f_X12_isEven sc (n + 40) 26 (iO r) (iO a) (iO m) _ = _
  rw [e_X12_isEven]
  unfold p_isEven
  cases hq : rowq S r with
  | none =>
    have := rowq_none hq
    rw [hp_cc_26, if_pos rfl, e_X12_isStretch, hp_cc_26, if_pos rfl, e_misRow hV hS hr, if_neg (by omega)]
    rfl
  | some q =>
    obtain ⟨k, rfl, hk, hq2⟩ := rowq_some hq
    obtain ⟨c1, c2, c3, c4⟩ := hV.2.2.2.2.2.1 k q hq2
    have hR := hS.2.2.2.1 q (List.mem_of_getElem? hq2)
    have hsz : q.2.2.1 ≤ 10001 := hR.2.2.2.2.1
    have hva := hR.2.2.2.2.2.1
    rw [hp_cc_26, if_pos rfl, m_isStretch (n := n + 36) hV hS hq2 ha hm]
    show _ = some (some (Value.int (iO (if 1 ≤ m ∧ m ≤ 40 ∧ 0 ≤ a ∧ a + m ≤ (q.2.2.1 : Nat) then (match cl1 (fun x k => ssum q.2.2.2 (a.toNat + x) k) m.toNat m.toNat 1 with | none => 1 | some _ => 0) else -1))), _)
    by_cases g : 1 ≤ m ∧ m ≤ 40 ∧ 0 ≤ a ∧ a + m ≤ (q.2.2.1 : Nat)
    · rw [if_pos g, if_pos g]
      obtain ⟨g1, g2, g3, g4⟩ := g
      obtain ⟨y, rfl⟩ : ∃ y : Nat, m = y := ⟨m.toNat, by omega⟩
      obtain ⟨x, rfl⟩ : ∃ x : Nat, a = x := ⟨a.toNat, by omega⟩
      have hc := m_clashOf (sc := sc) (d := n + 37) (XI := XI) (XA := XA) (XP := XP) (XC := XC) (MI := MI) (MA := MA) (ML := ML) (D := D) (r := k) (fr := x) (n := y) (f := q.2.2.2) (by omega) (by omega) (by omega) (fun i hi => c4 i (by omega)) (by
        intro a' k' h'
        obtain ⟨b1, b2⟩ := ssum_b (f := q.2.2.2) (a := x + a') k' (fun i hi => hva i (by omega))
        omega)
      rw [Int.toNat_natCast, Int.toNat_natCast]
      cases hcl : cl1 (fun a k => ssum q.2.2.2 (x + a) k) y y 1 with
      | none =>
        rw [hcl] at hc
        have hc : _ = some (some (Value.int (iO (-1))), hp XI XA XP XC MI MA ML D) := hc
        clear hV c4 hva
        simp (disch := (first | assumption | (unfold i32; omega) | (unfold i64; omega) | omega)) only [ki_0, ki_1, ki_2, ki_3, ki_4, ki_5, ki_6, ki_7, ki_8, ki_9, ki_10, ki_11, ki_12, ki_13, ki_14, ki_15, ki_20, ki_21, ki_30, ki_31, ki_40, ki_41, ki_50, ki_51, ki_60, ki_63, ki_64, ki_65, ki_100, ki_158, ki_160, ki_200, ki_212, ki_1000, ki_2000, ki_2001, ki_5000, ki_10000, ki_10001, ki_100000, ki_200000, ki_1000000, ki_2000000, ki_3000000, iO_neg, iO_add, iO_sub, iO_mul, kn_4, kn_8, kn_10, kn_20, kn_24, kn_40, kn_41, kn_50, kn_60, kn_158, kn_160, kn_200, kn_212, kn_2001, tn_lt, fn_lt, tn_le, fn_le, tn_eq, fn_eq, x_lt, x_le, x_eq, x_ix, x_nat, t_lt, f_lt, t_le, f_le, t_eq, f_eq, eq_self, and_self, true_and, and_true, false_and, and_false, if_true, if_false, Int.toNat_natCast, bI_s, bL_s, bA_s, bA_n, bV_s, mq_s, mq_n, en_le, bl_0, bl_1, u_eq, u_ne, w_eq, w_ne, v_eq, v_ne, hp_cc_26, hp_g_26_0, hp_p_26_0, hp_g_26_1, hp_p_26_1, hp_g_26_2, hp_p_26_2, hp_g_26_3, hp_g_26_4, hp_g_26_5, hp_g_26_6, hp_g_26_7, hp_g_26_8, hp_g_26_9, hp_g_26_10, hp_g_26_11, hp_g_26_12, hp_g_26_13, hp_g_26_14, hp_g_26_15, hp_p_26_15, hp_g_26_16, hp_g_26_17, hp_g_26_18, hp_p_26_18, hp_g_26_19, hp_p_26_19, hp_g_26_20, hp_g_26_21, hp_p_26_21, hp_g_26_22, hp_g_26_23, hp_g_26_24, hp_g_26_25, hp_g_26_26, hp_g_26_27, hp_g_26_28, hp_g_26_29, hp_g_26_30, hp_p_26_30, hp_g_26_31, hp_g_26_32, hp_p_26_32, hp_a_27, hp_s_27, hp_l_27, hp_a_28, hp_s_28, hp_l_28, hp_a_29, hp_s_29, hp_l_29, hp_a_30, hp_s_30, hp_l_30, hp_a_31, hp_s_31, hp_l_31, hp_a_32, hp_s_32, hp_l_32, hp_a_33, hp_s_33, hp_l_33, hp_a_34, hp_s_34, hp_l_34, hp_a_35, hp_s_35, hp_l_35, hp_a_36, hp_s_36, hp_l_36, hp_a_37, hp_s_37, hp_l_37, hp_a_38, hp_s_38, hp_l_38, hp_a_39, hp_s_39, hp_a_40, hp_s_40, hp_a_41, hp_s_41, hp_l_41, hp_a_42, hp_s_42, hp_l_42, hp_a_43, hp_s_43, hp_l_43, hp_a_44, hp_s_44, hp_l_44, hp_a_45, hp_s_45, hp_l_45, hp_a_46, hp_s_46, hp_l_46, hp_a_47, hp_s_47, hp_l_47, hp_a_48, hp_s_48, hp_l_48, hp_a_49, hp_s_49, hp_l_49, hp_a_50, hp_s_50, hp_l_50, hc]
      | some c =>
        have q1 := cl1_pos _ _ hcl
        have q2 := cl1_ub (by omega) _ _ (by omega) hcl
        rw [hcl] at hc
        have hc : _ = some (some (Value.int (iO c)), hp XI XA XP XC MI MA ML D) := hc
        clear hV c4 hva
        simp (disch := (first | assumption | (unfold i32; omega) | (unfold i64; omega) | omega)) only [ki_0, ki_1, ki_2, ki_3, ki_4, ki_5, ki_6, ki_7, ki_8, ki_9, ki_10, ki_11, ki_12, ki_13, ki_14, ki_15, ki_20, ki_21, ki_30, ki_31, ki_40, ki_41, ki_50, ki_51, ki_60, ki_63, ki_64, ki_65, ki_100, ki_158, ki_160, ki_200, ki_212, ki_1000, ki_2000, ki_2001, ki_5000, ki_10000, ki_10001, ki_100000, ki_200000, ki_1000000, ki_2000000, ki_3000000, iO_neg, iO_add, iO_sub, iO_mul, kn_4, kn_8, kn_10, kn_20, kn_24, kn_40, kn_41, kn_50, kn_60, kn_158, kn_160, kn_200, kn_212, kn_2001, tn_lt, fn_lt, tn_le, fn_le, tn_eq, fn_eq, x_lt, x_le, x_eq, x_ix, x_nat, t_lt, f_lt, t_le, f_le, t_eq, f_eq, eq_self, and_self, true_and, and_true, false_and, and_false, if_true, if_false, Int.toNat_natCast, bI_s, bL_s, bA_s, bA_n, bV_s, mq_s, mq_n, en_le, bl_0, bl_1, u_eq, u_ne, w_eq, w_ne, v_eq, v_ne, hp_cc_26, hp_g_26_0, hp_p_26_0, hp_g_26_1, hp_p_26_1, hp_g_26_2, hp_p_26_2, hp_g_26_3, hp_g_26_4, hp_g_26_5, hp_g_26_6, hp_g_26_7, hp_g_26_8, hp_g_26_9, hp_g_26_10, hp_g_26_11, hp_g_26_12, hp_g_26_13, hp_g_26_14, hp_g_26_15, hp_p_26_15, hp_g_26_16, hp_g_26_17, hp_g_26_18, hp_p_26_18, hp_g_26_19, hp_p_26_19, hp_g_26_20, hp_g_26_21, hp_p_26_21, hp_g_26_22, hp_g_26_23, hp_g_26_24, hp_g_26_25, hp_g_26_26, hp_g_26_27, hp_g_26_28, hp_g_26_29, hp_g_26_30, hp_p_26_30, hp_g_26_31, hp_g_26_32, hp_p_26_32, hp_a_27, hp_s_27, hp_l_27, hp_a_28, hp_s_28, hp_l_28, hp_a_29, hp_s_29, hp_l_29, hp_a_30, hp_s_30, hp_l_30, hp_a_31, hp_s_31, hp_l_31, hp_a_32, hp_s_32, hp_l_32, hp_a_33, hp_s_33, hp_l_33, hp_a_34, hp_s_34, hp_l_34, hp_a_35, hp_s_35, hp_l_35, hp_a_36, hp_s_36, hp_l_36, hp_a_37, hp_s_37, hp_l_37, hp_a_38, hp_s_38, hp_l_38, hp_a_39, hp_s_39, hp_a_40, hp_s_40, hp_a_41, hp_s_41, hp_l_41, hp_a_42, hp_s_42, hp_l_42, hp_a_43, hp_s_43, hp_l_43, hp_a_44, hp_s_44, hp_l_44, hp_a_45, hp_s_45, hp_l_45, hp_a_46, hp_s_46, hp_l_46, hp_a_47, hp_s_47, hp_l_47, hp_a_48, hp_s_48, hp_l_48, hp_a_49, hp_s_49, hp_l_49, hp_a_50, hp_s_50, hp_l_50, hc]
    · rw [if_neg g, if_neg g]
      rfl
end MEV
