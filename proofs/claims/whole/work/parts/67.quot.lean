/-! quotient, line, digit: the class -/
noncomputable def p_quotient (S : ST5) (s i : Int) : Int := match slq S s with
  | some q => if 0 ≤ i ∧ i < ((qls q).length : Nat) then (qls q).getD i.toNat 0 else -1
  | none => -1
noncomputable def p_line (S : ST5) (s i : Int) : Int := match slq S s with
  | some q => if 0 ≤ i ∧ i < ((ll (qls q)).length : Nat) then (ll (qls q)).getD i.toNat 0 else -1
  | none => -1
theorem lls_bd : ∀ (Q : List Int) (b l : Int), (∀ x ∈ Q, 1 ≤ x) → 0 ≤ b → 1 ≤ l → ∀ y ∈ lls Q b l, 1 < y ∧ y ≤ 10000
  | [], _, _, _, _, _, y, h => by simp [lls] at h
  | q :: Q, b, l, hQ, hb, hl, y, h => by
    have hq := hQ q (by simp)
    have hQ' : ∀ x ∈ Q, 1 ≤ x := fun x hx => hQ x (List.mem_cons_of_mem _ hx)
    have m := mul_le_mul' (a := 1) (b := q) (c := 1) (d := l) (by omega) hq (by omega) hl
    rw [lls] at h
    split at h
    · simp at h
    · split at h
      · exact lls_bd Q l (q * l + b) hQ' (by omega) (by omega) y h
      · rcases List.mem_cons.mp h with e | e
        · subst e; omega
        · exact lls_bd Q l (q * l + b) hQ' (by omega) (by omega) y e
theorem lls_len : ∀ (Q : List Int) (b l : Int), (lls Q b l).length ≤ Q.length
  | [], _, _ => by simp [lls]
  | q :: Q, b, l => by
    rw [lls]
    split
    · simp
    · split
      · have := lls_len Q l (q * l + b)
        rw [List.length_cons]; omega
      · have := lls_len Q l (q * l + b)
        rw [List.length_cons, List.length_cons]; omega
theorem ll_bd {s : SL4} (hS : SL s.1 s.2.1 s.2.2.1 s.2.2.2) : (∀ y ∈ ll (qls s), 1 ≤ y ∧ y ≤ 10000) ∧ 1 ≤ (ll (qls s)).length ∧ (ll (qls s)).length ≤ 20 := by
  obtain ⟨h1, h2, h3⟩ := qls_QB hS
  have ht : ∀ x ∈ (qls s).tail, 1 ≤ x := by
    intro x hx
    obtain ⟨i, hi⟩ := List.mem_iff_getElem?.mp hx
    rw [List.getElem?_tail] at hi
    exact (h1 (i + 1) x hi).2.2 (by omega)
  unfold ll
  refine ⟨?_, by simp, ?_⟩
  · intro y hy
    rcases List.mem_cons.mp hy with e | e
    · subst e; omega
    · have := lls_bd (qls s).tail 0 1 ht (by omega) (by omega) y e
      omega
  · have := lls_len (qls s).tail 0 1
    rw [List.length_cons]
    rw [List.length_tail] at this
    omega
section QCL
variable {sc : en_S} {n : Nat} {S : ST5}
theorem getD_get {l : List Int} {k : Nat} (h : k < l.length) : l[k]? = some (l.getD k 0) := by
  rw [List.getD_eq_getElem?_getD, List.getElem?_eq_getElem h]; rfl
theorem cs_quotient (hS : OK5 S) {s i : Int} (hs : i32 s) (hi : i32 i) : CS S S (p_quotient S s i) (fun z => f_X11_quotient sc (n + 40) 1 (iO s) (iO i) z) := by
  apply cs_ask
  intro XI XA XP XC MI MA ML D Γ hV
  obtain ⟨i1, i2⟩ := id hi
  show f_X11_quotient sc (n + 40) 1 (iO s) (iO i) _ = _
  rw [e_X11_quotient]
  unfold p_quotient
  cases hq : slq S s with
  | none => simp (disch := (first | assumption | (unfold i32; omega) | (unfold i64; omega) | omega)) only [ki_0, ki_1, ki_2, ki_3, ki_4, ki_5, ki_6, ki_7, ki_8, ki_9, ki_10, ki_11, ki_12, ki_13, ki_14, ki_15, ki_20, ki_21, ki_30, ki_31, ki_40, ki_41, ki_50, ki_51, ki_60, ki_63, ki_64, ki_65, ki_100, ki_158, ki_160, ki_200, ki_212, ki_1000, ki_2000, ki_2001, ki_5000, ki_10000, ki_10001, ki_100000, ki_200000, ki_1000000, ki_2000000, ki_3000000, iO_neg, iO_add, iO_sub, iO_mul, kn_4, kn_8, kn_10, kn_20, kn_24, kn_40, kn_41, kn_50, kn_60, kn_158, kn_160, kn_200, kn_212, kn_2001, tn_lt, fn_lt, tn_le, fn_le, tn_eq, fn_eq, x_lt, x_le, x_eq, x_ix, x_nat, t_lt, f_lt, t_le, f_le, t_eq, f_eq, eq_self, and_self, true_and, and_true, false_and, and_false, if_true, if_false, Int.toNat_natCast, bI_s, bL_s, bA_s, bA_n, bV_s, mq_s, mq_n, en_le, bl_0, bl_1, u_eq, u_ne, w_eq, w_ne, v_eq, v_ne, hp_cc_1, hp_g_1_0, hp_g_1_1, hp_g_1_2, hp_g_1_3, hp_g_1_4, hp_g_1_5, hp_g_1_6, hp_g_1_7, hp_g_1_8, hp_p_1_8, hp_g_1_9, hp_p_1_9, hp_g_1_10, hp_p_1_10, hp_a_2, hp_n_2, hp_a_3, hp_n_3, hp_a_4, x_slopeAt0 hV hS hs hq]
  | some l =>
    obtain ⟨k, rfl, hk, hq2⟩ := slq_some hq
    obtain ⟨pp, c1, c2⟩ := hV.2.2.2.2.1 k l hq2
    have hSL := hS.2.2.1 l (List.mem_of_getElem? hq2)
    obtain ⟨-, L1, L2⟩ := qls_QB hSL
    have hsl := x_slopeAt1 (sc := sc) (n := n + 38) (XC := XC) (MI := MI) (MA := MA) (ML := ML) hV hS hq2 c1
    obtain ⟨a, b, c, d, t, qs, ls, k1, k2, k3, -, -, -, -, -, kq, kl⟩ := c2
    have g1 : ∀ (f : Int32 → Option en_R), en_gI (hp XI XA XP XC MI MA ML D) (pp + 51) [(6, 0)] 1 f = f (iO ((qls l).length : Nat)) := fun f => d_gI k1 rfl rfl f
    have g0 : ∀ (f0 : Option en_R) (f : Nat → Option en_R), en_gA (hp XI XA XP XC MI MA ML D) (pp + 51) [(6, 0)] 0 f0 f = f (pp + 52) := fun f0 f => d_gA k1 rfl rfl f0 f
    have ga : ∀ (i : Int32) (f : Int32 → Option en_R), en_aI sc (hp XI XA XP XC MI MA ML D) (pp + 52) i f = if en_ix i 20 then f (qs i.toNatClampNeg) else none := fun i f => d_aI (p := pp + 1) k2 i f
    show _ = some (some (Value.int (iO (if 0 ≤ i ∧ i < ((qls l).length : Nat) then (qls l).getD i.toNat 0 else -1))), _)
    clear hV k1 k2 k3 kl hSL
    by_cases g : 0 ≤ i ∧ i < ((qls l).length : Nat)
    · rw [if_pos g]
      obtain ⟨y, rfl⟩ : ∃ y : Nat, i = y := ⟨i.toNat, by omega⟩
      have hy := kq y _ (getD_get (show y < (qls l).length by omega))
      rw [Int.toNat_natCast]
      obtain ⟨g2, g3⟩ := g
      clear kq
      simp (disch := (first | assumption | (unfold i32; omega) | (unfold i64; omega) | omega)) only [ki_0, ki_1, ki_2, ki_3, ki_4, ki_5, ki_6, ki_7, ki_8, ki_9, ki_10, ki_11, ki_12, ki_13, ki_14, ki_15, ki_20, ki_21, ki_30, ki_31, ki_40, ki_41, ki_50, ki_51, ki_60, ki_63, ki_64, ki_65, ki_100, ki_158, ki_160, ki_200, ki_212, ki_1000, ki_2000, ki_2001, ki_5000, ki_10000, ki_10001, ki_100000, ki_200000, ki_1000000, ki_2000000, ki_3000000, iO_neg, iO_add, iO_sub, iO_mul, kn_4, kn_8, kn_10, kn_20, kn_24, kn_40, kn_41, kn_50, kn_60, kn_158, kn_160, kn_200, kn_212, kn_2001, tn_lt, fn_lt, tn_le, fn_le, tn_eq, fn_eq, x_lt, x_le, x_eq, x_ix, x_nat, t_lt, f_lt, t_le, f_le, t_eq, f_eq, eq_self, and_self, true_and, and_true, false_and, and_false, if_true, if_false, Int.toNat_natCast, bI_s, bL_s, bA_s, bA_n, bV_s, mq_s, mq_n, en_le, bl_0, bl_1, u_eq, u_ne, w_eq, w_ne, v_eq, v_ne, hp_cc_1, hp_g_1_0, hp_g_1_1, hp_g_1_2, hp_g_1_3, hp_g_1_4, hp_g_1_5, hp_g_1_6, hp_g_1_7, hp_g_1_8, hp_p_1_8, hp_g_1_9, hp_p_1_9, hp_g_1_10, hp_p_1_10, hp_a_2, hp_n_2, hp_a_3, hp_n_3, hp_a_4, hsl, g1, g0, ga, hy]
    · rw [if_neg g]
      clear kq
      rcases Int.lt_or_le i 0 with q | q
      · clear g; simp (disch := (first | assumption | (unfold i32; omega) | (unfold i64; omega) | omega)) only [ki_0, ki_1, ki_2, ki_3, ki_4, ki_5, ki_6, ki_7, ki_8, ki_9, ki_10, ki_11, ki_12, ki_13, ki_14, ki_15, ki_20, ki_21, ki_30, ki_31, ki_40, ki_41, ki_50, ki_51, ki_60, ki_63, ki_64, ki_65, ki_100, ki_158, ki_160, ki_200, ki_212, ki_1000, ki_2000, ki_2001, ki_5000, ki_10000, ki_10001, ki_100000, ki_200000, ki_1000000, ki_2000000, ki_3000000, iO_neg, iO_add, iO_sub, iO_mul, kn_4, kn_8, kn_10, kn_20, kn_24, kn_40, kn_41, kn_50, kn_60, kn_158, kn_160, kn_200, kn_212, kn_2001, tn_lt, fn_lt, tn_le, fn_le, tn_eq, fn_eq, x_lt, x_le, x_eq, x_ix, x_nat, t_lt, f_lt, t_le, f_le, t_eq, f_eq, eq_self, and_self, true_and, and_true, false_and, and_false, if_true, if_false, Int.toNat_natCast, bI_s, bL_s, bA_s, bA_n, bV_s, mq_s, mq_n, en_le, bl_0, bl_1, u_eq, u_ne, w_eq, w_ne, v_eq, v_ne, hp_cc_1, hp_g_1_0, hp_g_1_1, hp_g_1_2, hp_g_1_3, hp_g_1_4, hp_g_1_5, hp_g_1_6, hp_g_1_7, hp_g_1_8, hp_p_1_8, hp_g_1_9, hp_p_1_9, hp_g_1_10, hp_p_1_10, hp_a_2, hp_n_2, hp_a_3, hp_n_3, hp_a_4, hsl]
      · have q2 : ((qls l).length : Int) ≤ i := by omega
        clear g; simp (disch := (first | assumption | (unfold i32; omega) | (unfold i64; omega) | omega)) only [ki_0, ki_1, ki_2, ki_3, ki_4, ki_5, ki_6, ki_7, ki_8, ki_9, ki_10, ki_11, ki_12, ki_13, ki_14, ki_15, ki_20, ki_21, ki_30, ki_31, ki_40, ki_41, ki_50, ki_51, ki_60, ki_63, ki_64, ki_65, ki_100, ki_158, ki_160, ki_200, ki_212, ki_1000, ki_2000, ki_2001, ki_5000, ki_10000, ki_10001, ki_100000, ki_200000, ki_1000000, ki_2000000, ki_3000000, iO_neg, iO_add, iO_sub, iO_mul, kn_4, kn_8, kn_10, kn_20, kn_24, kn_40, kn_41, kn_50, kn_60, kn_158, kn_160, kn_200, kn_212, kn_2001, tn_lt, fn_lt, tn_le, fn_le, tn_eq, fn_eq, x_lt, x_le, x_eq, x_ix, x_nat, t_lt, f_lt, t_le, f_le, t_eq, f_eq, eq_self, and_self, true_and, and_true, false_and, and_false, if_true, if_false, Int.toNat_natCast, bI_s, bL_s, bA_s, bA_n, bV_s, mq_s, mq_n, en_le, bl_0, bl_1, u_eq, u_ne, w_eq, w_ne, v_eq, v_ne, hp_cc_1, hp_g_1_0, hp_g_1_1, hp_g_1_2, hp_g_1_3, hp_g_1_4, hp_g_1_5, hp_g_1_6, hp_g_1_7, hp_g_1_8, hp_p_1_8, hp_g_1_9, hp_p_1_9, hp_g_1_10, hp_p_1_10, hp_a_2, hp_n_2, hp_a_3, hp_n_3, hp_a_4, hsl, g1]
theorem x_lineAt {XI : Nat → Int32} {XA : Nat → Nat → Int32} {XP : Nat → Nat → Option Nat} {XC : Value} {MI : Nat → Int32} {MA : Nat → Nat → Int32} {ML : Nat → Nat → Int64} {D : en_H} {pp : Nat} {l : SL4} (c2 : SlO D pp l) (hSL : SL l.1 l.2.1 l.2.2.1 l.2.2.2) {i : Int} (hi : i32 i) : f_X11_lineAt sc (n + 1) (pp + 51) (iO i) (hp XI XA XP XC MI MA ML D) = some (some (.int (iO (if 0 ≤ i ∧ i < ((ll (qls l)).length : Nat) then (ll (qls l)).getD i.toNat 0 else -1))), hp XI XA XP XC MI MA ML D) := by
  obtain ⟨i1, i2⟩ := id hi
  obtain ⟨-, L1, L2⟩ := ll_bd hSL
  obtain ⟨a, b, c, d, t, qs, ls, k1, k2, k3, -, -, -, -, -, kq, kl⟩ := c2
  have g1 : ∀ (f : Int32 → Option en_R), en_gI (hp XI XA XP XC MI MA ML D) (pp + 51) [(6, 0)] 3 f = f (iO ((ll (qls l)).length : Nat)) := fun f => d_gI k1 rfl rfl f
  have g0 : ∀ (f0 : Option en_R) (f : Nat → Option en_R), en_gA (hp XI XA XP XC MI MA ML D) (pp + 51) [(6, 0)] 2 f0 f = f (pp + 53) := fun f0 f => d_gA k1 rfl rfl f0 f
  have ga : ∀ (i : Int32) (f : Int32 → Option en_R), en_aI sc (hp XI XA XP XC MI MA ML D) (pp + 53) i f = if en_ix i 20 then f (ls i.toNatClampNeg) else none := fun i f => d_aI (p := pp + 2) k3 i f
  clear k1 k2 k3 kq hSL
  rw [e_X11_lineAt]
  by_cases g : 0 ≤ i ∧ i < ((ll (qls l)).length : Nat)
  · rw [if_pos g]
    obtain ⟨y, rfl⟩ : ∃ y : Nat, i = y := ⟨i.toNat, by omega⟩
    have hy := kl y _ (getD_get (show y < (ll (qls l)).length by omega))
    rw [Int.toNat_natCast]
    obtain ⟨g2, g3⟩ := g
    clear kl
    simp (disch := (first | assumption | (unfold i32; omega) | (unfold i64; omega) | omega)) only [ki_0, ki_1, ki_2, ki_3, ki_4, ki_5, ki_6, ki_7, ki_8, ki_9, ki_10, ki_11, ki_12, ki_13, ki_14, ki_15, ki_20, ki_21, ki_30, ki_31, ki_40, ki_41, ki_50, ki_51, ki_60, ki_63, ki_64, ki_65, ki_100, ki_158, ki_160, ki_200, ki_212, ki_1000, ki_2000, ki_2001, ki_5000, ki_10000, ki_10001, ki_100000, ki_200000, ki_1000000, ki_2000000, ki_3000000, iO_neg, iO_add, iO_sub, iO_mul, kn_4, kn_8, kn_10, kn_20, kn_24, kn_40, kn_41, kn_50, kn_60, kn_158, kn_160, kn_200, kn_212, kn_2001, tn_lt, fn_lt, tn_le, fn_le, tn_eq, fn_eq, x_lt, x_le, x_eq, x_ix, x_nat, t_lt, f_lt, t_le, f_le, t_eq, f_eq, eq_self, and_self, true_and, and_true, false_and, and_false, if_true, if_false, Int.toNat_natCast, bI_s, bL_s, bA_s, bA_n, bV_s, mq_s, mq_n, en_le, bl_0, bl_1, u_eq, u_ne, w_eq, w_ne, v_eq, v_ne, g1, g0, ga, hy]
  · rw [if_neg g]
    clear kl
    rcases Int.lt_or_le i 0 with q | q
    · clear g; simp (disch := (first | assumption | (unfold i32; omega) | (unfold i64; omega) | omega)) only [ki_0, ki_1, ki_2, ki_3, ki_4, ki_5, ki_6, ki_7, ki_8, ki_9, ki_10, ki_11, ki_12, ki_13, ki_14, ki_15, ki_20, ki_21, ki_30, ki_31, ki_40, ki_41, ki_50, ki_51, ki_60, ki_63, ki_64, ki_65, ki_100, ki_158, ki_160, ki_200, ki_212, ki_1000, ki_2000, ki_2001, ki_5000, ki_10000, ki_10001, ki_100000, ki_200000, ki_1000000, ki_2000000, ki_3000000, iO_neg, iO_add, iO_sub, iO_mul, kn_4, kn_8, kn_10, kn_20, kn_24, kn_40, kn_41, kn_50, kn_60, kn_158, kn_160, kn_200, kn_212, kn_2001, tn_lt, fn_lt, tn_le, fn_le, tn_eq, fn_eq, x_lt, x_le, x_eq, x_ix, x_nat, t_lt, f_lt, t_le, f_le, t_eq, f_eq, eq_self, and_self, true_and, and_true, false_and, and_false, if_true, if_false, Int.toNat_natCast, bI_s, bL_s, bA_s, bA_n, bV_s, mq_s, mq_n, en_le, bl_0, bl_1, u_eq, u_ne, w_eq, w_ne, v_eq, v_ne]
    · have q2 : ((ll (qls l)).length : Int) ≤ i := by omega
      clear g; simp (disch := (first | assumption | (unfold i32; omega) | (unfold i64; omega) | omega)) only [ki_0, ki_1, ki_2, ki_3, ki_4, ki_5, ki_6, ki_7, ki_8, ki_9, ki_10, ki_11, ki_12, ki_13, ki_14, ki_15, ki_20, ki_21, ki_30, ki_31, ki_40, ki_41, ki_50, ki_51, ki_60, ki_63, ki_64, ki_65, ki_100, ki_158, ki_160, ki_200, ki_212, ki_1000, ki_2000, ki_2001, ki_5000, ki_10000, ki_10001, ki_100000, ki_200000, ki_1000000, ki_2000000, ki_3000000, iO_neg, iO_add, iO_sub, iO_mul, kn_4, kn_8, kn_10, kn_20, kn_24, kn_40, kn_41, kn_50, kn_60, kn_158, kn_160, kn_200, kn_212, kn_2001, tn_lt, fn_lt, tn_le, fn_le, tn_eq, fn_eq, x_lt, x_le, x_eq, x_ix, x_nat, t_lt, f_lt, t_le, f_le, t_eq, f_eq, eq_self, and_self, true_and, and_true, false_and, and_false, if_true, if_false, Int.toNat_natCast, bI_s, bL_s, bA_s, bA_n, bV_s, mq_s, mq_n, en_le, bl_0, bl_1, u_eq, u_ne, w_eq, w_ne, v_eq, v_ne, g1]
theorem cs_line (hS : OK5 S) {s i : Int} (hs : i32 s) (hi : i32 i) : CS S S (p_line S s i) (fun z => f_X11_line sc (n + 40) 1 (iO s) (iO i) z) := by
  apply cs_ask
  intro XI XA XP XC MI MA ML D Γ hV
  show f_X11_line sc (n + 40) 1 (iO s) (iO i) _ = _
  rw [e_X11_line]
  unfold p_line
  cases hq : slq S s with
  | none => simp (disch := (first | assumption | (unfold i32; omega) | (unfold i64; omega) | omega)) only [ki_0, ki_1, ki_2, ki_3, ki_4, ki_5, ki_6, ki_7, ki_8, ki_9, ki_10, ki_11, ki_12, ki_13, ki_14, ki_15, ki_20, ki_21, ki_30, ki_31, ki_40, ki_41, ki_50, ki_51, ki_60, ki_63, ki_64, ki_65, ki_100, ki_158, ki_160, ki_200, ki_212, ki_1000, ki_2000, ki_2001, ki_5000, ki_10000, ki_10001, ki_100000, ki_200000, ki_1000000, ki_2000000, ki_3000000, iO_neg, iO_add, iO_sub, iO_mul, kn_4, kn_8, kn_10, kn_20, kn_24, kn_40, kn_41, kn_50, kn_60, kn_158, kn_160, kn_200, kn_212, kn_2001, tn_lt, fn_lt, tn_le, fn_le, tn_eq, fn_eq, x_lt, x_le, x_eq, x_ix, x_nat, t_lt, f_lt, t_le, f_le, t_eq, f_eq, eq_self, and_self, true_and, and_true, false_and, and_false, if_true, if_false, Int.toNat_natCast, bI_s, bL_s, bA_s, bA_n, bV_s, mq_s, mq_n, en_le, bl_0, bl_1, u_eq, u_ne, w_eq, w_ne, v_eq, v_ne, hp_cc_1, hp_g_1_0, hp_g_1_1, hp_g_1_2, hp_g_1_3, hp_g_1_4, hp_g_1_5, hp_g_1_6, hp_g_1_7, hp_g_1_8, hp_p_1_8, hp_g_1_9, hp_p_1_9, hp_g_1_10, hp_p_1_10, hp_a_2, hp_n_2, hp_a_3, hp_n_3, hp_a_4, x_slopeAt0 hV hS hs hq, e_X11_lineAt_N0]
  | some l =>
    obtain ⟨k, rfl, hk, hq2⟩ := slq_some hq
    obtain ⟨pp, c1, c2⟩ := hV.2.2.2.2.1 k l hq2
    have hSL := hS.2.2.1 l (List.mem_of_getElem? hq2)
    have hsl := x_slopeAt1 (sc := sc) (n := n + 38) (XC := XC) (MI := MI) (MA := MA) (ML := ML) hV hS hq2 c1
    have hln := x_lineAt (sc := sc) (n := n + 38) (XI := XI) (XA := XA) (XP := XP) (XC := XC) (MI := MI) (MA := MA) (ML := ML) c2 hSL hi
    clear hV c2 hSL
    simp (disch := (first | assumption | (unfold i32; omega) | (unfold i64; omega) | omega)) only [ki_0, ki_1, ki_2, ki_3, ki_4, ki_5, ki_6, ki_7, ki_8, ki_9, ki_10, ki_11, ki_12, ki_13, ki_14, ki_15, ki_20, ki_21, ki_30, ki_31, ki_40, ki_41, ki_50, ki_51, ki_60, ki_63, ki_64, ki_65, ki_100, ki_158, ki_160, ki_200, ki_212, ki_1000, ki_2000, ki_2001, ki_5000, ki_10000, ki_10001, ki_100000, ki_200000, ki_1000000, ki_2000000, ki_3000000, iO_neg, iO_add, iO_sub, iO_mul, kn_4, kn_8, kn_10, kn_20, kn_24, kn_40, kn_41, kn_50, kn_60, kn_158, kn_160, kn_200, kn_212, kn_2001, tn_lt, fn_lt, tn_le, fn_le, tn_eq, fn_eq, x_lt, x_le, x_eq, x_ix, x_nat, t_lt, f_lt, t_le, f_le, t_eq, f_eq, eq_self, and_self, true_and, and_true, false_and, and_false, if_true, if_false, Int.toNat_natCast, bI_s, bL_s, bA_s, bA_n, bV_s, mq_s, mq_n, en_le, bl_0, bl_1, u_eq, u_ne, w_eq, w_ne, v_eq, v_ne, hp_cc_1, hp_g_1_0, hp_g_1_1, hp_g_1_2, hp_g_1_3, hp_g_1_4, hp_g_1_5, hp_g_1_6, hp_g_1_7, hp_g_1_8, hp_p_1_8, hp_g_1_9, hp_p_1_9, hp_g_1_10, hp_p_1_10, hp_a_2, hp_n_2, hp_a_3, hp_n_3, hp_a_4, hsl, hln]
/-- nearer, by the lines -/
noncomputable def p_nearer (S : ST5) (s i : Int) : Int := if p_line S s i ≤ 2000 then p_line S s i else -1
theorem p_line_bd (hS : OK5 S) (s i : Int) : -1 ≤ p_line S s i ∧ p_line S s i ≤ 10000 := by
  unfold p_line
  cases hq : slq S s with
  | none => exact ⟨(by show (-1 : Int) ≤ -1; decide), (by show (-1 : Int) ≤ 10000; decide)⟩
  | some l =>
    obtain ⟨k, rfl, hk, hq2⟩ := slq_some hq
    have hSL := hS.2.2.1 l (List.mem_of_getElem? hq2)
    obtain ⟨L0, L1, L2⟩ := ll_bd hSL
    show -1 ≤ (if 0 ≤ i ∧ i < ((ll (qls l)).length : Nat) then (ll (qls l)).getD i.toNat 0 else -1) ∧ _
    by_cases g : 0 ≤ i ∧ i < ((ll (qls l)).length : Nat)
    · rw [if_pos g]
      have := L0 _ (List.mem_of_getElem? (getD_get (l := ll (qls l)) (k := i.toNat) (by omega)))
      show -1 ≤ (ll (qls l)).getD i.toNat 0 ∧ (if 0 ≤ i ∧ i < ((ll (qls l)).length : Nat) then (ll (qls l)).getD i.toNat 0 else -1) ≤ 10000
      rw [if_pos g]
      omega
    · rw [if_neg g]
      show (-1 : Int) ≤ -1 ∧ (if 0 ≤ i ∧ i < ((ll (qls l)).length : Nat) then (ll (qls l)).getD i.toNat 0 else -1) ≤ 10000
      rw [if_neg g]
      omega
end QCL
