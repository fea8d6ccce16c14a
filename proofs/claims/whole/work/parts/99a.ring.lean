/-! POINTS on the ring: their order, told purely; both sides find it -/
/-- a point is put among those ahead of it -/
def plc (ah : Nat → Nat → Bool) (i : Nat) : Nat → (Nat → Nat) → (Nat → Nat)
  | 0, o => va_up o 0 i
  | p + 1, o => if ah i (o p) = true then plc ah i p (va_up o (p + 1) (o p)) else va_up o (p + 1) i
def ordr (ah : Nat → Nat → Bool) : Nat → (Nat → Nat)
  | 0 => fun _ => 0
  | i + 1 => plc ah i i (ordr ah i)
/-- all numbers up to i but for the place p -/
def hole (o : Nat → Nat) (i p : Nat) : Prop := (∀ t, t ≤ i → t ≠ p → o t < i) ∧ (∀ t u, t ≤ i → u ≤ i → t ≠ p → u ≠ p → o t = o u → t = u) ∧ (∀ v, v < i → ∃ t, t ≤ i ∧ t ≠ p ∧ o t = v)
/-- all numbers below n, each once -/
def perm (o : Nat → Nat) (n : Nat) : Prop := (∀ t, t < n → o t < n) ∧ (∀ t u, t < n → u < n → o t = o u → t = u) ∧ (∀ v, v < n → ∃ t, t < n ∧ o t = v)
theorem hole_fill {o : Nat → Nat} {i p : Nat} (hp : p ≤ i) (h : hole o i p) : perm (va_up o p i) (i + 1) := by
  obtain ⟨h1, h2, h3⟩ := h
  refine ⟨?_, ?_, ?_⟩
  · intro t ht
    by_cases e : t = p
    · rw [w_eq e]; omega
    · rw [w_ne e]
      have := h1 t (by omega) e
      omega
  · intro t u ht hu hq
    by_cases e : t = p
    · by_cases e2 : u = p
      · omega
      · rw [w_eq e, w_ne e2] at hq
        have := h1 u (by omega) e2
        omega
    · by_cases e2 : u = p
      · rw [w_ne e, w_eq e2] at hq
        have := h1 t (by omega) e
        omega
      · rw [w_ne e, w_ne e2] at hq
        exact h2 t u (by omega) (by omega) e e2 hq
  · intro v hv
    by_cases e : v = i
    · exact ⟨p, by omega, by rw [w_eq rfl]; exact e.symm⟩
    · obtain ⟨t, t1, t2, t3⟩ := h3 v (by omega)
      exact ⟨t, by omega, by rw [w_ne t2]; exact t3⟩
theorem hole_move {o : Nat → Nat} {i p : Nat} (hp : p + 1 ≤ i) (h : hole o i (p + 1)) : hole (va_up o (p + 1) (o p)) i p := by
  obtain ⟨h1, h2, h3⟩ := h
  have key : ∀ t, t ≤ i → t ≠ p → ∃ t', t' ≤ i ∧ t' ≠ p + 1 ∧ va_up o (p + 1) (o p) t = o t' ∧ (t = p + 1 → t' = p) ∧ (t ≠ p + 1 → t' = t) := by
    intro t ht hp'
    by_cases e : t = p + 1
    · exact ⟨p, by omega, by omega, by rw [w_eq e], fun _ => rfl, fun h => absurd e h⟩
    · exact ⟨t, ht, e, by rw [w_ne e], fun h => absurd h e, fun _ => rfl⟩
  refine ⟨?_, ?_, ?_⟩
  · intro t ht hp'
    obtain ⟨t', a1, a2, a3, -⟩ := key t ht hp'
    rw [a3]
    exact h1 t' a1 a2
  · intro t u ht hu e1 e2 hq
    obtain ⟨t', a1, a2, a3, a4, a5⟩ := key t ht e1
    obtain ⟨u', b1, b2, b3, b4, b5⟩ := key u hu e2
    rw [a3, b3] at hq
    have := h2 t' u' a1 b1 a2 b2 hq
    by_cases c1 : t = p + 1
    · by_cases c2 : u = p + 1
      · omega
      · have := a4 c1; have := b5 c2; omega
    · by_cases c2 : u = p + 1
      · have := a5 c1; have := b4 c2; omega
      · have := a5 c1; have := b5 c2; omega
  · intro v hv
    obtain ⟨t, t1, t2, t3⟩ := h3 v hv
    by_cases e : t = p
    · exact ⟨p + 1, by omega, by omega, by rw [w_eq rfl, ← t3, e]⟩
    · exact ⟨t, t1, e, by rw [w_ne t2]; exact t3⟩
theorem plc_perm {ah : Nat → Nat → Bool} {i : Nat} : ∀ (p : Nat) (o : Nat → Nat), p ≤ i → hole o i p → perm (plc ah i p o) (i + 1)
  | 0, o, hp, h => hole_fill hp h
  | p + 1, o, hp, h => by
    rw [plc]
    split
    · exact plc_perm p _ (by omega) (hole_move hp h)
    · exact hole_fill hp h
theorem ordr_perm {ah : Nat → Nat → Bool} : ∀ n, perm (ordr ah n) n
  | 0 => ⟨fun t ht => by omega, fun t u ht => by omega, fun v hv => by omega⟩
  | i + 1 => by
    obtain ⟨h1, h2, h3⟩ := ordr_perm (ah := ah) i
    refine plc_perm i _ (Nat.le_refl _) ⟨fun t ht hp => h1 t (by omega), fun t u ht hu h4 h5 h6 => h2 t u (by omega) (by omega) h6, fun v hv => ?_⟩
    obtain ⟨t, t1, t2⟩ := h3 v hv
    exact ⟨t, by omega, by omega, t2⟩
/-- the sign of x + y times a slope -/
def sgn (l : SL4) (x y : Int) : Int := sg (y * l.1 + x * l.2.2.1) (y * l.2.1) l.2.2.2
/-- point i lies ahead of point j -/
noncomputable def ahd (l : SL4) (i j : Nat) : Bool := decide (sgn l (WN l j - WN l i) ((i : Int) - (j : Int)) < 0)
noncomputable def ords (l : SL4) : Nat → (Nat → Nat) := ordr (ahd l)
theorem WN_bd {l : SL4} (hS : SL l.1 l.2.1 l.2.2.1 l.2.2.2) {N : Nat} (hN : N < 60) : 0 ≤ WN l N ∧ WN l N ≤ 1180 := by
  have h0 := hS.w0 (N := (N : Int)) (by omega)
  have h1 := hS.w20 (N := (N : Int)) (by omega)
  unfold WN
  omega
section RNG
variable {sc : en_S} {d : Nat} {XI : Nat → Int32} {XP : Nat → Nat → Option Nat} {MI : Nat → Int32} {MA : Nat → Nat → Int32} {ML : Nat → Nat → Int64} {D : en_H} {sp : Nat} {l : SL4}
theorem x_ahead {XA : Nat → Nat → Int32} (hs : SlO D sp l) (hS : SL l.1 l.2.1 l.2.2.1 l.2.2.2) {i j : Nat} (hi : i < 60) (hj : j < 60) (ti : XA 7 i = iO (WN l i)) (tj : XA 7 j = iO (WN l j)) : f_X0_isAhead sc (d + 3) 9 (iO (i : Int)) (iO (j : Int)) (hp XI XA XP (.ref (sp + 51)) MI MA ML D) = some (some (.int (iO (if ahd l i j = true then 1 else 0))), hp XI XA XP (.ref (sp + 51)) MI MA ML D) := by
  have b1 := WN_bd hS hi
  have b2 := WN_bd hS hj
  have hw := x_sum (sc := sc) (n := d) (XI := XI) (XA := XA) (XP := XP) (XC := .ref (sp + 51)) (MI := MI) (MA := MA) (ML := ML) hs (x := WN l j - WN l i) (y := (i : Int) - (j : Int)) (by omega) (by omega) (by omega) (by omega)
  have hw : f_X7_signOfSum sc (d + 2) (sp + 51) (lO (WN l j - WN l i)) (lO ((i : Int) - (j : Int))) (hp XI XA XP (.ref (sp + 51)) MI MA ML D) = some (some (.int (iO (sgn l (WN l j - WN l i) ((i : Int) - (j : Int))))), hp XI XA XP (.ref (sp + 51)) MI MA ML D) := hw
  have hr : sgn l (WN l j - WN l i) ((i : Int) - (j : Int)) = -1 ∨ sgn l (WN l j - WN l i) ((i : Int) - (j : Int)) = 0 ∨ sgn l (WN l j - WN l i) ((i : Int) - (j : Int)) = 1 := sg_range _ _ _
  obtain ⟨a, b, c, e, t, qs, ls, k1, -⟩ := hs
  have gc : ∀ (g : Nat → Option en_R), en_cc (hp XI XA XP (.ref (sp + 51)) MI MA ML D) (sp + 51) g = g 6 := fun g => d_cc k1 g
  rw [e_X0_isAhead]
  unfold ahd
  generalize sgn l (WN l j - WN l i) ((i : Int) - (j : Int)) = s at *
  generalize WN l i = P at *
  generalize WN l j = Q at *
  by_cases g : s < 0
  · rw [decide_eq_true g, if_pos rfl]
    have : i32 s := by unfold i32; omega
    clear hr
    simp (disch := (first | assumption | (unfold i32; omega) | (unfold i64; omega) | omega)) only [↓reduceIte, ki_0, ki_1, ki_2, ki_3, ki_4, ki_5, ki_6, ki_7, ki_8, ki_9, ki_10, ki_11, ki_12, ki_13, ki_14, ki_15, ki_20, ki_21, ki_30, ki_31, ki_40, ki_41, ki_50, ki_51, ki_60, ki_63, ki_64, ki_65, ki_100, ki_158, ki_160, ki_200, ki_212, ki_1000, ki_2000, ki_2001, ki_5000, ki_10000, ki_10001, ki_100000, ki_200000, ki_1000000, ki_2000000, ki_3000000, iO_neg, iO_add, iO_sub, iO_mul, kn_4, kn_8, kn_10, kn_20, kn_24, kn_40, kn_41, kn_50, kn_60, kn_158, kn_160, kn_200, kn_212, kn_2001, tn_lt, fn_lt, tn_le, fn_le, tn_eq, fn_eq, x_lt, x_le, x_eq, x_ix, x_nat, t_lt, f_lt, t_le, f_le, t_eq, f_eq, eq_self, and_self, true_and, and_true, false_and, and_false, if_true, if_false, Int.toNat_natCast, bI_s, bL_s, bA_s, bA_n, bV_s, mq_s, mq_n, en_le, bl_0, bl_1, u_eq, u_ne, w_eq, w_ne, v_eq, v_ne, ↓hp_cc_9, ↓hp_g_9_0, ↓hp_g_9_1, ↓hp_g_9_2, ↓hp_g_9_3, ↓hp_g_9_4, ↓hp_p_9_4, ↓hp_g_9_5, ↓hp_g_9_6, ↓hp_p_9_7, ↓hp_g_9_7, ↓hp_a_10, ↓hp_s_10, ↓hp_l_10, ↓hp_a_11, ↓hp_s_11, ↓hp_l_11, ↓hp_a_12, ↓hp_s_12, ↓hp_l_12, ↓hp_a_13, ↓hp_s_13, ↓hp_l_13, ↓hp_a_14, ↓hp_s_14, ↓hp_l_14, ↓hp_a_15, ↓hp_s_15, ↓hp_l_15, ti, tj, iO_wide, gc, hw]
  · rw [decide_eq_false g, if_neg Bool.false_ne_true]
    have g : 0 ≤ s := by omega
    have : i32 s := by unfold i32; omega
    clear hr
    simp (disch := (first | assumption | (unfold i32; omega) | (unfold i64; omega) | omega)) only [↓reduceIte, ki_0, ki_1, ki_2, ki_3, ki_4, ki_5, ki_6, ki_7, ki_8, ki_9, ki_10, ki_11, ki_12, ki_13, ki_14, ki_15, ki_20, ki_21, ki_30, ki_31, ki_40, ki_41, ki_50, ki_51, ki_60, ki_63, ki_64, ki_65, ki_100, ki_158, ki_160, ki_200, ki_212, ki_1000, ki_2000, ki_2001, ki_5000, ki_10000, ki_10001, ki_100000, ki_200000, ki_1000000, ki_2000000, ki_3000000, iO_neg, iO_add, iO_sub, iO_mul, kn_4, kn_8, kn_10, kn_20, kn_24, kn_40, kn_41, kn_50, kn_60, kn_158, kn_160, kn_200, kn_212, kn_2001, tn_lt, fn_lt, tn_le, fn_le, tn_eq, fn_eq, x_lt, x_le, x_eq, x_ix, x_nat, t_lt, f_lt, t_le, f_le, t_eq, f_eq, eq_self, and_self, true_and, and_true, false_and, and_false, if_true, if_false, Int.toNat_natCast, bI_s, bL_s, bA_s, bA_n, bV_s, mq_s, mq_n, en_le, bl_0, bl_1, u_eq, u_ne, w_eq, w_ne, v_eq, v_ne, ↓hp_cc_9, ↓hp_g_9_0, ↓hp_g_9_1, ↓hp_g_9_2, ↓hp_g_9_3, ↓hp_g_9_4, ↓hp_p_9_4, ↓hp_g_9_5, ↓hp_g_9_6, ↓hp_p_9_7, ↓hp_g_9_7, ↓hp_a_10, ↓hp_s_10, ↓hp_l_10, ↓hp_a_11, ↓hp_s_11, ↓hp_l_11, ↓hp_a_12, ↓hp_s_12, ↓hp_l_12, ↓hp_a_13, ↓hp_s_13, ↓hp_l_13, ↓hp_a_14, ↓hp_s_14, ↓hp_l_14, ↓hp_a_15, ↓hp_s_15, ↓hp_l_15, ti, tj, iO_wide, gc, hw]
theorem x_place (hs : SlO D sp l) (hS : SL l.1 l.2.1 l.2.2.1 l.2.2.2) {i : Nat} (hi : i < 60) : ∀ (p : Nat) (o : Nat → Nat) (XA : Nat → Nat → Int32), p ≤ i → (∀ t, t ≤ i → XA 7 t = iO (WN l t)) → (∀ t, t ≤ i → t ≠ p → XA 6 t = iO (o t : Int) ∧ o t ≤ i) →
    ∃ XA', b_X0_place_1 sc (d + 3) 9 (iO (i : Int)) (iO (p : Int)) (hp XI XA XP (.ref (sp + 51)) MI MA ML D) = some (none, hp XI XA' XP (.ref (sp + 51)) MI MA ML D) ∧ (∀ m, m ≠ 6 → XA' m = XA m) ∧ (∀ t, t ≤ i → XA' 6 t = iO (plc (ahd l) i p o t : Int)) := by
  intro p
  induction p with
  | zero =>
    intro o XA hp h7 h6
    refine ⟨va_up XA 6 (upd (XA 6) 0 (iO (i : Int))), ?_, fun m hm => w_ne hm, ?_⟩
    · rw [eb_X0_place_1]
      clear h7 h6
      simp (disch := (first | assumption | (unfold i32; omega) | (unfold i64; omega) | omega)) only [↓reduceIte, ki_0, ki_1, ki_2, ki_3, ki_4, ki_5, ki_6, ki_7, ki_8, ki_9, ki_10, ki_11, ki_12, ki_13, ki_14, ki_15, ki_20, ki_21, ki_30, ki_31, ki_40, ki_41, ki_50, ki_51, ki_60, ki_63, ki_64, ki_65, ki_100, ki_158, ki_160, ki_200, ki_212, ki_1000, ki_2000, ki_2001, ki_5000, ki_10000, ki_10001, ki_100000, ki_200000, ki_1000000, ki_2000000, ki_3000000, iO_neg, iO_add, iO_sub, iO_mul, kn_4, kn_8, kn_10, kn_20, kn_24, kn_40, kn_41, kn_50, kn_60, kn_158, kn_160, kn_200, kn_212, kn_2001, tn_lt, fn_lt, tn_le, fn_le, tn_eq, fn_eq, x_lt, x_le, x_eq, x_ix, x_nat, t_lt, f_lt, t_le, f_le, t_eq, f_eq, eq_self, and_self, true_and, and_true, false_and, and_false, if_true, if_false, Int.toNat_natCast, bI_s, bL_s, bA_s, bA_n, bV_s, mq_s, mq_n, en_le, bl_0, bl_1, u_eq, u_ne, w_eq, w_ne, v_eq, v_ne, ↓hp_cc_9, ↓hp_g_9_0, ↓hp_g_9_1, ↓hp_g_9_2, ↓hp_g_9_3, ↓hp_g_9_4, ↓hp_p_9_4, ↓hp_g_9_5, ↓hp_g_9_6, ↓hp_p_9_7, ↓hp_g_9_7, ↓hp_a_10, ↓hp_s_10, ↓hp_l_10, ↓hp_a_11, ↓hp_s_11, ↓hp_l_11, ↓hp_a_12, ↓hp_s_12, ↓hp_l_12, ↓hp_a_13, ↓hp_s_13, ↓hp_l_13, ↓hp_a_14, ↓hp_s_14, ↓hp_l_14, ↓hp_a_15, ↓hp_s_15, ↓hp_l_15]
      try rfl
    · intro t ht
      rw [w_eq rfl, plc]
      by_cases e : t = 0
      · rw [u_eq e, w_eq e]
      · rw [u_ne e, w_ne e]
        exact (h6 t ht e).1
  | succ p ih =>
    intro o XA hp h7 h6
    obtain ⟨q1, q2⟩ := h6 p (by omega) (by omega)
    have hah := x_ahead (sc := sc) (d := d) (XI := XI) (XP := XP) (MI := MI) (MA := MA) (ML := ML) hs hS (i := i) (j := o p) hi (by omega) (h7 i (Nat.le_refl _)) (h7 (o p) q2)
    have e1 : ((p : Int) + 1 - 1).toNat = p := by omega
    cases hq : ahd l i (o p) with
    | true =>
      obtain ⟨XA', f1, f2, f3⟩ := ih (va_up o (p + 1) (o p)) (va_up XA 6 (upd (XA 6) (p + 1) (iO (o p : Int)))) (by omega) h7 (by
        intro t ht hne
        rw [w_eq rfl]
        by_cases e : t = p + 1
        · rw [u_eq e, w_eq e]; exact ⟨rfl, q2⟩
        · rw [u_ne e, w_ne e]; exact h6 t ht e)
      refine ⟨XA', ?_, fun m hm => by rw [f2 m hm, w_ne hm], ?_⟩
      · rw [hq, if_pos rfl] at hah
        rw [← f1, eb_X0_place_1]
        clear f1 f2 f3 ih h7 h6
        rw [show ((p + 1 : Nat) : Int) = (p : Int) + 1 by omega]
        have e2 : ((p : Int) + 1).toNat = p + 1 := by omega
        simp (disch := (first | assumption | (unfold i32; omega) | (unfold i64; omega) | omega)) only [↓reduceIte, ki_0, ki_1, ki_2, ki_3, ki_4, ki_5, ki_6, ki_7, ki_8, ki_9, ki_10, ki_11, ki_12, ki_13, ki_14, ki_15, ki_20, ki_21, ki_30, ki_31, ki_40, ki_41, ki_50, ki_51, ki_60, ki_63, ki_64, ki_65, ki_100, ki_158, ki_160, ki_200, ki_212, ki_1000, ki_2000, ki_2001, ki_5000, ki_10000, ki_10001, ki_100000, ki_200000, ki_1000000, ki_2000000, ki_3000000, iO_neg, iO_add, iO_sub, iO_mul, kn_4, kn_8, kn_10, kn_20, kn_24, kn_40, kn_41, kn_50, kn_60, kn_158, kn_160, kn_200, kn_212, kn_2001, tn_lt, fn_lt, tn_le, fn_le, tn_eq, fn_eq, x_lt, x_le, x_eq, x_ix, x_nat, t_lt, f_lt, t_le, f_le, t_eq, f_eq, eq_self, and_self, true_and, and_true, false_and, and_false, if_true, if_false, Int.toNat_natCast, bI_s, bL_s, bA_s, bA_n, bV_s, mq_s, mq_n, en_le, bl_0, bl_1, u_eq, u_ne, w_eq, w_ne, v_eq, v_ne, ↓hp_cc_9, ↓hp_g_9_0, ↓hp_g_9_1, ↓hp_g_9_2, ↓hp_g_9_3, ↓hp_g_9_4, ↓hp_p_9_4, ↓hp_g_9_5, ↓hp_g_9_6, ↓hp_p_9_7, ↓hp_g_9_7, ↓hp_a_10, ↓hp_s_10, ↓hp_l_10, ↓hp_a_11, ↓hp_s_11, ↓hp_l_11, ↓hp_a_12, ↓hp_s_12, ↓hp_l_12, ↓hp_a_13, ↓hp_s_13, ↓hp_l_13, ↓hp_a_14, ↓hp_s_14, ↓hp_l_14, ↓hp_a_15, ↓hp_s_15, ↓hp_l_15, e1, e2, q1, hah]
        rw [show (p : Int) + 1 + -1 = (p : Int) by omega]
      · intro t ht
        rw [plc, hq, if_pos rfl]
        exact f3 t ht
    | false =>
      rw [hq, if_neg Bool.false_ne_true] at hah
      refine ⟨va_up XA 6 (upd (XA 6) (p + 1) (iO (i : Int))), ?_, fun m hm => w_ne hm, ?_⟩
      · rw [eb_X0_place_1]
        clear ih h7 h6
        rw [show ((p + 1 : Nat) : Int) = (p : Int) + 1 by omega]
        have e2 : ((p : Int) + 1).toNat = p + 1 := by omega
        simp (disch := (first | assumption | (unfold i32; omega) | (unfold i64; omega) | omega)) only [↓reduceIte, ki_0, ki_1, ki_2, ki_3, ki_4, ki_5, ki_6, ki_7, ki_8, ki_9, ki_10, ki_11, ki_12, ki_13, ki_14, ki_15, ki_20, ki_21, ki_30, ki_31, ki_40, ki_41, ki_50, ki_51, ki_60, ki_63, ki_64, ki_65, ki_100, ki_158, ki_160, ki_200, ki_212, ki_1000, ki_2000, ki_2001, ki_5000, ki_10000, ki_10001, ki_100000, ki_200000, ki_1000000, ki_2000000, ki_3000000, iO_neg, iO_add, iO_sub, iO_mul, kn_4, kn_8, kn_10, kn_20, kn_24, kn_40, kn_41, kn_50, kn_60, kn_158, kn_160, kn_200, kn_212, kn_2001, tn_lt, fn_lt, tn_le, fn_le, tn_eq, fn_eq, x_lt, x_le, x_eq, x_ix, x_nat, t_lt, f_lt, t_le, f_le, t_eq, f_eq, eq_self, and_self, true_and, and_true, false_and, and_false, if_true, if_false, Int.toNat_natCast, bI_s, bL_s, bA_s, bA_n, bV_s, mq_s, mq_n, en_le, bl_0, bl_1, u_eq, u_ne, w_eq, w_ne, v_eq, v_ne, ↓hp_cc_9, ↓hp_g_9_0, ↓hp_g_9_1, ↓hp_g_9_2, ↓hp_g_9_3, ↓hp_g_9_4, ↓hp_p_9_4, ↓hp_g_9_5, ↓hp_g_9_6, ↓hp_p_9_7, ↓hp_g_9_7, ↓hp_a_10, ↓hp_s_10, ↓hp_l_10, ↓hp_a_11, ↓hp_s_11, ↓hp_l_11, ↓hp_a_12, ↓hp_s_12, ↓hp_l_12, ↓hp_a_13, ↓hp_s_13, ↓hp_l_13, ↓hp_a_14, ↓hp_s_14, ↓hp_l_14, ↓hp_a_15, ↓hp_s_15, ↓hp_l_15, e1, e2, q1, hah]
      · intro t ht
        rw [w_eq rfl, plc, hq, if_neg Bool.false_ne_true]
        by_cases e : t = p + 1
        · rw [u_eq e, w_eq e]
        · rw [u_ne e, w_ne e]
          exact (h6 t ht e).1
theorem x_lay1 (hs : SlO D sp l) (hS : SL l.1 l.2.1 l.2.2.1 l.2.2.2) {n : Nat} (hn : n ≤ 60) : ∀ (j i : Nat) (XA : Nat → Nat → Int32), i + j = n → (∀ t, t < i → XA 7 t = iO (WN l t)) → (∀ t, t < i → XA 6 t = iO (ords l i t : Int)) →
    ∃ XA', b_X0_lay_1 sc (d + 4) 9 (sp + 51) (iO (n : Int)) (iO (i : Int)) (hp XI XA XP (.ref (sp + 51)) MI MA ML D) = b_X0_lay_3 sc (d + 4) 9 (iO (n : Int)) (iO 0) (hp XI XA' XP (.ref (sp + 51)) MI MA ML D) ∧ (∀ m, m ≠ 6 → m ≠ 7 → XA' m = XA m) ∧ (∀ t, t < n → XA' 7 t = iO (WN l t)) ∧ (∀ t, t < n → XA' 6 t = iO (ords l n t : Int)) := by
  have c3 := hs
  obtain ⟨a, b, c, e, t0, qs, ls, k1, -⟩ := c3
  have gc : ∀ (XA : Nat → Nat → Int32) (g : Nat → Option en_R), en_cc (hp XI XA XP (.ref (sp + 51)) MI MA ML D) (sp + 51) g = g 6 := fun XA g => d_cc k1 g
  intro j
  induction j with
  | zero =>
    intro i XA hi h7 h6
    obtain rfl : i = n := by omega
    refine ⟨XA, ?_, fun _ _ _ => rfl, h7, h6⟩
    rw [eb_X0_lay_1]
    clear h7 h6 gc k1
    simp (disch := (first | assumption | (unfold i32; omega) | (unfold i64; omega) | omega)) only [↓reduceIte, ki_0, ki_1, ki_2, ki_3, ki_4, ki_5, ki_6, ki_7, ki_8, ki_9, ki_10, ki_11, ki_12, ki_13, ki_14, ki_15, ki_20, ki_21, ki_30, ki_31, ki_40, ki_41, ki_50, ki_51, ki_60, ki_63, ki_64, ki_65, ki_100, ki_158, ki_160, ki_200, ki_212, ki_1000, ki_2000, ki_2001, ki_5000, ki_10000, ki_10001, ki_100000, ki_200000, ki_1000000, ki_2000000, ki_3000000, iO_neg, iO_add, iO_sub, iO_mul, kn_4, kn_8, kn_10, kn_20, kn_24, kn_40, kn_41, kn_50, kn_60, kn_158, kn_160, kn_200, kn_212, kn_2001, tn_lt, fn_lt, tn_le, fn_le, tn_eq, fn_eq, x_lt, x_le, x_eq, x_ix, x_nat, t_lt, f_lt, t_le, f_le, t_eq, f_eq, eq_self, and_self, true_and, and_true, false_and, and_false, if_true, if_false, Int.toNat_natCast, bI_s, bL_s, bA_s, bA_n, bV_s, mq_s, mq_n, en_le, bl_0, bl_1, u_eq, u_ne, w_eq, w_ne, v_eq, v_ne]
  | succ j ih =>
    intro i XA hi h7 h6
    have hw := x_whole0 (sc := sc) (n := d) (XI := XI) (XA := XA) (XP := XP) (XC := .ref (sp + 51)) (MI := MI) (MA := MA) (ML := ML) hs hS (N := (i : Int)) (by omega) (by omega)
    have hw : f_X7_wholeOf sc (d + 4) (sp + 51) (lO (i : Int)) (lO 0) (lO 1) (hp XI XA XP (.ref (sp + 51)) MI MA ML D) = some (some (.long (lO (WN l i))), hp XI XA XP (.ref (sp + 51)) MI MA ML D) := hw
    obtain ⟨p1, p2, p3⟩ := ordr_perm (ah := ahd l) i
    obtain ⟨XA1, f1, f2, f3⟩ := x_place (sc := sc) (d := d) (XI := XI) (XP := XP) (MI := MI) (MA := MA) (ML := ML) hs hS (i := i) (by omega) i (ords l i) (va_up XA 7 (upd (XA 7) i (iO (WN l i)))) (Nat.le_refl _) (by
      intro t ht
      rw [w_eq rfl]
      by_cases e : t = i
      · rw [u_eq e, e]
      · rw [u_ne e]; exact h7 t (by omega)) (by
      intro t ht hne
      exact ⟨h6 t (by omega), by have := p1 t (by omega); unfold ords; omega⟩)
    obtain ⟨XA', k2, k3, k4, k5⟩ := ih (i + 1) XA1 (by omega) (by
      intro t ht
      rw [f2 7 (by decide), w_eq rfl]
      by_cases e : t = i
      · rw [u_eq e, e]
      · rw [u_ne e]; exact h7 t (by omega)) (fun t ht => f3 t (by omega))
    refine ⟨XA', ?_, fun m h1 h2 => by rw [k3 m h1 h2, f2 m h1, w_ne h2], k4, k5⟩
    have f1' : f_X0_place sc (d + 4) 9 (iO (i : Int)) (hp XI (va_up XA 7 (upd (XA 7) i (iO (WN l i)))) XP (.ref (sp + 51)) MI MA ML D) = _ := (e_X0_place _ _ _ _ _).trans f1
    rw [← k2, eb_X0_lay_1]
    clear f1 f2 f3 k2 k3 k4 k5 ih h7 h6 p1 p2 p3
    simp (disch := (first | assumption | (unfold i32; omega) | (unfold i64; omega) | omega)) only [↓reduceIte, ki_0, ki_1, ki_2, ki_3, ki_4, ki_5, ki_6, ki_7, ki_8, ki_9, ki_10, ki_11, ki_12, ki_13, ki_14, ki_15, ki_20, ki_21, ki_30, ki_31, ki_40, ki_41, ki_50, ki_51, ki_60, ki_63, ki_64, ki_65, ki_100, ki_158, ki_160, ki_200, ki_212, ki_1000, ki_2000, ki_2001, ki_5000, ki_10000, ki_10001, ki_100000, ki_200000, ki_1000000, ki_2000000, ki_3000000, iO_neg, iO_add, iO_sub, iO_mul, kn_4, kn_8, kn_10, kn_20, kn_24, kn_40, kn_41, kn_50, kn_60, kn_158, kn_160, kn_200, kn_212, kn_2001, tn_lt, fn_lt, tn_le, fn_le, tn_eq, fn_eq, x_lt, x_le, x_eq, x_ix, x_nat, t_lt, f_lt, t_le, f_le, t_eq, f_eq, eq_self, and_self, true_and, and_true, false_and, and_false, if_true, if_false, Int.toNat_natCast, bI_s, bL_s, bA_s, bA_n, bV_s, mq_s, mq_n, en_le, bl_0, bl_1, u_eq, u_ne, w_eq, w_ne, v_eq, v_ne, ↓hp_cc_9, ↓hp_g_9_0, ↓hp_g_9_1, ↓hp_g_9_2, ↓hp_g_9_3, ↓hp_g_9_4, ↓hp_p_9_4, ↓hp_g_9_5, ↓hp_g_9_6, ↓hp_p_9_7, ↓hp_g_9_7, ↓hp_a_10, ↓hp_s_10, ↓hp_l_10, ↓hp_a_11, ↓hp_s_11, ↓hp_l_11, ↓hp_a_12, ↓hp_s_12, ↓hp_l_12, ↓hp_a_13, ↓hp_s_13, ↓hp_l_13, ↓hp_a_14, ↓hp_s_14, ↓hp_l_14, ↓hp_a_15, ↓hp_s_15, ↓hp_l_15, iO_wide, kl_0, kl_1, gc, hw, lO_narrow, f1']
    try rfl
theorem m_ahead {XA : Nat → Nat → Int32} {XC : Value} {k : Nat} (hk : k < 8) (hM : MS MA k l.1 l.2.1 l.2.2.1 l.2.2.2) (hS : SL l.1 l.2.1 l.2.2.1 l.2.2.2) {i j : Nat} (hi : i < 60) (hj : j < 60) (ti : MA 14 i = iO (WN l i)) (tj : MA 14 j = iO (WN l j)) : f_X12_isAhead sc (d + 2) 26 (iO (k : Int)) (iO (i : Int)) (iO (j : Int)) (hp XI XA XP XC MI MA ML D) = some (some (.int (iO (if ahd l i j = true then 1 else 0))), hp XI XA XP XC MI MA ML D) := by
  have b1 := WN_bd hS hi
  have b2 := WN_bd hS hj
  obtain ⟨m0, m1, m2, m3⟩ := hM
  obtain ⟨a1, a2, c1, c2, e1, e2, d1, d2, -⟩ := id hS
  have t1 := mul_bd (x := (i : Int) - (j : Int)) (y := l.1 + 1000) (a := 60) (b := 2000) (by omega) (by omega) (by omega) (by omega)
  have t2 := mul_bd (x := (i : Int) - (j : Int)) (y := l.2.1 + 20) (a := 60) (b := 40) (by omega) (by omega) (by omega) (by omega)
  have t3 := mul_bd (x := WN l i - WN l j) (y := l.2.2.1) (a := 1180) (b := 100) (by omega) (by omega) (by omega) (by omega)
  rw [Int.mul_add] at t1 t2
  have g1 : l.1 * ((i : Int) - (j : Int)) = ((i : Int) - (j : Int)) * l.1 := Int.mul_comm _ _
  have g2 : l.2.1 * ((i : Int) - (j : Int)) = ((i : Int) - (j : Int)) * l.2.1 := Int.mul_comm _ _
  have s1 := sq_bd (x := l.1 * ((i : Int) - (j : Int)) - (WN l i - WN l j) * l.2.2.1) (K := 500000) (by omega) (by omega)
  have s2 := sq_bd (x := l.2.1 * ((i : Int) - (j : Int))) (K := 5000) (by omega) (by omega)
  have s3 := mul_bd (x := l.2.1 * ((i : Int) - (j : Int)) * (l.2.1 * ((i : Int) - (j : Int)))) (y := l.2.2.2) (a := 25000000) (b := 50) (by omega) (by omega) (by omega) d2
  have hsg := e_sign (sc := sc) (n := d) (x := l.1 * ((i : Int) - (j : Int)) - (WN l i - WN l j) * l.2.2.1) (y := l.2.1 * ((i : Int) - (j : Int))) (d := l.2.2.2) (z := hp XI XA XP XC MI MA ML D) (by unfold i64; omega) (by unfold i64; omega) (by unfold i64; omega) (by unfold i64; omega)
  have eq1 : sg (l.1 * ((i : Int) - (j : Int)) - (WN l i - WN l j) * l.2.2.1) (l.2.1 * ((i : Int) - (j : Int))) l.2.2.2 = sgn l (WN l j - WN l i) ((i : Int) - (j : Int)) := by
    unfold sgn
    rw [g1, g2]
    congr 1
    rw [show WN l j - WN l i = -(WN l i - WN l j) by omega, Int.neg_mul]
    omega
  rw [eq1] at hsg
  have hr : sgn l (WN l j - WN l i) ((i : Int) - (j : Int)) = -1 ∨ sgn l (WN l j - WN l i) ((i : Int) - (j : Int)) = 0 ∨ sgn l (WN l j - WN l i) ((i : Int) - (j : Int)) = 1 := sg_range _ _ _
  clear t1 t2 t3 s1 s2 s3 eq1 g1 g2
  rw [e_X12_isAhead]
  unfold ahd
  generalize sgn l (WN l j - WN l i) ((i : Int) - (j : Int)) = s at *
  generalize WN l i = P at *
  generalize WN l j = Q at *
  by_cases g : s < 0
  · rw [decide_eq_true g, if_pos rfl]
    have : i32 s := by unfold i32; omega
    clear hr
    simp (disch := (first | assumption | (unfold i32; omega) | (unfold i64; omega) | omega)) only [↓reduceIte, ki_0, ki_1, ki_2, ki_3, ki_4, ki_5, ki_6, ki_7, ki_8, ki_9, ki_10, ki_11, ki_12, ki_13, ki_14, ki_15, ki_20, ki_21, ki_30, ki_31, ki_40, ki_41, ki_50, ki_51, ki_60, ki_63, ki_64, ki_65, ki_100, ki_158, ki_160, ki_200, ki_212, ki_1000, ki_2000, ki_2001, ki_5000, ki_10000, ki_10001, ki_100000, ki_200000, ki_1000000, ki_2000000, ki_3000000, iO_neg, iO_add, iO_sub, iO_mul, kn_4, kn_8, kn_10, kn_20, kn_24, kn_40, kn_41, kn_50, kn_60, kn_158, kn_160, kn_200, kn_212, kn_2001, tn_lt, fn_lt, tn_le, fn_le, tn_eq, fn_eq, x_lt, x_le, x_eq, x_ix, x_nat, t_lt, f_lt, t_le, f_le, t_eq, f_eq, eq_self, and_self, true_and, and_true, false_and, and_false, if_true, if_false, Int.toNat_natCast, bI_s, bL_s, bA_s, bA_n, bV_s, mq_s, mq_n, en_le, bl_0, bl_1, u_eq, u_ne, w_eq, w_ne, v_eq, v_ne, ↓hp_cc_26, ↓hp_g_26_0, ↓hp_p_26_0, ↓hp_g_26_1, ↓hp_p_26_1, ↓hp_g_26_2, ↓hp_p_26_2, ↓hp_g_26_3, ↓hp_g_26_4, ↓hp_g_26_5, ↓hp_g_26_6, ↓hp_g_26_7, ↓hp_g_26_8, ↓hp_g_26_9, ↓hp_g_26_10, ↓hp_g_26_11, ↓hp_g_26_12, ↓hp_g_26_13, ↓hp_g_26_14, ↓hp_g_26_15, ↓hp_p_26_15, ↓hp_g_26_16, ↓hp_g_26_17, ↓hp_g_26_18, ↓hp_p_26_18, ↓hp_g_26_19, ↓hp_p_26_19, ↓hp_g_26_20, ↓hp_g_26_21, ↓hp_p_26_21, ↓hp_g_26_22, ↓hp_g_26_23, ↓hp_g_26_24, ↓hp_g_26_25, ↓hp_g_26_26, ↓hp_g_26_27, ↓hp_g_26_28, ↓hp_g_26_29, ↓hp_g_26_30, ↓hp_p_26_30, ↓hp_g_26_31, ↓hp_g_26_32, ↓hp_p_26_32, ↓hp_a_27, ↓hp_s_27, ↓hp_l_27, ↓hp_a_28, ↓hp_s_28, ↓hp_l_28, ↓hp_a_29, ↓hp_s_29, ↓hp_l_29, ↓hp_a_30, ↓hp_s_30, ↓hp_l_30, ↓hp_a_31, ↓hp_s_31, ↓hp_l_31, ↓hp_a_32, ↓hp_s_32, ↓hp_l_32, ↓hp_a_33, ↓hp_s_33, ↓hp_l_33, ↓hp_a_34, ↓hp_s_34, ↓hp_l_34, ↓hp_a_35, ↓hp_s_35, ↓hp_l_35, ↓hp_a_36, ↓hp_s_36, ↓hp_l_36, ↓hp_a_37, ↓hp_s_37, ↓hp_l_37, ↓hp_a_38, ↓hp_s_38, ↓hp_l_38, ↓hp_a_39, ↓hp_s_39, ↓hp_a_40, ↓hp_s_40, ↓hp_a_41, ↓hp_s_41, ↓hp_l_41, ↓hp_a_42, ↓hp_s_42, ↓hp_l_42, ↓hp_a_43, ↓hp_s_43, ↓hp_l_43, ↓hp_a_44, ↓hp_s_44, ↓hp_l_44, ↓hp_a_45, ↓hp_s_45, ↓hp_l_45, ↓hp_a_46, ↓hp_s_46, ↓hp_l_46, ↓hp_a_47, ↓hp_s_47, ↓hp_l_47, ↓hp_a_48, ↓hp_s_48, ↓hp_l_48, ↓hp_a_49, ↓hp_s_49, ↓hp_l_49, ↓hp_a_50, ↓hp_s_50, ↓hp_l_50, ti, tj, m0, m1, m2, m3, iO_wide, lO_mul, lO_sub, hsg]
  · rw [decide_eq_false g, if_neg Bool.false_ne_true]
    have g : 0 ≤ s := by omega
    have : i32 s := by unfold i32; omega
    clear hr
    simp (disch := (first | assumption | (unfold i32; omega) | (unfold i64; omega) | omega)) only [↓reduceIte, ki_0, ki_1, ki_2, ki_3, ki_4, ki_5, ki_6, ki_7, ki_8, ki_9, ki_10, ki_11, ki_12, ki_13, ki_14, ki_15, ki_20, ki_21, ki_30, ki_31, ki_40, ki_41, ki_50, ki_51, ki_60, ki_63, ki_64, ki_65, ki_100, ki_158, ki_160, ki_200, ki_212, ki_1000, ki_2000, ki_2001, ki_5000, ki_10000, ki_10001, ki_100000, ki_200000, ki_1000000, ki_2000000, ki_3000000, iO_neg, iO_add, iO_sub, iO_mul, kn_4, kn_8, kn_10, kn_20, kn_24, kn_40, kn_41, kn_50, kn_60, kn_158, kn_160, kn_200, kn_212, kn_2001, tn_lt, fn_lt, tn_le, fn_le, tn_eq, fn_eq, x_lt, x_le, x_eq, x_ix, x_nat, t_lt, f_lt, t_le, f_le, t_eq, f_eq, eq_self, and_self, true_and, and_true, false_and, and_false, if_true, if_false, Int.toNat_natCast, bI_s, bL_s, bA_s, bA_n, bV_s, mq_s, mq_n, en_le, bl_0, bl_1, u_eq, u_ne, w_eq, w_ne, v_eq, v_ne, ↓hp_cc_26, ↓hp_g_26_0, ↓hp_p_26_0, ↓hp_g_26_1, ↓hp_p_26_1, ↓hp_g_26_2, ↓hp_p_26_2, ↓hp_g_26_3, ↓hp_g_26_4, ↓hp_g_26_5, ↓hp_g_26_6, ↓hp_g_26_7, ↓hp_g_26_8, ↓hp_g_26_9, ↓hp_g_26_10, ↓hp_g_26_11, ↓hp_g_26_12, ↓hp_g_26_13, ↓hp_g_26_14, ↓hp_g_26_15, ↓hp_p_26_15, ↓hp_g_26_16, ↓hp_g_26_17, ↓hp_g_26_18, ↓hp_p_26_18, ↓hp_g_26_19, ↓hp_p_26_19, ↓hp_g_26_20, ↓hp_g_26_21, ↓hp_p_26_21, ↓hp_g_26_22, ↓hp_g_26_23, ↓hp_g_26_24, ↓hp_g_26_25, ↓hp_g_26_26, ↓hp_g_26_27, ↓hp_g_26_28, ↓hp_g_26_29, ↓hp_g_26_30, ↓hp_p_26_30, ↓hp_g_26_31, ↓hp_g_26_32, ↓hp_p_26_32, ↓hp_a_27, ↓hp_s_27, ↓hp_l_27, ↓hp_a_28, ↓hp_s_28, ↓hp_l_28, ↓hp_a_29, ↓hp_s_29, ↓hp_l_29, ↓hp_a_30, ↓hp_s_30, ↓hp_l_30, ↓hp_a_31, ↓hp_s_31, ↓hp_l_31, ↓hp_a_32, ↓hp_s_32, ↓hp_l_32, ↓hp_a_33, ↓hp_s_33, ↓hp_l_33, ↓hp_a_34, ↓hp_s_34, ↓hp_l_34, ↓hp_a_35, ↓hp_s_35, ↓hp_l_35, ↓hp_a_36, ↓hp_s_36, ↓hp_l_36, ↓hp_a_37, ↓hp_s_37, ↓hp_l_37, ↓hp_a_38, ↓hp_s_38, ↓hp_l_38, ↓hp_a_39, ↓hp_s_39, ↓hp_a_40, ↓hp_s_40, ↓hp_a_41, ↓hp_s_41, ↓hp_l_41, ↓hp_a_42, ↓hp_s_42, ↓hp_l_42, ↓hp_a_43, ↓hp_s_43, ↓hp_l_43, ↓hp_a_44, ↓hp_s_44, ↓hp_l_44, ↓hp_a_45, ↓hp_s_45, ↓hp_l_45, ↓hp_a_46, ↓hp_s_46, ↓hp_l_46, ↓hp_a_47, ↓hp_s_47, ↓hp_l_47, ↓hp_a_48, ↓hp_s_48, ↓hp_l_48, ↓hp_a_49, ↓hp_s_49, ↓hp_l_49, ↓hp_a_50, ↓hp_s_50, ↓hp_l_50, ti, tj, m0, m1, m2, m3, iO_wide, lO_mul, lO_sub, hsg]
theorem m_ring2 {XA : Nat → Nat → Int32} {XC : Value} {k n : Nat} (hk : k < 8) (hS : SL l.1 l.2.1 l.2.2.1 l.2.2.2) {i : Nat} (hi : i < 60) : ∀ (p : Nat) (o : Nat → Nat) (MA : Nat → Nat → Int32), p ≤ i → MS MA k l.1 l.2.1 l.2.2.1 l.2.2.2 → (∀ t, t ≤ i → MA 14 t = iO (WN l t)) → (∀ t, t ≤ i → t ≠ p → MA 13 t = iO (o t : Int) ∧ o t ≤ i) →
    ∃ MA', b_X12_rings_2 sc (d + 2) 26 (iO (k : Int)) (iO (n : Int)) (iO (i : Int)) (iO (p : Int)) (hp XI XA XP XC MI MA ML D) = b_X12_rings_1 sc (d + 2) 26 (iO (k : Int)) (iO (n : Int)) (iO ((i : Int) + 1)) (hp XI XA XP XC MI MA' ML D) ∧ (∀ m, m ≠ 13 → MA' m = MA m) ∧ (∀ t, t ≤ i → MA' 13 t = iO (plc (ahd l) i p o t : Int)) := by
  intro p
  induction p with
  | zero =>
    intro o MA hp hM h7 h6
    refine ⟨va_up MA 13 (upd (MA 13) 0 (iO (i : Int))), ?_, fun m hm => w_ne hm, ?_⟩
    · rw [eb_X12_rings_2]
      clear h7 h6 hM
      simp (disch := (first | assumption | (unfold i32; omega) | (unfold i64; omega) | omega)) only [↓reduceIte, ki_0, ki_1, ki_2, ki_3, ki_4, ki_5, ki_6, ki_7, ki_8, ki_9, ki_10, ki_11, ki_12, ki_13, ki_14, ki_15, ki_20, ki_21, ki_30, ki_31, ki_40, ki_41, ki_50, ki_51, ki_60, ki_63, ki_64, ki_65, ki_100, ki_158, ki_160, ki_200, ki_212, ki_1000, ki_2000, ki_2001, ki_5000, ki_10000, ki_10001, ki_100000, ki_200000, ki_1000000, ki_2000000, ki_3000000, iO_neg, iO_add, iO_sub, iO_mul, kn_4, kn_8, kn_10, kn_20, kn_24, kn_40, kn_41, kn_50, kn_60, kn_158, kn_160, kn_200, kn_212, kn_2001, tn_lt, fn_lt, tn_le, fn_le, tn_eq, fn_eq, x_lt, x_le, x_eq, x_ix, x_nat, t_lt, f_lt, t_le, f_le, t_eq, f_eq, eq_self, and_self, true_and, and_true, false_and, and_false, if_true, if_false, Int.toNat_natCast, bI_s, bL_s, bA_s, bA_n, bV_s, mq_s, mq_n, en_le, bl_0, bl_1, u_eq, u_ne, w_eq, w_ne, v_eq, v_ne, ↓hp_cc_26, ↓hp_g_26_0, ↓hp_p_26_0, ↓hp_g_26_1, ↓hp_p_26_1, ↓hp_g_26_2, ↓hp_p_26_2, ↓hp_g_26_3, ↓hp_g_26_4, ↓hp_g_26_5, ↓hp_g_26_6, ↓hp_g_26_7, ↓hp_g_26_8, ↓hp_g_26_9, ↓hp_g_26_10, ↓hp_g_26_11, ↓hp_g_26_12, ↓hp_g_26_13, ↓hp_g_26_14, ↓hp_g_26_15, ↓hp_p_26_15, ↓hp_g_26_16, ↓hp_g_26_17, ↓hp_g_26_18, ↓hp_p_26_18, ↓hp_g_26_19, ↓hp_p_26_19, ↓hp_g_26_20, ↓hp_g_26_21, ↓hp_p_26_21, ↓hp_g_26_22, ↓hp_g_26_23, ↓hp_g_26_24, ↓hp_g_26_25, ↓hp_g_26_26, ↓hp_g_26_27, ↓hp_g_26_28, ↓hp_g_26_29, ↓hp_g_26_30, ↓hp_p_26_30, ↓hp_g_26_31, ↓hp_g_26_32, ↓hp_p_26_32, ↓hp_a_27, ↓hp_s_27, ↓hp_l_27, ↓hp_a_28, ↓hp_s_28, ↓hp_l_28, ↓hp_a_29, ↓hp_s_29, ↓hp_l_29, ↓hp_a_30, ↓hp_s_30, ↓hp_l_30, ↓hp_a_31, ↓hp_s_31, ↓hp_l_31, ↓hp_a_32, ↓hp_s_32, ↓hp_l_32, ↓hp_a_33, ↓hp_s_33, ↓hp_l_33, ↓hp_a_34, ↓hp_s_34, ↓hp_l_34, ↓hp_a_35, ↓hp_s_35, ↓hp_l_35, ↓hp_a_36, ↓hp_s_36, ↓hp_l_36, ↓hp_a_37, ↓hp_s_37, ↓hp_l_37, ↓hp_a_38, ↓hp_s_38, ↓hp_l_38, ↓hp_a_39, ↓hp_s_39, ↓hp_a_40, ↓hp_s_40, ↓hp_a_41, ↓hp_s_41, ↓hp_l_41, ↓hp_a_42, ↓hp_s_42, ↓hp_l_42, ↓hp_a_43, ↓hp_s_43, ↓hp_l_43, ↓hp_a_44, ↓hp_s_44, ↓hp_l_44, ↓hp_a_45, ↓hp_s_45, ↓hp_l_45, ↓hp_a_46, ↓hp_s_46, ↓hp_l_46, ↓hp_a_47, ↓hp_s_47, ↓hp_l_47, ↓hp_a_48, ↓hp_s_48, ↓hp_l_48, ↓hp_a_49, ↓hp_s_49, ↓hp_l_49, ↓hp_a_50, ↓hp_s_50, ↓hp_l_50]
      try rfl
    · intro t ht
      rw [w_eq rfl, plc]
      by_cases e : t = 0
      · rw [u_eq e, w_eq e]
      · rw [u_ne e, w_ne e]
        exact (h6 t ht e).1
  | succ p ih =>
    intro o MA hp hM h7 h6
    obtain ⟨q1, q2⟩ := h6 p (by omega) (by omega)
    have hah := m_ahead (sc := sc) (d := d) (XI := XI) (XA := XA) (XP := XP) (XC := XC) (MI := MI) (ML := ML) (D := D) hk hM hS (i := i) (j := o p) hi (by omega) (h7 i (Nat.le_refl _)) (h7 (o p) q2)
    have e1 : ((p : Int) + 1 - 1).toNat = p := by omega
    cases hq : ahd l i (o p) with
    | true =>
      obtain ⟨MA', f1, f2, f3⟩ := ih (va_up o (p + 1) (o p)) (va_up MA 13 (upd (MA 13) (p + 1) (iO (o p : Int)))) (by omega) hM h7 (by
        intro t ht hne
        rw [w_eq rfl]
        by_cases e : t = p + 1
        · rw [u_eq e, w_eq e]; exact ⟨rfl, q2⟩
        · rw [u_ne e, w_ne e]; exact h6 t ht e)
      refine ⟨MA', ?_, fun m hm => by rw [f2 m hm, w_ne hm], ?_⟩
      · rw [hq, if_pos rfl] at hah
        rw [← f1, eb_X12_rings_2]
        clear f1 f2 f3 ih h7 h6 hM
        rw [show ((p + 1 : Nat) : Int) = (p : Int) + 1 by omega]
        have e2 : ((p : Int) + 1).toNat = p + 1 := by omega
        simp (disch := (first | assumption | (unfold i32; omega) | (unfold i64; omega) | omega)) only [↓reduceIte, ki_0, ki_1, ki_2, ki_3, ki_4, ki_5, ki_6, ki_7, ki_8, ki_9, ki_10, ki_11, ki_12, ki_13, ki_14, ki_15, ki_20, ki_21, ki_30, ki_31, ki_40, ki_41, ki_50, ki_51, ki_60, ki_63, ki_64, ki_65, ki_100, ki_158, ki_160, ki_200, ki_212, ki_1000, ki_2000, ki_2001, ki_5000, ki_10000, ki_10001, ki_100000, ki_200000, ki_1000000, ki_2000000, ki_3000000, iO_neg, iO_add, iO_sub, iO_mul, kn_4, kn_8, kn_10, kn_20, kn_24, kn_40, kn_41, kn_50, kn_60, kn_158, kn_160, kn_200, kn_212, kn_2001, tn_lt, fn_lt, tn_le, fn_le, tn_eq, fn_eq, x_lt, x_le, x_eq, x_ix, x_nat, t_lt, f_lt, t_le, f_le, t_eq, f_eq, eq_self, and_self, true_and, and_true, false_and, and_false, if_true, if_false, Int.toNat_natCast, bI_s, bL_s, bA_s, bA_n, bV_s, mq_s, mq_n, en_le, bl_0, bl_1, u_eq, u_ne, w_eq, w_ne, v_eq, v_ne, ↓hp_cc_26, ↓hp_g_26_0, ↓hp_p_26_0, ↓hp_g_26_1, ↓hp_p_26_1, ↓hp_g_26_2, ↓hp_p_26_2, ↓hp_g_26_3, ↓hp_g_26_4, ↓hp_g_26_5, ↓hp_g_26_6, ↓hp_g_26_7, ↓hp_g_26_8, ↓hp_g_26_9, ↓hp_g_26_10, ↓hp_g_26_11, ↓hp_g_26_12, ↓hp_g_26_13, ↓hp_g_26_14, ↓hp_g_26_15, ↓hp_p_26_15, ↓hp_g_26_16, ↓hp_g_26_17, ↓hp_g_26_18, ↓hp_p_26_18, ↓hp_g_26_19, ↓hp_p_26_19, ↓hp_g_26_20, ↓hp_g_26_21, ↓hp_p_26_21, ↓hp_g_26_22, ↓hp_g_26_23, ↓hp_g_26_24, ↓hp_g_26_25, ↓hp_g_26_26, ↓hp_g_26_27, ↓hp_g_26_28, ↓hp_g_26_29, ↓hp_g_26_30, ↓hp_p_26_30, ↓hp_g_26_31, ↓hp_g_26_32, ↓hp_p_26_32, ↓hp_a_27, ↓hp_s_27, ↓hp_l_27, ↓hp_a_28, ↓hp_s_28, ↓hp_l_28, ↓hp_a_29, ↓hp_s_29, ↓hp_l_29, ↓hp_a_30, ↓hp_s_30, ↓hp_l_30, ↓hp_a_31, ↓hp_s_31, ↓hp_l_31, ↓hp_a_32, ↓hp_s_32, ↓hp_l_32, ↓hp_a_33, ↓hp_s_33, ↓hp_l_33, ↓hp_a_34, ↓hp_s_34, ↓hp_l_34, ↓hp_a_35, ↓hp_s_35, ↓hp_l_35, ↓hp_a_36, ↓hp_s_36, ↓hp_l_36, ↓hp_a_37, ↓hp_s_37, ↓hp_l_37, ↓hp_a_38, ↓hp_s_38, ↓hp_l_38, ↓hp_a_39, ↓hp_s_39, ↓hp_a_40, ↓hp_s_40, ↓hp_a_41, ↓hp_s_41, ↓hp_l_41, ↓hp_a_42, ↓hp_s_42, ↓hp_l_42, ↓hp_a_43, ↓hp_s_43, ↓hp_l_43, ↓hp_a_44, ↓hp_s_44, ↓hp_l_44, ↓hp_a_45, ↓hp_s_45, ↓hp_l_45, ↓hp_a_46, ↓hp_s_46, ↓hp_l_46, ↓hp_a_47, ↓hp_s_47, ↓hp_l_47, ↓hp_a_48, ↓hp_s_48, ↓hp_l_48, ↓hp_a_49, ↓hp_s_49, ↓hp_l_49, ↓hp_a_50, ↓hp_s_50, ↓hp_l_50, e1, e2, q1, hah]
        rw [show (p : Int) + 1 + -1 = (p : Int) by omega]
      · intro t ht
        rw [plc, hq, if_pos rfl]
        exact f3 t ht
    | false =>
      rw [hq, if_neg Bool.false_ne_true] at hah
      refine ⟨va_up MA 13 (upd (MA 13) (p + 1) (iO (i : Int))), ?_, fun m hm => w_ne hm, ?_⟩
      · rw [eb_X12_rings_2]
        clear ih h7 h6 hM
        rw [show ((p + 1 : Nat) : Int) = (p : Int) + 1 by omega]
        have e2 : ((p : Int) + 1).toNat = p + 1 := by omega
        simp (disch := (first | assumption | (unfold i32; omega) | (unfold i64; omega) | omega)) only [↓reduceIte, ki_0, ki_1, ki_2, ki_3, ki_4, ki_5, ki_6, ki_7, ki_8, ki_9, ki_10, ki_11, ki_12, ki_13, ki_14, ki_15, ki_20, ki_21, ki_30, ki_31, ki_40, ki_41, ki_50, ki_51, ki_60, ki_63, ki_64, ki_65, ki_100, ki_158, ki_160, ki_200, ki_212, ki_1000, ki_2000, ki_2001, ki_5000, ki_10000, ki_10001, ki_100000, ki_200000, ki_1000000, ki_2000000, ki_3000000, iO_neg, iO_add, iO_sub, iO_mul, kn_4, kn_8, kn_10, kn_20, kn_24, kn_40, kn_41, kn_50, kn_60, kn_158, kn_160, kn_200, kn_212, kn_2001, tn_lt, fn_lt, tn_le, fn_le, tn_eq, fn_eq, x_lt, x_le, x_eq, x_ix, x_nat, t_lt, f_lt, t_le, f_le, t_eq, f_eq, eq_self, and_self, true_and, and_true, false_and, and_false, if_true, if_false, Int.toNat_natCast, bI_s, bL_s, bA_s, bA_n, bV_s, mq_s, mq_n, en_le, bl_0, bl_1, u_eq, u_ne, w_eq, w_ne, v_eq, v_ne, ↓hp_cc_26, ↓hp_g_26_0, ↓hp_p_26_0, ↓hp_g_26_1, ↓hp_p_26_1, ↓hp_g_26_2, ↓hp_p_26_2, ↓hp_g_26_3, ↓hp_g_26_4, ↓hp_g_26_5, ↓hp_g_26_6, ↓hp_g_26_7, ↓hp_g_26_8, ↓hp_g_26_9, ↓hp_g_26_10, ↓hp_g_26_11, ↓hp_g_26_12, ↓hp_g_26_13, ↓hp_g_26_14, ↓hp_g_26_15, ↓hp_p_26_15, ↓hp_g_26_16, ↓hp_g_26_17, ↓hp_g_26_18, ↓hp_p_26_18, ↓hp_g_26_19, ↓hp_p_26_19, ↓hp_g_26_20, ↓hp_g_26_21, ↓hp_p_26_21, ↓hp_g_26_22, ↓hp_g_26_23, ↓hp_g_26_24, ↓hp_g_26_25, ↓hp_g_26_26, ↓hp_g_26_27, ↓hp_g_26_28, ↓hp_g_26_29, ↓hp_g_26_30, ↓hp_p_26_30, ↓hp_g_26_31, ↓hp_g_26_32, ↓hp_p_26_32, ↓hp_a_27, ↓hp_s_27, ↓hp_l_27, ↓hp_a_28, ↓hp_s_28, ↓hp_l_28, ↓hp_a_29, ↓hp_s_29, ↓hp_l_29, ↓hp_a_30, ↓hp_s_30, ↓hp_l_30, ↓hp_a_31, ↓hp_s_31, ↓hp_l_31, ↓hp_a_32, ↓hp_s_32, ↓hp_l_32, ↓hp_a_33, ↓hp_s_33, ↓hp_l_33, ↓hp_a_34, ↓hp_s_34, ↓hp_l_34, ↓hp_a_35, ↓hp_s_35, ↓hp_l_35, ↓hp_a_36, ↓hp_s_36, ↓hp_l_36, ↓hp_a_37, ↓hp_s_37, ↓hp_l_37, ↓hp_a_38, ↓hp_s_38, ↓hp_l_38, ↓hp_a_39, ↓hp_s_39, ↓hp_a_40, ↓hp_s_40, ↓hp_a_41, ↓hp_s_41, ↓hp_l_41, ↓hp_a_42, ↓hp_s_42, ↓hp_l_42, ↓hp_a_43, ↓hp_s_43, ↓hp_l_43, ↓hp_a_44, ↓hp_s_44, ↓hp_l_44, ↓hp_a_45, ↓hp_s_45, ↓hp_l_45, ↓hp_a_46, ↓hp_s_46, ↓hp_l_46, ↓hp_a_47, ↓hp_s_47, ↓hp_l_47, ↓hp_a_48, ↓hp_s_48, ↓hp_l_48, ↓hp_a_49, ↓hp_s_49, ↓hp_l_49, ↓hp_a_50, ↓hp_s_50, ↓hp_l_50, e1, e2, q1, hah]
      · intro t ht
        rw [w_eq rfl, plc, hq, if_neg Bool.false_ne_true]
        by_cases e : t = p + 1
        · rw [u_eq e, w_eq e]
        · rw [u_ne e, w_ne e]
          exact (h6 t ht e).1
theorem m_rings {XA : Nat → Nat → Int32} {XC : Value} {k n : Nat} (hk : k < 8) (hS : SL l.1 l.2.1 l.2.2.1 l.2.2.2) (hn : n ≤ 60) : ∀ (j i : Nat) (MA : Nat → Nat → Int32), i + j = n → MS MA k l.1 l.2.1 l.2.2.1 l.2.2.2 → (∀ t, t < i → MA 14 t = iO (WN l t)) → (∀ t, t < i → MA 13 t = iO (ords l i t : Int)) →
    ∃ MA', b_X12_rings_1 sc (d + 4) 26 (iO (k : Int)) (iO (n : Int)) (iO (i : Int)) (hp XI XA XP XC MI MA ML D) = some (none, hp XI XA XP XC MI MA' ML D) ∧ (∀ m, m ≠ 13 → m ≠ 14 → MA' m = MA m) ∧ (∀ t, t < n → MA' 14 t = iO (WN l t)) ∧ (∀ t, t < n → MA' 13 t = iO (ords l n t : Int)) := by
  intro j
  induction j with
  | zero =>
    intro i MA hi hM h7 h6
    obtain rfl : i = n := by omega
    refine ⟨MA, ?_, fun _ _ _ => rfl, h7, h6⟩
    rw [eb_X12_rings_1]
    clear h7 h6 hM
    simp (disch := (first | assumption | (unfold i32; omega) | (unfold i64; omega) | omega)) only [↓reduceIte, ki_0, ki_1, ki_2, ki_3, ki_4, ki_5, ki_6, ki_7, ki_8, ki_9, ki_10, ki_11, ki_12, ki_13, ki_14, ki_15, ki_20, ki_21, ki_30, ki_31, ki_40, ki_41, ki_50, ki_51, ki_60, ki_63, ki_64, ki_65, ki_100, ki_158, ki_160, ki_200, ki_212, ki_1000, ki_2000, ki_2001, ki_5000, ki_10000, ki_10001, ki_100000, ki_200000, ki_1000000, ki_2000000, ki_3000000, iO_neg, iO_add, iO_sub, iO_mul, kn_4, kn_8, kn_10, kn_20, kn_24, kn_40, kn_41, kn_50, kn_60, kn_158, kn_160, kn_200, kn_212, kn_2001, tn_lt, fn_lt, tn_le, fn_le, tn_eq, fn_eq, x_lt, x_le, x_eq, x_ix, x_nat, t_lt, f_lt, t_le, f_le, t_eq, f_eq, eq_self, and_self, true_and, and_true, false_and, and_false, if_true, if_false, Int.toNat_natCast, bI_s, bL_s, bA_s, bA_n, bV_s, mq_s, mq_n, en_le, bl_0, bl_1, u_eq, u_ne, w_eq, w_ne, v_eq, v_ne]
  | succ j ih =>
    intro i MA hi hM h7 h6
    have hw := e_mwhole (sc := sc) (n := d + 1) (XI := XI) (XA := XA) (XP := XP) (XC := XC) (MI := MI) (ML := ML) (D0 := D) hk hM hS (N := (i : Int)) (by omega) (by omega)
    have hw : f_X12_wholeOf sc (d + 4) 26 (iO (k : Int)) (iO (i : Int)) (hp XI XA XP XC MI MA ML D) = some (some (.int (iO (WN l i))), hp XI XA XP XC MI MA ML D) := hw
    obtain ⟨p1, p2, p3⟩ := ordr_perm (ah := ahd l) i
    obtain ⟨MA1, f1, f2, f3⟩ := m_ring2 (sc := sc) (d := d + 2) (XI := XI) (XA := XA) (XP := XP) (XC := XC) (MI := MI) (ML := ML) (D := D) (n := n) hk hS (i := i) (by omega) i (ords l i) (va_up MA 14 (upd (MA 14) i (iO (WN l i)))) (Nat.le_refl _) hM (by
      intro t ht
      rw [w_eq rfl]
      by_cases e : t = i
      · rw [u_eq e, e]
      · rw [u_ne e]; exact h7 t (by omega)) (by
      intro t ht hne
      exact ⟨h6 t (by omega), by have := p1 t (by omega); unfold ords; omega⟩)
    obtain ⟨MA', k2, k3, k4, k5⟩ := ih (i + 1) MA1 (by omega) (by
      obtain ⟨q0, q1, q2, q3⟩ := hM
      exact ⟨by rw [f2 0 (by decide)]; exact q0, by rw [f2 1 (by decide)]; exact q1, by rw [f2 2 (by decide)]; exact q2, by rw [f2 3 (by decide)]; exact q3⟩) (by
      intro t ht
      rw [f2 14 (by decide), w_eq rfl]
      by_cases e : t = i
      · rw [u_eq e, e]
      · rw [u_ne e]; exact h7 t (by omega)) (fun t ht => f3 t (by omega))
    refine ⟨MA', ?_, fun m h1 h2 => by rw [k3 m h1 h2, f2 m h1, w_ne h2], k4, k5⟩
    rw [← k2]
    refine Eq.trans ?_ f1
    rw [eb_X12_rings_1]
    clear f1 f2 f3 k2 k3 k4 k5 ih h7 h6 p1 p2 p3 hM
    simp (disch := (first | assumption | (unfold i32; omega) | (unfold i64; omega) | omega)) only [↓reduceIte, ki_0, ki_1, ki_2, ki_3, ki_4, ki_5, ki_6, ki_7, ki_8, ki_9, ki_10, ki_11, ki_12, ki_13, ki_14, ki_15, ki_20, ki_21, ki_30, ki_31, ki_40, ki_41, ki_50, ki_51, ki_60, ki_63, ki_64, ki_65, ki_100, ki_158, ki_160, ki_200, ki_212, ki_1000, ki_2000, ki_2001, ki_5000, ki_10000, ki_10001, ki_100000, ki_200000, ki_1000000, ki_2000000, ki_3000000, iO_neg, iO_add, iO_sub, iO_mul, kn_4, kn_8, kn_10, kn_20, kn_24, kn_40, kn_41, kn_50, kn_60, kn_158, kn_160, kn_200, kn_212, kn_2001, tn_lt, fn_lt, tn_le, fn_le, tn_eq, fn_eq, x_lt, x_le, x_eq, x_ix, x_nat, t_lt, f_lt, t_le, f_le, t_eq, f_eq, eq_self, and_self, true_and, and_true, false_and, and_false, if_true, if_false, Int.toNat_natCast, bI_s, bL_s, bA_s, bA_n, bV_s, mq_s, mq_n, en_le, bl_0, bl_1, u_eq, u_ne, w_eq, w_ne, v_eq, v_ne, ↓hp_cc_26, ↓hp_g_26_0, ↓hp_p_26_0, ↓hp_g_26_1, ↓hp_p_26_1, ↓hp_g_26_2, ↓hp_p_26_2, ↓hp_g_26_3, ↓hp_g_26_4, ↓hp_g_26_5, ↓hp_g_26_6, ↓hp_g_26_7, ↓hp_g_26_8, ↓hp_g_26_9, ↓hp_g_26_10, ↓hp_g_26_11, ↓hp_g_26_12, ↓hp_g_26_13, ↓hp_g_26_14, ↓hp_g_26_15, ↓hp_p_26_15, ↓hp_g_26_16, ↓hp_g_26_17, ↓hp_g_26_18, ↓hp_p_26_18, ↓hp_g_26_19, ↓hp_p_26_19, ↓hp_g_26_20, ↓hp_g_26_21, ↓hp_p_26_21, ↓hp_g_26_22, ↓hp_g_26_23, ↓hp_g_26_24, ↓hp_g_26_25, ↓hp_g_26_26, ↓hp_g_26_27, ↓hp_g_26_28, ↓hp_g_26_29, ↓hp_g_26_30, ↓hp_p_26_30, ↓hp_g_26_31, ↓hp_g_26_32, ↓hp_p_26_32, ↓hp_a_27, ↓hp_s_27, ↓hp_l_27, ↓hp_a_28, ↓hp_s_28, ↓hp_l_28, ↓hp_a_29, ↓hp_s_29, ↓hp_l_29, ↓hp_a_30, ↓hp_s_30, ↓hp_l_30, ↓hp_a_31, ↓hp_s_31, ↓hp_l_31, ↓hp_a_32, ↓hp_s_32, ↓hp_l_32, ↓hp_a_33, ↓hp_s_33, ↓hp_l_33, ↓hp_a_34, ↓hp_s_34, ↓hp_l_34, ↓hp_a_35, ↓hp_s_35, ↓hp_l_35, ↓hp_a_36, ↓hp_s_36, ↓hp_l_36, ↓hp_a_37, ↓hp_s_37, ↓hp_l_37, ↓hp_a_38, ↓hp_s_38, ↓hp_l_38, ↓hp_a_39, ↓hp_s_39, ↓hp_a_40, ↓hp_s_40, ↓hp_a_41, ↓hp_s_41, ↓hp_l_41, ↓hp_a_42, ↓hp_s_42, ↓hp_l_42, ↓hp_a_43, ↓hp_s_43, ↓hp_l_43, ↓hp_a_44, ↓hp_s_44, ↓hp_l_44, ↓hp_a_45, ↓hp_s_45, ↓hp_l_45, ↓hp_a_46, ↓hp_s_46, ↓hp_l_46, ↓hp_a_47, ↓hp_s_47, ↓hp_l_47, ↓hp_a_48, ↓hp_s_48, ↓hp_l_48, ↓hp_a_49, ↓hp_s_49, ↓hp_l_49, ↓hp_a_50, ↓hp_s_50, ↓hp_l_50, hw]
    try rfl
end RNG
