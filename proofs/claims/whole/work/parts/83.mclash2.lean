/-! THE CLASH: the model's two outer loops -/
section MCM
variable {sc : en_S} {d : Nat} {XI : Nat → Int32} {XA : Nat → Nat → Int32} {XP : Nat → Nat → Option Nat} {XC : Value} {MI : Nat → Int32} {MA : Nat → Nat → Int32} {ML : Nat → Nat → Int64} {D : en_H} {r fr n : Nat} {f : Nat → Int}
theorem m_cl2 (hr : r < 10) (hn : n ≤ 40) (hfr : fr + n ≤ 10001) (hf : ∀ i, i < fr + n → MA 7 (10001 * r + i) = iO (f i)) (hb : ∀ a k, fr + a + k ≤ fr + n → 0 ≤ ssum f (fr + a) k ∧ ssum f (fr + a) k ≤ 10000) {k : Nat} (hk : 1 ≤ k) : ∀ (j a : Nat), a + k + j = n + 1 → b_X12_clashOf_2 sc (d + 1) 26 (iO (r : Nat)) (iO (fr : Nat)) (iO (n : Nat)) (iO (k : Nat)) (iO (a : Nat)) (hp XI XA XP XC MI MA ML D) = (match cl2 (fun a k => ssum f (fr + a) k) n k j a with
    | some c => some (some (Value.int (iO c)), hp XI XA XP XC MI MA ML D)
    | none => b_X12_clashOf_1 sc (d + 1) 26 (iO (r : Nat)) (iO (fr : Nat)) (iO (n : Nat)) (iO ((k + 1 : Nat) : Int)) (hp XI XA XP XC MI MA ML D)) := by
  intro j
  induction j with
  | zero =>
    intro a ha
    rw [eb_X12_clashOf_2, cl2]
    clear hf hb
    simp (disch := (first | assumption | (unfold i32; omega) | (unfold i64; omega) | omega)) only [ki_0, ki_1, ki_2, ki_3, ki_4, ki_5, ki_6, ki_7, ki_8, ki_9, ki_10, ki_11, ki_12, ki_13, ki_14, ki_15, ki_20, ki_21, ki_30, ki_31, ki_40, ki_41, ki_50, ki_51, ki_60, ki_63, ki_64, ki_65, ki_100, ki_158, ki_160, ki_200, ki_212, ki_1000, ki_2000, ki_2001, ki_5000, ki_10000, ki_10001, ki_100000, ki_200000, ki_1000000, ki_2000000, ki_3000000, iO_neg, iO_add, iO_sub, iO_mul, kn_4, kn_8, kn_10, kn_20, kn_24, kn_40, kn_41, kn_50, kn_60, kn_158, kn_160, kn_200, kn_212, kn_2001, tn_lt, fn_lt, tn_le, fn_le, tn_eq, fn_eq, x_lt, x_le, x_eq, x_ix, x_nat, t_lt, f_lt, t_le, f_le, t_eq, f_eq, eq_self, and_self, true_and, and_true, false_and, and_false, if_true, if_false, Int.toNat_natCast, bI_s, bL_s, bA_s, bA_n, bV_s, mq_s, mq_n, en_le, bl_0, bl_1, u_eq, u_ne, w_eq, w_ne, v_eq, v_ne]
    rfl
  | succ j ih =>
    intro a ha
    have h3 := m_cl3 (sc := sc) (d := d) (XI := XI) (XA := XA) (XP := XP) (XC := XC) (MI := MI) (MA := MA) (ML := ML) (D := D) (r := r) (fr := fr) (n := n) (f := f) hr hn hfr hf hb hk (a := a) (by omega) (n - k - a) (a + 1) (by omega) (by omega)
    have ih' := ih (a + 1) (by omega)
    rw [ih'] at h3
    rw [eb_X12_clashOf_2, cl2]
    have e : (b_X12_clashOf_3 sc (d + 1) 26 (iO (r : Nat)) (iO (fr : Nat)) (iO (n : Nat)) (iO (k : Nat)) (iO (a : Nat)) (iO ((a + 1 : Nat) : Int)) (hp XI XA XP XC MI MA ML D)) = (match (match cl3 (fun a k => ssum f (fr + a) k) k a (n - k - a) (a + 1) with
      | some c => some c
      | none => cl2 (fun a k => ssum f (fr + a) k) n k j (a + 1)) with
      | some c => some (some (Value.int (iO c)), hp XI XA XP XC MI MA ML D)
      | none => b_X12_clashOf_1 sc (d + 1) 26 (iO (r : Nat)) (iO (fr : Nat)) (iO (n : Nat)) (iO ((k + 1 : Nat) : Int)) (hp XI XA XP XC MI MA ML D)) := by
      rw [h3]
      cases cl3 (fun a k => ssum f (fr + a) k) k a (n - k - a) (a + 1) <;> rfl
    refine Eq.trans ?_ e
    clear h3 ih ih' e hf hb
    simp (disch := (first | assumption | (unfold i32; omega) | (unfold i64; omega) | omega)) only [ki_0, ki_1, ki_2, ki_3, ki_4, ki_5, ki_6, ki_7, ki_8, ki_9, ki_10, ki_11, ki_12, ki_13, ki_14, ki_15, ki_20, ki_21, ki_30, ki_31, ki_40, ki_41, ki_50, ki_51, ki_60, ki_63, ki_64, ki_65, ki_100, ki_158, ki_160, ki_200, ki_212, ki_1000, ki_2000, ki_2001, ki_5000, ki_10000, ki_10001, ki_100000, ki_200000, ki_1000000, ki_2000000, ki_3000000, iO_neg, iO_add, iO_sub, iO_mul, kn_4, kn_8, kn_10, kn_20, kn_24, kn_40, kn_41, kn_50, kn_60, kn_158, kn_160, kn_200, kn_212, kn_2001, tn_lt, fn_lt, tn_le, fn_le, tn_eq, fn_eq, x_lt, x_le, x_eq, x_ix, x_nat, t_lt, f_lt, t_le, f_le, t_eq, f_eq, eq_self, and_self, true_and, and_true, false_and, and_false, if_true, if_false, Int.toNat_natCast, bI_s, bL_s, bA_s, bA_n, bV_s, mq_s, mq_n, en_le, bl_0, bl_1, u_eq, u_ne, w_eq, w_ne, v_eq, v_ne]
    rfl
theorem m_cl1 (hr : r < 10) (hn : n ≤ 40) (hfr : fr + n ≤ 10001) (hf : ∀ i, i < fr + n → MA 7 (10001 * r + i) = iO (f i)) (hb : ∀ a k, fr + a + k ≤ fr + n → 0 ≤ ssum f (fr + a) k ∧ ssum f (fr + a) k ≤ 10000) : ∀ (j k : Nat), k + j = n + 1 → 1 ≤ k → b_X12_clashOf_1 sc (d + 1) 26 (iO (r : Nat)) (iO (fr : Nat)) (iO (n : Nat)) (iO (k : Nat)) (hp XI XA XP XC MI MA ML D) = some (some (Value.int (iO ((cl1 (fun a k => ssum f (fr + a) k) n j k).getD (-1)))), hp XI XA XP XC MI MA ML D) := by
  intro j
  induction j with
  | zero =>
    intro k hk1 hk
    rw [eb_X12_clashOf_1, cl1]
    clear hf hb
    simp (disch := (first | assumption | (unfold i32; omega) | (unfold i64; omega) | omega)) only [ki_0, ki_1, ki_2, ki_3, ki_4, ki_5, ki_6, ki_7, ki_8, ki_9, ki_10, ki_11, ki_12, ki_13, ki_14, ki_15, ki_20, ki_21, ki_30, ki_31, ki_40, ki_41, ki_50, ki_51, ki_60, ki_63, ki_64, ki_65, ki_100, ki_158, ki_160, ki_200, ki_212, ki_1000, ki_2000, ki_2001, ki_5000, ki_10000, ki_10001, ki_100000, ki_200000, ki_1000000, ki_2000000, ki_3000000, iO_neg, iO_add, iO_sub, iO_mul, kn_4, kn_8, kn_10, kn_20, kn_24, kn_40, kn_41, kn_50, kn_60, kn_158, kn_160, kn_200, kn_212, kn_2001, tn_lt, fn_lt, tn_le, fn_le, tn_eq, fn_eq, x_lt, x_le, x_eq, x_ix, x_nat, t_lt, f_lt, t_le, f_le, t_eq, f_eq, eq_self, and_self, true_and, and_true, false_and, and_false, if_true, if_false, Int.toNat_natCast, bI_s, bL_s, bA_s, bA_n, bV_s, mq_s, mq_n, en_le, bl_0, bl_1, u_eq, u_ne, w_eq, w_ne, v_eq, v_ne]
    rfl
  | succ j ih =>
    intro k hk1 hk
    have h2 := m_cl2 (sc := sc) (d := d) (XI := XI) (XA := XA) (XP := XP) (XC := XC) (MI := MI) (MA := MA) (ML := ML) (D := D) (r := r) (fr := fr) (n := n) (f := f) hr hn hfr hf hb hk (n + 1 - k) 0 (by omega)
    have ih' := ih (k + 1) (by omega) (by omega)
    rw [ih'] at h2
    rw [eb_X12_clashOf_1, cl1]
    have e : (b_X12_clashOf_2 sc (d + 1) 26 (iO (r : Nat)) (iO (fr : Nat)) (iO (n : Nat)) (iO (k : Nat)) (iO ((0 : Nat) : Int)) (hp XI XA XP XC MI MA ML D)) = some (some (Value.int (iO ((match cl2 (fun a k => ssum f (fr + a) k) n k (n + 1 - k) 0 with
      | some c => some c
      | none => cl1 (fun a k => ssum f (fr + a) k) n j (k + 1)).getD (-1)))), hp XI XA XP XC MI MA ML D) := by
      rw [h2]
      cases cl2 (fun a k => ssum f (fr + a) k) n k (n + 1 - k) 0 <;> rfl
    refine Eq.trans ?_ e
    clear h2 ih ih' e hf hb
    simp (disch := (first | assumption | (unfold i32; omega) | (unfold i64; omega) | omega)) only [ki_0, ki_1, ki_2, ki_3, ki_4, ki_5, ki_6, ki_7, ki_8, ki_9, ki_10, ki_11, ki_12, ki_13, ki_14, ki_15, ki_20, ki_21, ki_30, ki_31, ki_40, ki_41, ki_50, ki_51, ki_60, ki_63, ki_64, ki_65, ki_100, ki_158, ki_160, ki_200, ki_212, ki_1000, ki_2000, ki_2001, ki_5000, ki_10000, ki_10001, ki_100000, ki_200000, ki_1000000, ki_2000000, ki_3000000, iO_neg, iO_add, iO_sub, iO_mul, kn_4, kn_8, kn_10, kn_20, kn_24, kn_40, kn_41, kn_50, kn_60, kn_158, kn_160, kn_200, kn_212, kn_2001, tn_lt, fn_lt, tn_le, fn_le, tn_eq, fn_eq, x_lt, x_le, x_eq, x_ix, x_nat, t_lt, f_lt, t_le, f_le, t_eq, f_eq, eq_self, and_self, true_and, and_true, false_and, and_false, if_true, if_false, Int.toNat_natCast, bI_s, bL_s, bA_s, bA_n, bV_s, mq_s, mq_n, en_le, bl_0, bl_1, u_eq, u_ne, w_eq, w_ne, v_eq, v_ne]
    rfl
theorem m_clashOf (hr : r < 10) (hn : n ≤ 40) (hfr : fr + n ≤ 10001) (hf : ∀ i, i < fr + n → MA 7 (10001 * r + i) = iO (f i)) (hb : ∀ a k, fr + a + k ≤ fr + n → 0 ≤ ssum f (fr + a) k ∧ ssum f (fr + a) k ≤ 10000) : f_X12_clashOf sc (d + 2) 26 (iO (r : Nat)) (iO (fr : Nat)) (iO (n : Nat)) (hp XI XA XP XC MI MA ML D) = some (some (Value.int (iO ((cl1 (fun a k => ssum f (fr + a) k) n n 1).getD (-1)))), hp XI XA XP XC MI MA ML D) := by
  rw [e_X12_clashOf, ← m_cl1 (sc := sc) (d := d) (XI := XI) (XA := XA) (XP := XP) (XC := XC) (MI := MI) (MA := MA) (ML := ML) (D := D) hr hn hfr hf hb n 1 (by omega) (by omega)]
  rfl
end MCM
