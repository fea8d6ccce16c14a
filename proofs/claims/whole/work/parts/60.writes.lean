/-! EVEN ROWS: their wholes; the model writes them -/
section EWP
variable {s : SL4} {u v : Int}
theorem EW_iff (hS : SL s.1 s.2.1 s.2.2.1 s.2.2.2) (hv : 1 ≤ v) {N k : Int} : nn (v * N * s.1 + u * s.2.2.1 - k * (s.2.2.1 * v)) (v * N * s.2.1) s.2.2.2 ↔ k ≤ EW s u v N := by
  unfold EW
  refine whl_iff hS.dpos ?_ (Int.mul_pos hS.cpos (by omega))
  rw [Int.mul_comm]
  exact hS.hn
theorem EW_lo (hS : SL s.1 s.2.1 s.2.2.1 s.2.2.2) (hv : 1 ≤ v) (hu : 0 ≤ u) {N : Int} (hN : 0 ≤ N) : 0 ≤ EW s u v N := by
  rw [← EW_iff hS hv]
  have h1 := nn_mul (N := v * N) (Int.mul_nonneg (by omega) hN) hS.nn0
  have h2 := nn_up (by have := hS.dpos; omega) h1 (e := u * s.2.2.1) (Int.mul_nonneg hu (by have := hS.cpos; omega))
  rwa [Int.mul_comm s.1, Int.mul_comm s.2.1, ← show v * N * s.1 + u * s.2.2.1 - 0 * (s.2.2.1 * v) = v * N * s.1 + u * s.2.2.1 by rw [Int.zero_mul, Int.sub_zero]] at h2
theorem EW_hi (hS : SL s.1 s.2.1 s.2.2.1 s.2.2.2) (hv : 1 ≤ v) (hu2 : u < v) {N : Int} (hN : 0 ≤ N) : EW s u v N ≤ 20 * N := by
  rcases Int.lt_or_le (20 * N) (EW s u v N) with g | g
  · exfalso
    have hd := hS.dpos
    have hc := hS.cpos
    have h1 := (EW_iff hS hv (u := u) (N := N) (k := 20 * N + 1)).mpr (by omega)
    have h2 := nn_mul (N := v * N) (Int.mul_nonneg (by omega) hN) hS.nn20
    have h3 := nn_add (by omega) h1 h2
    have e1 : v * N * s.1 + u * s.2.2.1 - (20 * N + 1) * (s.2.2.1 * v) + (20 * s.2.2.1 - s.1) * (v * N) = -((v - u) * s.2.2.1) := by grind
    have e2 : v * N * s.2.1 + -s.2.1 * (v * N) = 0 := by grind
    rw [e1, e2] at h3
    exact nn_no (Int.mul_pos (by omega) hc) (by omega) h3
  · exact g
theorem EW_mono (hS : SL s.1 s.2.1 s.2.2.1 s.2.2.2) (hv : 1 ≤ v) (N : Int) : EW s u v N ≤ EW s u v (N + 1) ∧ EW s u v (N + 1) ≤ EW s u v N + 21 := by
  have hd := hS.dpos
  have hc := hS.cpos
  constructor
  · rw [← EW_iff hS hv]
    have h1 := (EW_iff hS hv (u := u) (N := N) (k := EW s u v N)).mpr (Int.le_refl _)
    have h2 := nn_mul (N := v) (by omega) hS.nn0
    have h3 := nn_add (by omega) h1 h2
    have e1 : v * N * s.1 + u * s.2.2.1 - EW s u v N * (s.2.2.1 * v) + s.1 * v = v * (N + 1) * s.1 + u * s.2.2.1 - EW s u v N * (s.2.2.1 * v) := by grind
    have e2 : v * N * s.2.1 + s.2.1 * v = v * (N + 1) * s.2.1 := by grind
    rwa [e1, e2] at h3
  · rcases Int.lt_or_le (EW s u v N + 21) (EW s u v (N + 1)) with g | g
    · exfalso
      have h1 := (EW_iff hS hv (u := u) (N := N + 1) (k := EW s u v N + 22)).mpr (by omega)
      have h2 := nn_mul (N := v) (by omega) hS.nn20
      have h3 := nn_add (by omega) h1 h2
      have e1 : v * (N + 1) * s.1 + u * s.2.2.1 - (EW s u v N + 22) * (s.2.2.1 * v) + (20 * s.2.2.1 - s.1) * v = v * N * s.1 + u * s.2.2.1 - (EW s u v N + 2) * (s.2.2.1 * v) := by grind
      have e2 : v * (N + 1) * s.2.1 + -s.2.1 * v = v * N * s.2.1 := by grind
      rw [e1, e2, EW_iff hS hv] at h3
      omega
    · exact g
theorem evs_bd (hS : SL s.1 s.2.1 s.2.2.1 s.2.2.2) (hv : 1 ≤ v) (i : Nat) : 0 ≤ evs s u v i ∧ evs s u v i ≤ 100 := by
  have := EW_mono (u := u) hS hv (i : Int)
  unfold evs
  rw [show ((i + 1 : Nat) : Int) = (i : Int) + 1 by omega]
  omega
theorem EW_0 (hS : SL s.1 s.2.1 s.2.2.1 s.2.2.2) (hv : 1 ≤ v) (hu : 0 ≤ u) (hu2 : u < v) : EW s u v 0 = 0 := by
  have h1 := EW_lo hS hv hu (N := 0) (by omega)
  have h2 := EW_hi hS hv hu2 (N := 0) (by omega)
  omega
end EWP
section WRT
variable {sc : en_S} {n : Nat} {XI : Nat → Int32} {XA : Nat → Nat → Int32} {XP : Nat → Nat → Option Nat} {XC : Value} {MI : Nat → Int32} {MA : Nat → Nat → Int32} {ML : Nat → Nat → Int64} {D : en_H} {s : SL4} {u v : Int} {R : Nat}
theorem m_writes2 (hS : SL s.1 s.2.1 s.2.2.1 s.2.2.2) (hv : 1 ≤ v) (hv2 : v ≤ 100) (hu : 0 ≤ u) (hu2 : u < v) (hR : R < 10) (hMI : MI 1 = iO (R : Nat)) {N : Nat} (hN : 1 ≤ N) (hN2 : N ≤ 10001) : ∀ (j : Nat) (k st : Int), 0 ≤ k → k + j = EW s u v N →
    b_X12_writes_2 sc (n + 1) 26 (lO s.1) (lO s.2.1) (lO s.2.2.1) (lO s.2.2.2) (lO u) (lO v) (lO k) (iO (N : Nat)) (lO (v * N * s.1 + u * s.2.2.1)) (lO (v * N * s.2.1)) (iO st) (hp XI XA XP XC MI MA ML D)
    = b_X12_writes_1 sc (n + 1) 26 (lO s.1) (lO s.2.1) (lO s.2.2.1) (lO s.2.2.2) (lO u) (lO v) (lO (EW s u v N)) (iO ((N : Int) + 1)) (hp XI XA XP XC MI (va_up MA 7 (upd (MA 7) (10001 * R + (N - 1)) (iO (st + j)))) ML D) := by
  obtain ⟨A1, A2, B1, B2, C1, C2, D1, D2, -⟩ := id hS
  have hE1 := EW_lo (u := u) hS hv hu (N := N) (by omega)
  have hE2 := EW_hi hS hv hu2 (N := N) (by omega)
  have vN := mul_le_mul' (a := v) (b := 100) (c := (N : Int)) (d := 10001) (by omega) hv2 (by omega) (by omega)
  have vN0 : 0 ≤ v * N := Int.mul_nonneg (by omega) (by omega)
  have t1 := mul_bd (x := s.1) (y := v * N) (a := 1000) (b := 1000100) (by omega) (by omega) vN0 (by omega)
  have t2 := mul_bd (x := s.2.1) (y := v * N) (a := 20) (b := 1000100) (by omega) (by omega) vN0 (by omega)
  have t3 := mul_bd (x := u) (y := s.2.2.1) (a := 100) (b := 100) (by omega) (by omega) (by omega) (by omega)
  have t4 := mul_le_mul' (a := s.2.2.1) (b := 100) (c := v) (d := 100) (by omega) C2 (by omega) hv2
  have t40 := Int.mul_pos (show 0 < s.2.2.1 by omega) (show 0 < v by omega)
  rw [Int.mul_comm s.1] at t1
  rw [Int.mul_comm s.2.1] at t2
  have s2 := sq_bd (x := v * N * s.2.1) (K := 20002000) (by omega) (by omega)
  have s3 := mul_bd (x := v * N * s.2.1 * (v * N * s.2.1)) (y := s.2.2.2) (a := 400080004000000) (b := 50) (by omega) (by omega) (by omega) D2
  have key : ∀ k : Int, 0 ≤ k → k ≤ EW s u v N → (f_X12_sign sc (n + 1) (lO (v * N * s.1 + u * s.2.2.1 - (k + 1) * s.2.2.1 * v)) (lO (v * N * s.2.1)) (lO s.2.2.2) (hp XI XA XP XC MI MA ML D) = some (some (.int (iO (sg (v * N * s.1 + u * s.2.2.1 - (k + 1) * s.2.2.1 * v) (v * N * s.2.1) s.2.2.2))), hp XI XA XP XC MI MA ML D)) ∧ (0 ≤ sg (v * N * s.1 + u * s.2.2.1 - (k + 1) * s.2.2.1 * v) (v * N * s.2.1) s.2.2.2 ↔ k + 1 ≤ EW s u v N) := by
    intro k k1 k2
    have t5 := mul_bd (x := k + 1) (y := s.2.2.1 * v) (a := 200022) (b := 10000) (by omega) (by omega) (by omega) (by omega)
    have s1 := sq_bd (x := v * N * s.1 + u * s.2.2.1 - (k + 1) * (s.2.2.1 * v)) (K := 3000330000) (by omega) (by omega)
    rw [Int.mul_assoc (k + 1)]
    exact ⟨e_sign (by unfold i64; omega) (by unfold i64; omega) (by unfold i64; omega) (by unfold i64; omega), (sg_nn hS.dpos).trans (EW_iff hS hv)⟩
  clear s2 s3 t1 t2 t3 t4 t40 vN vN0
  intro j
  induction j with
  | zero =>
    intro k st k0 hk
    obtain ⟨q1, q2⟩ := key k k0 (by omega)
    have r := sg_range (v * N * s.1 + u * s.2.2.1 - (k + 1) * s.2.2.1 * v) (v * N * s.2.1) s.2.2.2
    rw [eb_X12_writes_2, kl_1, lO_add, lO_mul, lO_mul, lO_sub, q1]
    generalize sg (v * N * s.1 + u * s.2.2.1 - (k + 1) * s.2.2.1 * v) (v * N * s.2.1) s.2.2.2 = x at *
    have hx : x < 0 := by omega
    have : i32 x := by unfold i32; omega
    obtain rfl : k = EW s u v N := by omega
    clear q2 r key
    simp (disch := (first | assumption | (unfold i32; omega) | (unfold i64; omega) | omega)) only [ki_0, ki_1, ki_2, ki_3, ki_4, ki_5, ki_6, ki_7, ki_8, ki_9, ki_10, ki_11, ki_12, ki_13, ki_14, ki_15, ki_20, ki_21, ki_30, ki_31, ki_40, ki_41, ki_50, ki_51, ki_60, ki_63, ki_64, ki_65, ki_100, ki_158, ki_160, ki_200, ki_212, ki_1000, ki_2000, ki_2001, ki_5000, ki_10000, ki_10001, ki_100000, ki_200000, ki_1000000, ki_2000000, ki_3000000, iO_neg, iO_add, iO_sub, iO_mul, kn_4, kn_8, kn_10, kn_20, kn_24, kn_40, kn_41, kn_50, kn_60, kn_158, kn_160, kn_200, kn_212, kn_2001, tn_lt, fn_lt, tn_le, fn_le, tn_eq, fn_eq, x_lt, x_le, x_eq, x_ix, x_nat, t_lt, f_lt, t_le, f_le, t_eq, f_eq, eq_self, and_self, true_and, and_true, false_and, and_false, if_true, if_false, Int.toNat_natCast, bI_s, bL_s, bA_s, bA_n, bV_s, mq_s, mq_n, en_le, bl_0, bl_1, u_eq, u_ne, w_eq, w_ne, v_eq, v_ne, hp_cc_26, hp_g_26_0, hp_p_26_0, hp_g_26_1, hp_p_26_1, hp_g_26_2, hp_p_26_2, hp_g_26_3, hp_g_26_4, hp_g_26_5, hp_g_26_6, hp_g_26_7, hp_g_26_8, hp_g_26_9, hp_g_26_10, hp_g_26_11, hp_g_26_12, hp_g_26_13, hp_g_26_14, hp_g_26_15, hp_p_26_15, hp_g_26_16, hp_g_26_17, hp_g_26_18, hp_p_26_18, hp_g_26_19, hp_p_26_19, hp_g_26_20, hp_g_26_21, hp_p_26_21, hp_g_26_22, hp_g_26_23, hp_g_26_24, hp_g_26_25, hp_g_26_26, hp_g_26_27, hp_g_26_28, hp_g_26_29, hp_g_26_30, hp_p_26_30, hp_g_26_31, hp_g_26_32, hp_p_26_32, hp_a_27, hp_s_27, hp_l_27, hp_a_28, hp_s_28, hp_l_28, hp_a_29, hp_s_29, hp_l_29, hp_a_30, hp_s_30, hp_l_30, hp_a_31, hp_s_31, hp_l_31, hp_a_32, hp_s_32, hp_l_32, hp_a_33, hp_s_33, hp_l_33, hp_a_34, hp_s_34, hp_l_34, hp_a_35, hp_s_35, hp_l_35, hp_a_36, hp_s_36, hp_l_36, hp_a_37, hp_s_37, hp_l_37, hp_a_38, hp_s_38, hp_l_38, hp_a_39, hp_s_39, hp_a_40, hp_s_40, hp_a_41, hp_s_41, hp_l_41, hp_a_42, hp_s_42, hp_l_42, hp_a_43, hp_s_43, hp_l_43, hp_a_44, hp_s_44, hp_l_44, hp_a_45, hp_s_45, hp_l_45, hp_a_46, hp_s_46, hp_l_46, hp_a_47, hp_s_47, hp_l_47, hp_a_48, hp_s_48, hp_l_48, hp_a_49, hp_s_49, hp_l_49, hp_a_50, hp_s_50, hp_l_50, hMI]
    rw [show (10001 * (R : Int) + (N : Int) - 1).toNat = 10001 * R + (N - 1) by omega, show st + ((0 : Nat) : Int) = st by omega]
  | succ j ih =>
    intro k st k0 hk
    obtain ⟨q1, q2⟩ := key k k0 (by omega)
    have r := sg_range (v * N * s.1 + u * s.2.2.1 - (k + 1) * s.2.2.1 * v) (v * N * s.2.1) s.2.2.2
    rw [eb_X12_writes_2, kl_1, lO_add, lO_mul, lO_mul, lO_sub, q1]
    generalize sg (v * N * s.1 + u * s.2.2.1 - (k + 1) * s.2.2.1 * v) (v * N * s.2.1) s.2.2.2 = x at *
    have hx : 0 ≤ x := by omega
    have : i32 x := by unfold i32; omega
    have := ih (k + 1) (st + 1) (by omega) (by omega)
    rw [show st + 1 + (j : Int) = st + ((j + 1 : Nat) : Int) by omega] at this
    rw [← this]
    clear q2 r key
    simp (disch := (first | assumption | (unfold i32; omega) | (unfold i64; omega) | omega)) only [ki_0, ki_1, ki_2, ki_3, ki_4, ki_5, ki_6, ki_7, ki_8, ki_9, ki_10, ki_11, ki_12, ki_13, ki_14, ki_15, ki_20, ki_21, ki_30, ki_31, ki_40, ki_41, ki_50, ki_51, ki_60, ki_63, ki_64, ki_65, ki_100, ki_158, ki_160, ki_200, ki_212, ki_1000, ki_2000, ki_2001, ki_5000, ki_10000, ki_10001, ki_100000, ki_200000, ki_1000000, ki_2000000, ki_3000000, iO_neg, iO_add, iO_sub, iO_mul, kn_4, kn_8, kn_10, kn_20, kn_24, kn_40, kn_41, kn_50, kn_60, kn_158, kn_160, kn_200, kn_212, kn_2001, tn_lt, fn_lt, tn_le, fn_le, tn_eq, fn_eq, x_lt, x_le, x_eq, x_ix, x_nat, t_lt, f_lt, t_le, f_le, t_eq, f_eq, eq_self, and_self, true_and, and_true, false_and, and_false, if_true, if_false, Int.toNat_natCast, bI_s, bL_s, bA_s, bA_n, bV_s, mq_s, mq_n, en_le, bl_0, bl_1, u_eq, u_ne, w_eq, w_ne, v_eq, v_ne]
theorem m_writes1 (hS : SL s.1 s.2.1 s.2.2.1 s.2.2.2) (hv : 1 ≤ v) (hv2 : v ≤ 100) (hu : 0 ≤ u) (hu2 : u < v) (hR : R < 10) (hMI : MI 1 = iO (R : Nat)) : ∀ (j N : Nat) (MA : Nat → Nat → Int32), N + j = 10001 → ∃ MA', b_X12_writes_1 sc (n + 1) 26 (lO s.1) (lO s.2.1) (lO s.2.2.1) (lO s.2.2.2) (lO u) (lO v) (lO (EW s u v N)) (iO ((N : Int) + 1)) (hp XI XA XP XC MI MA ML D) = some (none, hp XI XA XP XC MI MA' ML D) ∧ MA' 5 = upd (MA 5) R (iO 10001) ∧ (∀ m, m ≠ 5 → m ≠ 7 → MA' m = MA m) ∧ (∀ i, i < 10001 * R + N → MA' 7 i = MA 7 i) ∧ (∀ i, N ≤ i → i < 10001 → MA' 7 (10001 * R + i) = iO (evs s u v i)) := by
  intro j
  induction j with
  | zero =>
    intro N MA hN
    obtain rfl : N = 10001 := by omega
    refine ⟨va_up MA 5 (upd (MA 5) R (iO 10001)), ?_, rfl, fun m h _ => w_ne h, fun i _ => rfl, fun i h1 h2 => by omega⟩
    rw [eb_X12_writes_1]
    simp (disch := (first | assumption | (unfold i32; omega) | (unfold i64; omega) | omega)) only [ki_0, ki_1, ki_2, ki_3, ki_4, ki_5, ki_6, ki_7, ki_8, ki_9, ki_10, ki_11, ki_12, ki_13, ki_14, ki_15, ki_20, ki_21, ki_30, ki_31, ki_40, ki_41, ki_50, ki_51, ki_60, ki_63, ki_64, ki_65, ki_100, ki_158, ki_160, ki_200, ki_212, ki_1000, ki_2000, ki_2001, ki_5000, ki_10000, ki_10001, ki_100000, ki_200000, ki_1000000, ki_2000000, ki_3000000, iO_neg, iO_add, iO_sub, iO_mul, kn_4, kn_8, kn_10, kn_20, kn_24, kn_40, kn_41, kn_50, kn_60, kn_158, kn_160, kn_200, kn_212, kn_2001, tn_lt, fn_lt, tn_le, fn_le, tn_eq, fn_eq, x_lt, x_le, x_eq, x_ix, x_nat, t_lt, f_lt, t_le, f_le, t_eq, f_eq, eq_self, and_self, true_and, and_true, false_and, and_false, if_true, if_false, Int.toNat_natCast, bI_s, bL_s, bA_s, bA_n, bV_s, mq_s, mq_n, en_le, bl_0, bl_1, u_eq, u_ne, w_eq, w_ne, v_eq, v_ne, hp_cc_26, hp_g_26_0, hp_p_26_0, hp_g_26_1, hp_p_26_1, hp_g_26_2, hp_p_26_2, hp_g_26_3, hp_g_26_4, hp_g_26_5, hp_g_26_6, hp_g_26_7, hp_g_26_8, hp_g_26_9, hp_g_26_10, hp_g_26_11, hp_g_26_12, hp_g_26_13, hp_g_26_14, hp_g_26_15, hp_p_26_15, hp_g_26_16, hp_g_26_17, hp_g_26_18, hp_p_26_18, hp_g_26_19, hp_p_26_19, hp_g_26_20, hp_g_26_21, hp_p_26_21, hp_g_26_22, hp_g_26_23, hp_g_26_24, hp_g_26_25, hp_g_26_26, hp_g_26_27, hp_g_26_28, hp_g_26_29, hp_g_26_30, hp_p_26_30, hp_g_26_31, hp_g_26_32, hp_p_26_32, hp_a_27, hp_s_27, hp_l_27, hp_a_28, hp_s_28, hp_l_28, hp_a_29, hp_s_29, hp_l_29, hp_a_30, hp_s_30, hp_l_30, hp_a_31, hp_s_31, hp_l_31, hp_a_32, hp_s_32, hp_l_32, hp_a_33, hp_s_33, hp_l_33, hp_a_34, hp_s_34, hp_l_34, hp_a_35, hp_s_35, hp_l_35, hp_a_36, hp_s_36, hp_l_36, hp_a_37, hp_s_37, hp_l_37, hp_a_38, hp_s_38, hp_l_38, hp_a_39, hp_s_39, hp_a_40, hp_s_40, hp_a_41, hp_s_41, hp_l_41, hp_a_42, hp_s_42, hp_l_42, hp_a_43, hp_s_43, hp_l_43, hp_a_44, hp_s_44, hp_l_44, hp_a_45, hp_s_45, hp_l_45, hp_a_46, hp_s_46, hp_l_46, hp_a_47, hp_s_47, hp_l_47, hp_a_48, hp_s_48, hp_l_48, hp_a_49, hp_s_49, hp_l_49, hp_a_50, hp_s_50, hp_l_50, hMI]
  | succ j ih =>
    intro N MA hN
    have hm := EW_mono (u := u) hS hv (N : Int)
    have hlo := EW_lo (u := u) hS hv hu (N := N) (by omega)
    obtain ⟨q, hq⟩ : ∃ q : Nat, EW s u v N + q = EW s u v ((N + 1 : Nat) : Int) := ⟨(EW s u v ((N + 1 : Nat) : Int) - EW s u v N).toNat, by rw [show ((N + 1 : Nat) : Int) = (N : Int) + 1 by omega]; omega⟩
    have h2 := m_writes2 (sc := sc) (n := n) (XI := XI) (XA := XA) (XP := XP) (XC := XC) (MA := MA) (ML := ML) (D := D) hS hv hv2 hu hu2 hR hMI (N := N + 1) (by omega) (by omega) q (EW s u v N) 0 hlo hq
    obtain ⟨MA', f1, f2, f3, f4, f5⟩ := ih (N + 1) (va_up MA 7 (upd (MA 7) (10001 * R + (N + 1 - 1)) (iO (0 + q)))) (by omega)
    refine ⟨MA', ?_, f2, ?_, ?_, ?_⟩
    · rw [← f1, ← h2, eb_X12_writes_1]
      have hw : (iO ((N : Int) + 1)).toInt64 = lO ((N + 1 : Nat) : Int) := iO_wide (by unfold i32; omega)
      simp (disch := (first | assumption | (unfold i32; omega) | (unfold i64; omega) | omega)) only [ki_0, ki_1, ki_2, ki_3, ki_4, ki_5, ki_6, ki_7, ki_8, ki_9, ki_10, ki_11, ki_12, ki_13, ki_14, ki_15, ki_20, ki_21, ki_30, ki_31, ki_40, ki_41, ki_50, ki_51, ki_60, ki_63, ki_64, ki_65, ki_100, ki_158, ki_160, ki_200, ki_212, ki_1000, ki_2000, ki_2001, ki_5000, ki_10000, ki_10001, ki_100000, ki_200000, ki_1000000, ki_2000000, ki_3000000, iO_neg, iO_add, iO_sub, iO_mul, kn_4, kn_8, kn_10, kn_20, kn_24, kn_40, kn_41, kn_50, kn_60, kn_158, kn_160, kn_200, kn_212, kn_2001, tn_lt, fn_lt, tn_le, fn_le, tn_eq, fn_eq, x_lt, x_le, x_eq, x_ix, x_nat, t_lt, f_lt, t_le, f_le, t_eq, f_eq, eq_self, and_self, true_and, and_true, false_and, and_false, if_true, if_false, Int.toNat_natCast, bI_s, bL_s, bA_s, bA_n, bV_s, mq_s, mq_n, en_le, bl_0, bl_1, u_eq, u_ne, w_eq, w_ne, v_eq, v_ne, hw, lO_mul, lO_add]
      rfl
    · intro m h5 h7
      rw [f3 m h5 h7, w_ne h7]
    · intro i hi
      rw [f4 i (by omega), w_eq rfl, u_ne (by omega)]
    · intro i h1 h3
      by_cases e : i = N
      · subst e
        rw [f4 _ (by omega), w_eq rfl, u_eq (by omega)]
        congr 1
        unfold evs
        omega
      · exact f5 i (by omega) h3
theorem m_writes (hS : SL s.1 s.2.1 s.2.2.1 s.2.2.2) (hv : 1 ≤ v) (hv2 : v ≤ 100) (hu : 0 ≤ u) (hu2 : u < v) (hR : R < 10) (hMI : MI 1 = iO (R : Nat)) : ∃ MA', f_X12_writes sc (n + 2) 26 (lO s.1) (lO s.2.1) (lO s.2.2.1) (lO s.2.2.2) (lO u) (lO v) (hp XI XA XP XC MI MA ML D) = some (none, hp XI XA XP XC MI MA' ML D) ∧ MA' 5 = upd (MA 5) R (iO 10001) ∧ (∀ m, m ≠ 5 → m ≠ 7 → MA' m = MA m) ∧ (∀ i, i < 10001 * R → MA' 7 i = MA 7 i) ∧ (∀ i, i < 10001 → MA' 7 (10001 * R + i) = iO (evs s u v i)) := by
  obtain ⟨MA', f1, f2, f3, f4, f5⟩ := m_writes1 (sc := sc) (n := n) (XI := XI) (XA := XA) (XP := XP) (XC := XC) (ML := ML) (D := D) hS hv hv2 hu hu2 hR hMI 10001 0 MA (by omega)
  refine ⟨MA', ?_, f2, f3, f4, fun i hi => f5 i (by omega) hi⟩
  rw [e_X12_writes, kl_0, ← EW_0 hS hv hu hu2]
  exact f1
end WRT

/-- one row more -/
def addr (S : ST5) (q : RW4) : ST5 := (S.1, S.2.1 ++ [q], S.2.2.1, 0, S.2.2.2.2)
theorem ok_addr {S : ST5} (hS : OK5 S) {q : RW4} (h : S.2.1.length < 10) (hq : RV S.1 q) : OK5 (addr S q) := by
  obtain ⟨a1, a2, a3, a4, a5, a6, a7, a8⟩ := hS
  refine ⟨a1, ?_, a3, ?_, a5, Int.le_refl 0, (by show (0 : Int) ≤ 15; decide), a8⟩
  · show (S.2.1 ++ [q]).length ≤ 10
    rw [List.length_append, List.length_singleton]; omega
  · intro r hr
    rcases List.mem_append.mp hr with h | h
    · exact a4 r h
    · rw [List.mem_singleton] at h
      subst h
      exact hq
theorem mv_add {S : ST5} {MI : Nat → Int32} {MA MA' : Nat → Nat → Int32} (hS : OK5 S) (hV : MV S MI MA) {k so : Int} {m : Nat} {f : Nat → Int} (h4 : MA' 4 = upd (MA 4) S.2.1.length (iO k)) (h5 : MA' 5 = upd (MA 5) S.2.1.length (iO (m : Nat))) (h6 : MA' 6 = upd (MA 6) S.2.1.length (iO so)) (hm : ∀ t, t ≠ 4 → t ≠ 5 → t ≠ 6 → t ≠ 7 → MA' t = MA t) (h7 : ∀ i, i < 10001 * S.2.1.length → MA' 7 i = MA 7 i) (h8 : ∀ i, i < m → MA' 7 (10001 * S.2.1.length + i) = iO (f i)) : MV (addr S (k, so, m, f)) (va_up (va_up MI 1 (iO ((S.2.1.length : Int) + 1))) 2 (iO 0)) MA' := by
  obtain ⟨v1, v2, v3, v4, v5, v6, v7, v8⟩ := hV
  refine ⟨v1, ?_, rfl, v4, ?_, ?_, ?_, ?_⟩
  · show iO ((S.2.1.length : Int) + 1) = iO ((S.2.1 ++ [_]).length : Nat)
    rw [List.length_append, List.length_singleton]
    rfl
  · intro s q hq
    obtain ⟨q1, q2, q3, q4⟩ := v5 s q hq
    refine ⟨?_, ?_, ?_, ?_⟩ <;> rw [hm _ (by decide) (by decide) (by decide) (by decide)] <;> assumption
  · intro r q hq
    have hq : (S.2.1 ++ [(k, so, m, f)])[r]? = some q := hq
    rw [List.getElem?_append] at hq
    split at hq
    · rename_i hr
      obtain ⟨q1, q2, q3, q4⟩ := v6 r q hq
      have hsz : q.2.2.1 ≤ 10001 := (hS.2.2.2.1 q (List.mem_of_getElem? hq)).2.2.2.2.1
      rw [h4, h5, h6, u_ne (by omega), u_ne (by omega), u_ne (by omega)]
      refine ⟨q1, q2, q3, fun i hi => ?_⟩
      rw [h7 _ (by omega)]
      exact q4 i hi
    · rename_i hs
      have hs2 : r = S.2.1.length := by
        have := (List.getElem?_eq_some_iff.mp hq).1
        simp at this
        omega
      subst hs2
      simp at hq
      subst hq
      rw [h4, h5, h6, u_eq rfl, u_eq rfl, u_eq rfl]
      exact ⟨rfl, rfl, rfl, h8⟩
  · intro j hj
    obtain ⟨q1, q2, q3⟩ := v7 j hj
    rw [hm 8 (by decide) (by decide) (by decide) (by decide), hm 9 (by decide) (by decide) (by decide) (by decide), hm 10 (by decide) (by decide) (by decide) (by decide)]
    exact ⟨q1, q2, q3⟩
  · intro i x hx
    rw [hm 11 (by decide) (by decide) (by decide) (by decide)]
    exact v8 i x hx
