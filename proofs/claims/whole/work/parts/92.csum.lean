/-! sum: the class -/
theorem tb_zero {f : Nat → Bool} : ∀ n, (∀ i, i < n → f i = false) → tb f n = 0
  | 0, _ => rfl
  | n + 1, h => by
    show tb f n + (f n).toNat = 0
    rw [tb_zero n (fun i hi => h i (by omega)), h n (by omega)]
    rfl
theorem mask64 : ∀ r : Nat, r < 64 → ((1 : Int64) <<< ((iO (r : Int)).toInt64 &&& 63) - 1).toBitVec.toNat = 2 ^ r - 1 := by decide +kernel
theorem tb_mask (x : Int64) {r : Nat} (hr : r < 64) : tb (x &&& ((1 : Int64) <<< ((iO (r : Int)).toInt64 &&& 63) - 1)).toBitVec.getLsbD 64 = tb x.toBitVec.getLsbD r := by
  have hb : ∀ i, (x &&& ((1 : Int64) <<< ((iO (r : Int)).toInt64 &&& 63) - 1)).toBitVec.getLsbD i = (x.toBitVec.getLsbD i && decide (i < r)) := by
    intro i
    rw [Int64.toBitVec_and, BitVec.getLsbD_and]
    congr 1
    show ((1 : Int64) <<< ((iO (r : Int)).toInt64 &&& 63) - 1).toBitVec.toNat.testBit i = _
    rw [mask64 r hr, Nat.testBit_two_pow_sub_one]
  have h := tb_add (x &&& ((1 : Int64) <<< ((iO (r : Int)).toInt64 &&& 63) - 1)).toBitVec.getLsbD r (64 - r)
  rw [show r + (64 - r) = 64 by omega, tb_cg r (fun i hi => (hb i).trans (by rw [decide_eq_true hi, Bool.and_true])), tb_zero (64 - r) (fun i _ => (hb (r + i)).trans (by rw [decide_eq_false (by omega), Bool.and_false])), Nat.add_zero] at h
  exact h
theorem sumf_tb {f : Nat → Int} {F : Nat → Bool} : ∀ N, (∀ i, i < N → (f i = 0 ∨ f i = 1) ∧ F i = decide (f i = 1)) → sumf f N = ((tb F N : Nat) : Int)
  | 0, _ => rfl
  | N + 1, h => by
    obtain ⟨h1, h2⟩ := h N (by omega)
    show sumf f N + f N = ((tb F N + (F N).toNat : Nat) : Int)
    rw [sumf_tb N (fun i hi => h i (by omega)), h2]
    rcases h1 with g | g <;> rw [g] <;> simp
theorem sumf_evs {s : SL4} {u v : Int} (hS : SL s.1 s.2.1 s.2.2.1 s.2.2.2) (hv : 1 ≤ v) (hu : 0 ≤ u) (hu2 : u < v) : ∀ N : Nat, sumf (evs s u v) N = EW s u v N
  | 0 => (EW_0 hS hv hu hu2).symm
  | N + 1 => by
    show sumf (evs s u v) N + evs s u v N = _
    rw [sumf_evs hS hv hu hu2 N]
    unfold evs
    omega
abbrev vsm : List (Nat × Nat) := [(1, 10), (2, 18), (3, 18), (4, 18), (8, 58)]
section CSM
variable {sc : en_S} {Γ : Nat → Option GD} {XI : Nat → Int32} {XA : Nat → Nat → Int32} {XP : Nat → Nat → Option Nat} {XC : Value} {MI : Nat → Int32} {MA : Nat → Nat → Int32} {ML : Nat → Nat → Int64}
theorem e_tsum {m p num n : Nat} {sec : Int} {D : en_H} {arr : Nat → Int32} {f : Nat → Int} (h1 : en_nt D p = some (.inr (8, [.int (iO (num : Nat)), .int (iO sec), .ref (p + 52)]))) (h2 : en_nt D (p + 1) = some (.inl (0, n, .inl arr))) (h3 : ∀ i, i < n → arr i = iO (f i)) (h4 : n ≤ 40) {N : Nat} (hN : N ≤ 10000) : f_X9_sumOf sc (m + 1) (p + 51) (iO (N : Nat)) (hp XI XA XP XC MI MA ML D) = some (some (.int (iO (if N ≤ n then sumf f N else -1))), hp XI XA XP XC MI MA ML D) := by
  have g2 : ∀ (f0 : Option en_R) (f : Nat → Option en_R), en_gA (hp XI XA XP XC MI MA ML D) (p + 51) [(8, 0)] 2 f0 f = f (p + 52) := fun f0 f => d_gA h1 rfl rfl f0 f
  have gl : ∀ (f : Int32 → Option en_R), en_ln sc (hp XI XA XP XC MI MA ML D) (p + 52) f = f (iO n) := fun f => by rw [← kn40 n (by omega)]; exact d_ln (p := p + 1) h2 (by decide) f
  have ga : ∀ (i : Int32) (f : Int32 → Option en_R), en_aI sc (hp XI XA XP XC MI MA ML D) (p + 52) i f = if en_ix i n then f (arr i.toNatClampNeg) else none := fun i f => d_aI (p := p + 1) h2 i f
  have key : ∀ (j i : Nat), i + j = N → N ≤ n → b_X9_sumOf_2 sc m (p + 51) (iO (N : Nat)) (iO (sumf f i)) (iO (i : Nat)) (hp XI XA XP XC MI MA ML D) = some (some (.int (iO (sumf f N))), hp XI XA XP XC MI MA ML D) := by
    intro j
    induction j with
    | zero =>
      intro i hi hn
      obtain rfl : i = N := by omega
      rw [eb_X9_sumOf_2]
      clear h3
      simp (disch := (first | assumption | (unfold i32; omega) | (unfold i64; omega) | omega)) only [↓reduceIte, ki_0, ki_1, ki_2, ki_3, ki_4, ki_5, ki_6, ki_7, ki_8, ki_9, ki_10, ki_11, ki_12, ki_13, ki_14, ki_15, ki_20, ki_21, ki_30, ki_31, ki_40, ki_41, ki_50, ki_51, ki_60, ki_63, ki_64, ki_65, ki_100, ki_158, ki_160, ki_200, ki_212, ki_1000, ki_2000, ki_2001, ki_5000, ki_10000, ki_10001, ki_100000, ki_200000, ki_1000000, ki_2000000, ki_3000000, iO_neg, iO_add, iO_sub, iO_mul, kn_4, kn_8, kn_10, kn_20, kn_24, kn_40, kn_41, kn_50, kn_60, kn_158, kn_160, kn_200, kn_212, kn_2001, tn_lt, fn_lt, tn_le, fn_le, tn_eq, fn_eq, x_lt, x_le, x_eq, x_ix, x_nat, t_lt, f_lt, t_le, f_le, t_eq, f_eq, eq_self, and_self, true_and, and_true, false_and, and_false, if_true, if_false, Int.toNat_natCast, bI_s, bL_s, bA_s, bA_n, bV_s, mq_s, mq_n, en_le, bl_0, bl_1, u_eq, u_ne, w_eq, w_ne, v_eq, v_ne]
    | succ j ih =>
      intro i hi hn
      have hi3 := h3 i (by omega)
      rw [← ih (i + 1) (by omega) hn, eb_X9_sumOf_2]
      clear ih h3
      simp (disch := (first | assumption | (unfold i32; omega) | (unfold i64; omega) | omega)) only [↓reduceIte, ki_0, ki_1, ki_2, ki_3, ki_4, ki_5, ki_6, ki_7, ki_8, ki_9, ki_10, ki_11, ki_12, ki_13, ki_14, ki_15, ki_20, ki_21, ki_30, ki_31, ki_40, ki_41, ki_50, ki_51, ki_60, ki_63, ki_64, ki_65, ki_100, ki_158, ki_160, ki_200, ki_212, ki_1000, ki_2000, ki_2001, ki_5000, ki_10000, ki_10001, ki_100000, ki_200000, ki_1000000, ki_2000000, ki_3000000, iO_neg, iO_add, iO_sub, iO_mul, kn_4, kn_8, kn_10, kn_20, kn_24, kn_40, kn_41, kn_50, kn_60, kn_158, kn_160, kn_200, kn_212, kn_2001, tn_lt, fn_lt, tn_le, fn_le, tn_eq, fn_eq, x_lt, x_le, x_eq, x_ix, x_nat, t_lt, f_lt, t_le, f_le, t_eq, f_eq, eq_self, and_self, true_and, and_true, false_and, and_false, if_true, if_false, Int.toNat_natCast, bI_s, bL_s, bA_s, bA_n, bV_s, mq_s, mq_n, en_le, bl_0, bl_1, u_eq, u_ne, w_eq, w_ne, v_eq, v_ne, g2, ga, hi3]
      try rfl
  rw [e_X9_sumOf]
  by_cases c : N ≤ n
  · rw [if_pos c]
    have hk := key N 0 (by omega) c
    have hk : b_X9_sumOf_2 sc m (p + 51) (iO (N : Nat)) (iO 0) (iO 0) (hp XI XA XP XC MI MA ML D) = _ := hk
    clear key h3
    simp (disch := (first | assumption | (unfold i32; omega) | (unfold i64; omega) | omega)) only [↓reduceIte, ki_0, ki_1, ki_2, ki_3, ki_4, ki_5, ki_6, ki_7, ki_8, ki_9, ki_10, ki_11, ki_12, ki_13, ki_14, ki_15, ki_20, ki_21, ki_30, ki_31, ki_40, ki_41, ki_50, ki_51, ki_60, ki_63, ki_64, ki_65, ki_100, ki_158, ki_160, ki_200, ki_212, ki_1000, ki_2000, ki_2001, ki_5000, ki_10000, ki_10001, ki_100000, ki_200000, ki_1000000, ki_2000000, ki_3000000, iO_neg, iO_add, iO_sub, iO_mul, kn_4, kn_8, kn_10, kn_20, kn_24, kn_40, kn_41, kn_50, kn_60, kn_158, kn_160, kn_200, kn_212, kn_2001, tn_lt, fn_lt, tn_le, fn_le, tn_eq, fn_eq, x_lt, x_le, x_eq, x_ix, x_nat, t_lt, f_lt, t_le, f_le, t_eq, f_eq, eq_self, and_self, true_and, and_true, false_and, and_false, if_true, if_false, Int.toNat_natCast, bI_s, bL_s, bA_s, bA_n, bV_s, mq_s, mq_n, en_le, bl_0, bl_1, u_eq, u_ne, w_eq, w_ne, v_eq, v_ne, g2, gl, hk]
  · rw [if_neg c]
    clear key h3
    simp (disch := (first | assumption | (unfold i32; omega) | (unfold i64; omega) | omega)) only [↓reduceIte, ki_0, ki_1, ki_2, ki_3, ki_4, ki_5, ki_6, ki_7, ki_8, ki_9, ki_10, ki_11, ki_12, ki_13, ki_14, ki_15, ki_20, ki_21, ki_30, ki_31, ki_40, ki_41, ki_50, ki_51, ki_60, ki_63, ki_64, ki_65, ki_100, ki_158, ki_160, ki_200, ki_212, ki_1000, ki_2000, ki_2001, ki_5000, ki_10000, ki_10001, ki_100000, ki_200000, ki_1000000, ki_2000000, ki_3000000, iO_neg, iO_add, iO_sub, iO_mul, kn_4, kn_8, kn_10, kn_20, kn_24, kn_40, kn_41, kn_50, kn_60, kn_158, kn_160, kn_200, kn_212, kn_2001, tn_lt, fn_lt, tn_le, fn_le, tn_eq, fn_eq, x_lt, x_le, x_eq, x_ix, x_nat, t_lt, f_lt, t_le, f_le, t_eq, f_eq, eq_self, and_self, true_and, and_true, false_and, and_false, if_true, if_false, Int.toNat_natCast, bI_s, bL_s, bA_s, bA_n, bV_s, mq_s, mq_n, en_le, bl_0, bl_1, u_eq, u_ne, w_eq, w_ne, v_eq, v_ne, g2, gl]
theorem e_evsum {m p num ci sp : Nat} {sec so u v : Int} {D : en_H} {s : SL4} (hci : ci = 2 ∨ ci = 3 ∨ ci = 4) (h1 : en_nt D p = some (.inr (ci, [.int (iO (num : Nat)), .int (iO sec), .ref (sp + 51), .int (iO so), .int (iO u), .int (iO v)]))) (hs : SlO D sp s) (hS : SL s.1 s.2.1 s.2.2.1 s.2.2.2) (hv : 1 ≤ v) (hv2 : v ≤ 100) (hu : 0 ≤ u) (hu2 : u < v) {N : Nat} (hN : N ≤ 10000) : f_X2_sumOf sc (m + 5) (p + 51) (iO (N : Nat)) (hp XI XA XP XC MI MA ML D) = some (some (.int (iO (sumf (evs s u v) N))), hp XI XA XP XC MI MA ML D) := by
  obtain ⟨a, b, c, d, t, qs, ls, k1, k2, k3, hC, hE, hD, -⟩ := hs
  have hfd : en_fd [(2, 0), (3, 0), (4, 0)] ci = some 0 := by rcases hci with rfl | rfl | rfl <;> rfl
  have g2 : ∀ (f0 : Option en_R) (f : Nat → Option en_R), en_gA (hp XI XA XP XC MI MA ML D) (p + 51) [(2, 0), (3, 0), (4, 0)] 2 f0 f = f (sp + 51) := fun f0 f => d_gA h1 hfd rfl f0 f
  have g4 : ∀ (f : Int32 → Option en_R), en_gI (hp XI XA XP XC MI MA ML D) (p + 51) [(2, 0), (3, 0), (4, 0)] 4 f = f (iO u) := fun f => d_gI h1 hfd rfl f
  have g5 : ∀ (f : Int32 → Option en_R), en_gI (hp XI XA XP XC MI MA ML D) (p + 51) [(2, 0), (3, 0), (4, 0)] 5 f = f (iO v) := fun f => d_gI h1 hfd rfl f
  have gc : ∀ (g : Nat → Option en_R), en_cc (hp XI XA XP XC MI MA ML D) (sp + 51) g = g 6 := fun g => d_cc k1 g
  have b1 := mul_le_mul' (a := v) (b := 100) (c := (N : Int)) (d := 10000) (by omega) hv2 (by omega) (by omega)
  have w1 := e_cwhole (sc := sc) (n := m) (z := hp XI XA XP XC MI MA ML D) (p := sp + 51) k1 hC (N := (N : Int)) (u := u) (v := v) hv hv2 (by omega) (by omega) hu (by omega)
  rw [EW_eq hE hD hS hC hv] at w1
  rw [e_X2_sumOf, sumf_evs hS hv hu hu2]
  simp (disch := (first | assumption | (unfold i32; omega) | (unfold i64; omega) | omega)) only [↓reduceIte, ki_0, ki_1, ki_2, ki_3, ki_4, ki_5, ki_6, ki_7, ki_8, ki_9, ki_10, ki_11, ki_12, ki_13, ki_14, ki_15, ki_20, ki_21, ki_30, ki_31, ki_40, ki_41, ki_50, ki_51, ki_60, ki_63, ki_64, ki_65, ki_100, ki_158, ki_160, ki_200, ki_212, ki_1000, ki_2000, ki_2001, ki_5000, ki_10000, ki_10001, ki_100000, ki_200000, ki_1000000, ki_2000000, ki_3000000, iO_neg, iO_add, iO_sub, iO_mul, kn_4, kn_8, kn_10, kn_20, kn_24, kn_40, kn_41, kn_50, kn_60, kn_158, kn_160, kn_200, kn_212, kn_2001, tn_lt, fn_lt, tn_le, fn_le, tn_eq, fn_eq, x_lt, x_le, x_eq, x_ix, x_nat, t_lt, f_lt, t_le, f_le, t_eq, f_eq, eq_self, and_self, true_and, and_true, false_and, and_false, if_true, if_false, Int.toNat_natCast, bI_s, bL_s, bA_s, bA_n, bV_s, mq_s, mq_n, en_le, bl_0, bl_1, u_eq, u_ne, w_eq, w_ne, v_eq, v_ne, g2, g4, g5, gc, iO_wide, w1, lO_narrow]
theorem e_cutsum {m p : Nat} {fs : List Value} {D : en_H} {arr : Nat → Int64} (h1 : en_nt D p = some (.inr (1, fs))) (h7 : en_nt fs 7 = some (.ref (p + 52))) (h2 : en_nt D (p + 1) = some (.inl (1, 158, .inr (.inl arr)))) {N : Nat} (hN : N ≤ 10000) : ∀ (j i : Nat), i + j = N / 64 → b_X1_sumOf_2 sc (m + 1) (p + 51) (iO (N : Nat)) (iO ((tb (fun j => (arr (j / 64)).toBitVec.getLsbD (j % 64)) (64 * i) : Nat) : Int)) (iO (i : Nat)) (hp XI XA XP XC MI MA ML D) = some (some (.int (iO ((tb (fun j => (arr (j / 64)).toBitVec.getLsbD (j % 64)) N : Nat) : Int))), hp XI XA XP XC MI MA ML D) := by
  have g7 : ∀ (f0 : Option en_R) (f : Nat → Option en_R), en_gA (hp XI XA XP XC MI MA ML D) (p + 51) [(1, 0)] 7 f0 f = f (p + 52) := fun f0 f => d_gA h1 rfl h7 f0 f
  have ga : ∀ (i : Int32) (f : Int64 → Option en_R), en_aL (hp XI XA XP XC MI MA ML D) (p + 52) i f = if en_ix i 158 then f (arr i.toNatClampNeg) else none := fun i f => d_aL (p := p + 1) h2 i f
  have hw : ∀ (i r : Nat), r ≤ 64 → tb (fun j => (arr (j / 64)).toBitVec.getLsbD (j % 64)) (64 * i + r) = tb (fun j => (arr (j / 64)).toBitVec.getLsbD (j % 64)) (64 * i) + tb (arr i).toBitVec.getLsbD r := by
    intro i r hr
    rw [tb_add]
    congr 1
    exact tb_cg r (fun t ht => by
      show (arr ((64 * i + t) / 64)).toBitVec.getLsbD ((64 * i + t) % 64) = _
      rw [show (64 * i + t) / 64 = i by omega, show (64 * i + t) % 64 = t by omega])
  intro j
  induction j with
  | zero =>
    intro i hi
    obtain rfl : i = N / 64 := by omega
    have hm := tb_mask (arr (N / 64)) (r := N % 64) (by omega)
    have hs := hw (N / 64) (N % 64) (by omega)
    rw [show 64 * (N / 64) + N % 64 = N by omega] at hs
    rw [eb_X1_sumOf_2, sr6 _ (by omega), an6 _ (by omega), hs]
    clear hw hs
    simp (disch := (first | assumption | (unfold i32; omega) | (unfold i64; omega) | omega)) only [↓reduceIte, tn_lt, fn_lt, tn_le, fn_le, tn_eq, fn_eq, x_lt, x_le, x_eq, x_ix, x_nat, t_lt, f_lt, t_le, f_le, t_eq, f_eq, eq_self, and_self, true_and, and_true, false_and, and_false, if_true, if_false, Int.toNat_natCast, bI_s, bL_s, bA_s, bA_n, bV_s, mq_s, mq_n, en_le, bl_0, bl_1, g7, ga, bitCount_ok, hm, iO_add]
    try rfl
  | succ j ih =>
    intro i hi
    have hs := hw i 64 (by omega)
    have ih' := ih (i + 1) (by omega)
    rw [show 64 * (i + 1) = 64 * i + 64 by omega, hs] at ih'
    rw [← ih', eb_X1_sumOf_2, sr6 _ (by omega)]
    clear hw hs ih ih'
    simp (disch := (first | assumption | (unfold i32; omega) | (unfold i64; omega) | omega)) only [↓reduceIte, tn_lt, fn_lt, tn_le, fn_le, tn_eq, fn_eq, x_lt, x_le, x_eq, x_ix, x_nat, t_lt, f_lt, t_le, f_le, t_eq, f_eq, eq_self, and_self, true_and, and_true, false_and, and_false, if_true, if_false, Int.toNat_natCast, bI_s, bL_s, bA_s, bA_n, bV_s, mq_s, mq_n, en_le, bl_0, bl_1, g7, ga, bitCount_ok, iO_add, ki_1]
    try rfl
theorem sum_ok {p : Nat} {g : GD} (hg : Γ p = some g) {m : Nat} {D : en_H} (hV : HV Γ D) (hm : 2 * g.2.1 + 6 ≤ m) {N : Nat} (hN : N ≤ 10000) : ∃ D', en_vt (hp XI XA XP XC MI MA ML D) (p + 51) vsm (fun i => en_cl sc en_mt m i [.ref (p + 51), .int (iO (N : Nat))] (hp XI XA XP XC MI MA ML D)) = some (some (.int (iO (if N ≤ g.2.2.2.2.1 then sumf g.2.2.2.2.2.1 N else -1))), hp XI XA XP XC MI MA ML D') ∧ HV Γ D' ∧ KP Γ g.2.1 D D' := by
  obtain ⟨n9, n10001, hst, rc⟩ := hV p g hg
  obtain ⟨m', rfl⟩ : ∃ m', m = m' + 6 := ⟨m - 6, by omega⟩
  rcases rc with ⟨r0, arr, r1, r2, r3, r4⟩ | ⟨r0, sp, u, v, r1, r2, r3, r4, r5, r6, r7, r8, r9, r10⟩ | ⟨r0, q, gq, kn, tk, en, arr, z, zs, o, os, r1, r2, r3, r4, b1, b2, b3, b4, b5, b6, b7, b8, r5, k, r6, r7, r8, r9, r10⟩
  · refine ⟨D, ?_, hV, KP.refl⟩
    rw [d_vt r1]
    exact e_tsum (m := m' + 5) r1 r2 r3 r4 hN
  · refine ⟨D, ?_, hV, KP.refl⟩
    have hci : evc g.1 = 2 ∨ evc g.1 = 3 ∨ evc g.1 = 4 := by rcases r0 with h | h | h <;> rw [h] <;> decide
    have hv : en_vs (fun i => en_cl sc en_mt (m' + 6) i [.ref (p + 51), .int (iO (N : Nat))] (hp XI XA XP XC MI MA ML D)) (evc g.1) vsm = f_X2_sumOf sc (m' + 6) (p + 51) (iO (N : Nat)) (hp XI XA XP XC MI MA ML D) := by
      rcases r0 with h | h | h <;> rw [h] <;> rfl
    rw [d_vt r1, hv, e_evsum (m := m' + 1) hci r1 r2 r3 r4 r5 r6 r7 hN, r8, r9, if_pos (by omega)]
  · have hK : CutK D p g gq q z zs o os k kn tk en arr := ⟨r3, r4, r6, r7, r8, r9, r10⟩
    rw [d_vt r3]
    show ∃ D', f_X1_sumOf sc (m' + 6) (p + 51) (iO (N : Nat)) (hp XI XA XP XC MI MA ML D) = _ ∧ _
    obtain ⟨D', k', kn', tk', en', arr', f1, f2, f3, f4, f5⟩ := learn_loop hg r0 r1 r2 b1 b2 b3 b4 b5 b6 b7 b8 r5 (step_ok gq.2.1 q gq r1 rfl) (m := m' + 4) (by omega) XI XA XP XC MI MA ML (N := N) (by omega) 10001 0 D k kn tk en arr (by omega) (by omega) hV hK
    refine ⟨D', ?_, f2, f3⟩
    have hl : f_X1_learn sc (m' + 5) (p + 51) (iO (N : Nat)) (hp XI XA XP XC MI MA ML D) = some (none, hp XI XA XP XC MI MA ML D') := by
      rw [e_X1_learn]
      exact f1
    obtain ⟨t1, t2, t3, t4, t5, t6, t7⟩ := f4
    have gc : ∀ (g : Nat → Option en_R), en_cc (hp XI XA XP XC MI MA ML D) (p + 51) g = g 1 := fun g => d_cc r3 g
    have g8 : ∀ (f : Int32 → Option en_R), en_gI (hp XI XA XP XC MI MA ML D') (p + 51) [(1, 0)] 8 f = f (iO (kn' : Nat)) := fun f => d_gI t1 rfl rfl f
    rw [e_X1_sumOf]
    by_cases e : N ≤ kn'
    · have hin : ∀ i, i < N → i < g.2.2.2.2.1 ∧ (cutL gq.2.2.2.2.2.1 z zs o os k')[i]? = some (g.2.2.2.2.2.1 i) := fun i hi => cut_in r5 t4 (by omega) (by omega)
      have hle : N ≤ g.2.2.2.2.1 := by
        rcases Nat.eq_zero_or_pos N with h | h
        · omega
        · have := (hin (N - 1) (by omega)).1
          omega
      have hsum : sumf g.2.2.2.2.2.1 N = ((tb (fun j => (arr' (j / 64)).toBitVec.getLsbD (j % 64)) N : Nat) : Int) := by
        apply sumf_tb
        intro i hi
        have i2 := (hin i hi).2
        have hb := t7 i (by omega)
        rw [i2] at hb
        exact ⟨cutL_01 i2, hb⟩
      have hlp := e_cutsum (sc := sc) (XI := XI) (XA := XA) (XP := XP) (XC := XC) (MI := MI) (MA := MA) (ML := ML) (m := m' + 4) t1 rfl t2 hN (N / 64) 0 (by omega)
      have hlp : b_X1_sumOf_2 sc (m' + 5) (p + 51) (iO (N : Nat)) (iO 0) (iO 0) (hp XI XA XP XC MI MA ML D') = _ := hlp
      rw [if_pos hle, hsum]
      clear f1 f2 f3 f5 t3 t4 t7 hin hsum hst hV r10 r5
      simp (disch := (first | assumption | (unfold i32; omega) | (unfold i64; omega) | omega)) only [↓reduceIte, ki_0, ki_1, ki_2, ki_3, ki_4, ki_5, ki_6, ki_7, ki_8, ki_9, ki_10, ki_11, ki_12, ki_13, ki_14, ki_15, ki_20, ki_21, ki_30, ki_31, ki_40, ki_41, ki_50, ki_51, ki_60, ki_63, ki_64, ki_65, ki_100, ki_158, ki_160, ki_200, ki_212, ki_1000, ki_2000, ki_2001, ki_5000, ki_10000, ki_10001, ki_100000, ki_200000, ki_1000000, ki_2000000, ki_3000000, iO_neg, iO_add, iO_sub, iO_mul, kn_4, kn_8, kn_10, kn_20, kn_24, kn_40, kn_41, kn_50, kn_60, kn_158, kn_160, kn_200, kn_212, kn_2001, tn_lt, fn_lt, tn_le, fn_le, tn_eq, fn_eq, x_lt, x_le, x_eq, x_ix, x_nat, t_lt, f_lt, t_le, f_le, t_eq, f_eq, eq_self, and_self, true_and, and_true, false_and, and_false, if_true, if_false, Int.toNat_natCast, bI_s, bL_s, bA_s, bA_n, bV_s, mq_s, mq_n, en_le, bl_0, bl_1, u_eq, u_ne, w_eq, w_ne, v_eq, v_ne, gc, hl, g8, hlp]
    · have hen : en' = 1 := by rcases f5 with h | h <;> omega
      have hno : ¬ okc gq.2.2.2.2.1 gq.2.2.2.2.2.1 k' := by
        rcases t3 with ⟨h, -⟩ | ⟨-, -, h⟩
        · omega
        · exact h
      have hout := cut_out r5 t4 hno (x := N - 1) (by omega) (by omega)
      rw [if_neg (show ¬ N ≤ g.2.2.2.2.1 by omega)]
      clear f1 f2 f3 f5 t3 t4 t7 hno hst hV r10 r5
      simp (disch := (first | assumption | (unfold i32; omega) | (unfold i64; omega) | omega)) only [↓reduceIte, ki_0, ki_1, ki_2, ki_3, ki_4, ki_5, ki_6, ki_7, ki_8, ki_9, ki_10, ki_11, ki_12, ki_13, ki_14, ki_15, ki_20, ki_21, ki_30, ki_31, ki_40, ki_41, ki_50, ki_51, ki_60, ki_63, ki_64, ki_65, ki_100, ki_158, ki_160, ki_200, ki_212, ki_1000, ki_2000, ki_2001, ki_5000, ki_10000, ki_10001, ki_100000, ki_200000, ki_1000000, ki_2000000, ki_3000000, iO_neg, iO_add, iO_sub, iO_mul, kn_4, kn_8, kn_10, kn_20, kn_24, kn_40, kn_41, kn_50, kn_60, kn_158, kn_160, kn_200, kn_212, kn_2001, tn_lt, fn_lt, tn_le, fn_le, tn_eq, fn_eq, x_lt, x_le, x_eq, x_ix, x_nat, t_lt, f_lt, t_le, f_le, t_eq, f_eq, eq_self, and_self, true_and, and_true, false_and, and_false, if_true, if_false, Int.toNat_natCast, bI_s, bL_s, bA_s, bA_n, bV_s, mq_s, mq_n, en_le, bl_0, bl_1, u_eq, u_ne, w_eq, w_ne, v_eq, v_ne, gc, hl, g8]
end CSM
section CSS
variable {sc : en_S} {n : Nat} {S : ST5}
theorem cs_sum (hS : OK5 S) {r N : Int} (hr : i32 r) (hN : i32 N) : CS S S (p_sum S r N) (fun z => f_X11_sum sc (n + 40) 1 (iO r) (iO N) z) := by
  obtain ⟨n1, n2⟩ := id hN
  unfold p_sum
  cases hq : rowq S r with
  | none =>
    apply cs_ask
    intro XI XA XP XC MI MA ML D Γ hV
    show f_X11_sum sc (n + 40) 1 (iO r) (iO N) _ = _
    rw [e_X11_sum]
    simp (disch := (first | assumption | (unfold i32; omega) | (unfold i64; omega) | omega)) only [↓reduceIte, ki_0, ki_1, ki_2, ki_3, ki_4, ki_5, ki_6, ki_7, ki_8, ki_9, ki_10, ki_11, ki_12, ki_13, ki_14, ki_15, ki_20, ki_21, ki_30, ki_31, ki_40, ki_41, ki_50, ki_51, ki_60, ki_63, ki_64, ki_65, ki_100, ki_158, ki_160, ki_200, ki_212, ki_1000, ki_2000, ki_2001, ki_5000, ki_10000, ki_10001, ki_100000, ki_200000, ki_1000000, ki_2000000, ki_3000000, iO_neg, iO_add, iO_sub, iO_mul, kn_4, kn_8, kn_10, kn_20, kn_24, kn_40, kn_41, kn_50, kn_60, kn_158, kn_160, kn_200, kn_212, kn_2001, tn_lt, fn_lt, tn_le, fn_le, tn_eq, fn_eq, x_lt, x_le, x_eq, x_ix, x_nat, t_lt, f_lt, t_le, f_le, t_eq, f_eq, eq_self, and_self, true_and, and_true, false_and, and_false, if_true, if_false, Int.toNat_natCast, bI_s, bL_s, bA_s, bA_n, bV_s, mq_s, mq_n, en_le, bl_0, bl_1, u_eq, u_ne, w_eq, w_ne, v_eq, v_ne, ↓hp_cc_1, ↓hp_g_1_0, ↓hp_g_1_1, ↓hp_g_1_2, ↓hp_g_1_3, ↓hp_g_1_4, ↓hp_g_1_5, ↓hp_g_1_6, ↓hp_g_1_7, ↓hp_g_1_8, ↓hp_p_1_8, ↓hp_g_1_9, ↓hp_p_1_9, ↓hp_g_1_10, ↓hp_p_1_10, ↓hp_a_2, ↓hp_n_2, ↓hp_a_3, ↓hp_n_3, ↓hp_a_4, x_rowAt0 hV hS hr hq]
  | some q =>
    dsimp only
    obtain ⟨k, rfl, hk, hq2⟩ := rowq_some hq
    by_cases g : 0 ≤ N ∧ N ≤ 10000
    · obtain ⟨g1, g2⟩ := g
      obtain ⟨y, rfl⟩ : ∃ y : Nat, N = y := ⟨N.toNat, by omega⟩
      intro XI XA XP XC MI MA ML D Γ hV
      obtain ⟨p, g, c1, c2, c3, c4, c5, c6, c7, c8, c9⟩ := hV.2.2.2.2.2.1 k q hq2
      have h9 := (hV.2.2.2.2.2.2.2.2 p g c2).1
      obtain ⟨D', s1, s2, s3⟩ := sum_ok (sc := sc) (XI := XI) (XA := XA) (XP := XP) (XC := XC) (MI := MI) (MA := MA) (ML := ML) c2 (m := n + 39) hV.2.2.2.2.2.2.2.2 (by omega) (N := y) (by omega)
      have hrow := x_rowAt1 (sc := sc) (n := n + 38) (XC := XC) (MI := MI) (MA := MA) (ML := ML) hV hS hq2 c1
      refine ⟨XI, XA, XP, XC, D', Γ, ?_, hV.step s2 s3.2.2.1, ⟨by rw [s3.1]; omega, by rw [s3.2.1]; omega⟩⟩
      show f_X11_sum sc (n + 40) 1 (iO (k : Int)) (iO (y : Int)) _ = _
      have e : (if 0 ≤ (y : Int) ∧ (y : Int) ≤ 10000 ∧ (y : Int) ≤ (q.2.2.1 : Nat) then sumf q.2.2.2 (y : Int).toNat else -1) = if y ≤ g.2.2.2.2.1 then sumf g.2.2.2.2.2.1 y else -1 := by
        rw [c7, c8, Int.toNat_natCast]
        by_cases e : y ≤ q.2.2.1
        · rw [if_pos e, if_pos (by omega)]
        · rw [if_neg e, if_neg (by omega)]
      rw [e_X11_sum, e]
      clear hV s2 s3 e
      simp (disch := (first | assumption | (unfold i32; omega) | (unfold i64; omega) | omega)) only [↓reduceIte, ki_0, ki_1, ki_2, ki_3, ki_4, ki_5, ki_6, ki_7, ki_8, ki_9, ki_10, ki_11, ki_12, ki_13, ki_14, ki_15, ki_20, ki_21, ki_30, ki_31, ki_40, ki_41, ki_50, ki_51, ki_60, ki_63, ki_64, ki_65, ki_100, ki_158, ki_160, ki_200, ki_212, ki_1000, ki_2000, ki_2001, ki_5000, ki_10000, ki_10001, ki_100000, ki_200000, ki_1000000, ki_2000000, ki_3000000, iO_neg, iO_add, iO_sub, iO_mul, kn_4, kn_8, kn_10, kn_20, kn_24, kn_40, kn_41, kn_50, kn_60, kn_158, kn_160, kn_200, kn_212, kn_2001, tn_lt, fn_lt, tn_le, fn_le, tn_eq, fn_eq, x_lt, x_le, x_eq, x_ix, x_nat, t_lt, f_lt, t_le, f_le, t_eq, f_eq, eq_self, and_self, true_and, and_true, false_and, and_false, if_true, if_false, Int.toNat_natCast, bI_s, bL_s, bA_s, bA_n, bV_s, mq_s, mq_n, en_le, bl_0, bl_1, u_eq, u_ne, w_eq, w_ne, v_eq, v_ne, ↓hp_cc_1, ↓hp_g_1_0, ↓hp_g_1_1, ↓hp_g_1_2, ↓hp_g_1_3, ↓hp_g_1_4, ↓hp_g_1_5, ↓hp_g_1_6, ↓hp_g_1_7, ↓hp_g_1_8, ↓hp_p_1_8, ↓hp_g_1_9, ↓hp_p_1_9, ↓hp_g_1_10, ↓hp_p_1_10, ↓hp_a_2, ↓hp_n_2, ↓hp_a_3, ↓hp_n_3, ↓hp_a_4, hrow, vt_bI, s1]
    · rw [if_neg (show ¬ (0 ≤ N ∧ N ≤ 10000 ∧ N ≤ (q.2.2.1 : Nat)) by omega)]
      apply cs_ask
      intro XI XA XP XC MI MA ML D Γ hV
      obtain ⟨p, g', c1, -⟩ := hV.2.2.2.2.2.1 k q hq2
      have hrow := x_rowAt1 (sc := sc) (n := n + 38) (XC := XC) (MI := MI) (MA := MA) (ML := ML) hV hS hq2 c1
      show f_X11_sum sc (n + 40) 1 (iO (k : Int)) (iO N) _ = _
      rw [e_X11_sum]
      clear hV
      rcases Int.lt_or_le N 0 with h | h
      · clear g; simp (disch := (first | assumption | (unfold i32; omega) | (unfold i64; omega) | omega)) only [↓reduceIte, ki_0, ki_1, ki_2, ki_3, ki_4, ki_5, ki_6, ki_7, ki_8, ki_9, ki_10, ki_11, ki_12, ki_13, ki_14, ki_15, ki_20, ki_21, ki_30, ki_31, ki_40, ki_41, ki_50, ki_51, ki_60, ki_63, ki_64, ki_65, ki_100, ki_158, ki_160, ki_200, ki_212, ki_1000, ki_2000, ki_2001, ki_5000, ki_10000, ki_10001, ki_100000, ki_200000, ki_1000000, ki_2000000, ki_3000000, iO_neg, iO_add, iO_sub, iO_mul, kn_4, kn_8, kn_10, kn_20, kn_24, kn_40, kn_41, kn_50, kn_60, kn_158, kn_160, kn_200, kn_212, kn_2001, tn_lt, fn_lt, tn_le, fn_le, tn_eq, fn_eq, x_lt, x_le, x_eq, x_ix, x_nat, t_lt, f_lt, t_le, f_le, t_eq, f_eq, eq_self, and_self, true_and, and_true, false_and, and_false, if_true, if_false, Int.toNat_natCast, bI_s, bL_s, bA_s, bA_n, bV_s, mq_s, mq_n, en_le, bl_0, bl_1, u_eq, u_ne, w_eq, w_ne, v_eq, v_ne, ↓hp_cc_1, ↓hp_g_1_0, ↓hp_g_1_1, ↓hp_g_1_2, ↓hp_g_1_3, ↓hp_g_1_4, ↓hp_g_1_5, ↓hp_g_1_6, ↓hp_g_1_7, ↓hp_g_1_8, ↓hp_p_1_8, ↓hp_g_1_9, ↓hp_p_1_9, ↓hp_g_1_10, ↓hp_p_1_10, ↓hp_a_2, ↓hp_n_2, ↓hp_a_3, ↓hp_n_3, ↓hp_a_4, hrow]
      · have h2 : 10000 < N := by omega
        clear g; simp (disch := (first | assumption | (unfold i32; omega) | (unfold i64; omega) | omega)) only [↓reduceIte, ki_0, ki_1, ki_2, ki_3, ki_4, ki_5, ki_6, ki_7, ki_8, ki_9, ki_10, ki_11, ki_12, ki_13, ki_14, ki_15, ki_20, ki_21, ki_30, ki_31, ki_40, ki_41, ki_50, ki_51, ki_60, ki_63, ki_64, ki_65, ki_100, ki_158, ki_160, ki_200, ki_212, ki_1000, ki_2000, ki_2001, ki_5000, ki_10000, ki_10001, ki_100000, ki_200000, ki_1000000, ki_2000000, ki_3000000, iO_neg, iO_add, iO_sub, iO_mul, kn_4, kn_8, kn_10, kn_20, kn_24, kn_40, kn_41, kn_50, kn_60, kn_158, kn_160, kn_200, kn_212, kn_2001, tn_lt, fn_lt, tn_le, fn_le, tn_eq, fn_eq, x_lt, x_le, x_eq, x_ix, x_nat, t_lt, f_lt, t_le, f_le, t_eq, f_eq, eq_self, and_self, true_and, and_true, false_and, and_false, if_true, if_false, Int.toNat_natCast, bI_s, bL_s, bA_s, bA_n, bV_s, mq_s, mq_n, en_le, bl_0, bl_1, u_eq, u_ne, w_eq, w_ne, v_eq, v_ne, ↓hp_cc_1, ↓hp_g_1_0, ↓hp_g_1_1, ↓hp_g_1_2, ↓hp_g_1_3, ↓hp_g_1_4, ↓hp_g_1_5, ↓hp_g_1_6, ↓hp_g_1_7, ↓hp_g_1_8, ↓hp_p_1_8, ↓hp_g_1_9, ↓hp_p_1_9, ↓hp_g_1_10, ↓hp_p_1_10, ↓hp_a_2, ↓hp_n_2, ↓hp_a_3, ↓hp_n_3, ↓hp_a_4, hrow]
end CSS
