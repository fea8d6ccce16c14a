/-! turning: both sides -/
def bt (x : Int64) (i : Nat) : Int := if x.toBitVec.getLsbD i = true then 1 else 0
theorem bt_01 (x : Int64) (i : Nat) : bt x i = 0 ∨ bt x i = 1 := by unfold bt; split <;> simp
/-- bits as a number, the first the highest -/
def vl (u : Nat → Int) : Nat → Int
  | 0 => 0
  | m + 1 => 2 * vl u m + u m
theorem p2_le {m k : Nat} (h : m ≤ k) : (2 : Int) ^ m ≤ 2 ^ k := by
  have h1 := Nat.pow_le_pow_right (n := 2) (by omega) h
  have h2 : ((2 ^ m : Nat) : Int) ≤ ((2 ^ k : Nat) : Int) := Int.ofNat_le.mpr h1
  rw [Int.natCast_pow, Int.natCast_pow] at h2
  exact h2
theorem vl_bd {u : Nat → Int} (h : ∀ i, u i = 0 ∨ u i = 1) : ∀ m, 0 ≤ vl u m ∧ vl u m < 2 ^ m
  | 0 => by simp [vl]
  | m + 1 => by
    have h1 := vl_bd h m
    have h2 := h m
    rw [vl, Int.pow_succ]
    omega
theorem vl_shift {u : Nat → Int} : ∀ m, vl u (m + 1) = 2 ^ m * u 0 + vl (fun i => u (i + 1)) m
  | 0 => by simp [vl]
  | m + 1 => by
    rw [vl, vl_shift m, vl, Int.pow_succ]
    have : (2 : Int) ^ m * 2 * u 0 = 2 * (2 ^ m * u 0) := by rw [Int.mul_comm (2 ^ m) 2, Int.mul_assoc]
    omega
theorem vl_cg {u v : Nat → Int} : ∀ m, (∀ i, i < m → u i = v i) → vl u m = vl v m
  | 0, _ => rfl
  | m + 1, h => by
    rw [vl, vl, vl_cg m (fun i hi => h i (by omega)), h m (by omega)]
theorem vl_lt {u v : Nat → Int} (hu : ∀ i, u i = 0 ∨ u i = 1) (hv : ∀ i, v i = 0 ∨ v i = 1) : ∀ (m k : Nat), k < m → (∀ i, i < k → u i = v i) → u k = 0 → v k = 1 → vl u m < vl v m
  | 0, k, hk, _, _, _ => by omega
  | m + 1, k, hk, h, h0, h1 => by
    rw [vl, vl]
    by_cases e : k = m
    · subst e
      have := vl_cg k h
      omega
    · have := vl_lt hu hv m k (by omega) h h0 h1
      have := hu m
      have := hv m
      omega
theorem lO_bv (k : Nat) (h : k < 9223372036854775808) : (lO k).toBitVec.toNat = k := by
  show (BitVec.ofInt 64 k).toNat = k
  rw [BitVec.toNat_ofInt]
  omega
theorem bt_of (x : Int64) {k : Nat} (hk : k < 64) : rsh x k &&& 1 = lO (bt x k) := by
  apply Int64.toBitVec_inj.mp
  apply BitVec.eq_of_getLsbD_eq
  intro i hi
  rw [Int64.toBitVec_and, BitVec.getLsbD_and]
  show ((x.toBitVec.sshiftRight k).getLsbD i && (1#64).getLsbD i) = _
  rw [BitVec.getLsbD_sshiftRight]
  unfold bt
  by_cases e : i = 0
  · subst e
    rw [if_pos (by omega), Nat.add_zero]
    by_cases q : x.toBitVec.getLsbD k = true
    · rw [if_pos q]
      show _ = (1#64).getLsbD 0
      simp [q]
    · rw [if_neg q]
      show _ = (0#64).getLsbD 0
      simp only [Bool.not_eq_true] at q
      simp [q]
  · have h1 : (1#64).getLsbD i = false := by simp [e]
    rw [h1, Bool.and_false]
    split
    · exact h1.symm
    · show _ = (0#64).getLsbD i
      simp
theorem lO_dbl (x : Nat) (hx : x < 1099511627776) : lO (x : Int) <<< ((1 : Int32).toInt64 &&& 63) = lO ((2 * x : Nat) : Int) := by
  have h := lsh_of (x := lO (x : Int)) (k := 1) (by decide)
  have h : lO (x : Int) <<< ((1 : Int32).toInt64 &&& 63) = lsh (lO (x : Int)) 1 := h
  rw [h]
  apply Int64.toBitVec_inj.mp
  apply BitVec.eq_of_toNat_eq
  show ((lO (x : Int)).toBitVec <<< 1).toNat = _
  rw [BitVec.toNat_shiftLeft, lO_bv x (by omega), lO_bv (2 * x) (by omega), Nat.shiftLeft_eq]
  omega
theorem lO_or1 (x b : Nat) (hx : x < 1099511627776) (hb : b < 2) : lO ((2 * x : Nat) : Int) ||| lO (b : Int) = lO ((2 * x + b : Nat) : Int) := by
  apply Int64.toBitVec_inj.mp
  apply BitVec.eq_of_toNat_eq
  rw [Int64.toBitVec_or, BitVec.toNat_or, lO_bv (2 * x) (by omega), lO_bv b (by omega), lO_bv (2 * x + b) (by omega)]
  have := Nat.two_pow_add_eq_or_of_lt (i := 1) (b := b) (by omega) x
  rw [Nat.pow_one] at this
  exact this.symm
theorem lO_shr (x k : Nat) (hx : x < 1099511627776) (hk : k < 64) : rsh (lO (x : Int)) k = lO ((x / 2 ^ k : Nat) : Int) := by
  have hle : x / 2 ^ k ≤ x := Nat.div_le_self _ _
  apply Int64.toBitVec_inj.mp
  apply BitVec.eq_of_toNat_eq
  show ((lO (x : Int)).toBitVec.sshiftRight k).toNat = _
  have hm : (lO (x : Int)).toBitVec.msb = false := by
    rw [BitVec.msb_eq_decide, lO_bv x (by omega)]
    simp
    omega
  rw [BitVec.sshiftRight_eq_of_msb_false hm, BitVec.toNat_ushiftRight, lO_bv x (by omega), lO_bv _ (by omega), Nat.shiftRight_eq_div_pow]
theorem mask_of : ∀ m : Nat, m < 41 → (1 : Int64) <<< ((iO (m : Int)).toInt64 &&& 63) - 1 = lO ((2 ^ m - 1 : Nat) : Int) := by decide +kernel
theorem lO_mask (x m : Nat) (hx : x < 2199023255552) (hm : m < 41) : lO (x : Int) &&& lO ((2 ^ m - 1 : Nat) : Int) = lO ((x % 2 ^ m : Nat) : Int) := by
  have h1 : x % 2 ^ m ≤ x := Nat.mod_le _ _
  have h2 : 2 ^ m ≤ 2 ^ 40 := Nat.pow_le_pow_right (by omega) (by omega)
  have h2 : 2 ^ m ≤ 1099511627776 := h2
  apply Int64.toBitVec_inj.mp
  apply BitVec.eq_of_toNat_eq
  rw [Int64.toBitVec_and, BitVec.toNat_and, lO_bv x (by omega), lO_bv _ (by omega), lO_bv (x % 2 ^ m) (by omega)]
  exact Nat.and_two_pow_sub_one_eq_mod x m
theorem i_mod {x y : Nat} (hx : x < 2147483648) (hy : 0 < y) (hy2 : y < 2147483648) : iO (x : Int) - iO (x : Int) / iO (y : Int) * iO (y : Int) = iO ((x % y : Nat) : Int) := by
  rw [iO_divp (by omega) (by unfold i32; omega) (by omega) (by unfold i32; omega), iO_mul, iO_sub]
  congr 1
  rw [Int.natCast_emod, Int.emod_def, Int.mul_comm (y : Int)]
/-- one turning further: the first bit goes to the end -/
theorem turn1 {M V : Nat} {b W : Nat} (hM : M < 40) (hb : b < 2) (hW : W < 2 ^ M) (hV : V = 2 ^ M * b + W) : ((lO (V : Int) <<< ((1 : Int32).toInt64 &&& 63)) &&& lO ((2 ^ (M + 1) - 1 : Nat) : Int)) ||| (lO (V : Int) >>> ((iO (M : Int)).toInt64 &&& 63)) = lO ((2 * W + b : Nat) : Int) := by
  have h2 : 2 ^ M ≤ 2 ^ 39 := Nat.pow_le_pow_right (by omega) (by omega)
  have h2 : 2 ^ M ≤ 549755813888 := h2
  have hVb : V < 1099511627776 := by
    rcases (show b = 0 ∨ b = 1 by omega) with h | h <;> subst h <;> omega
  have e1 : 2 * V % 2 ^ (M + 1) = 2 * W := by
    rw [Nat.pow_succ]
    have hh : 2 * V = 2 * W + 2 ^ M * 2 * b := by
      rw [hV, Nat.mul_add, Nat.mul_assoc (2 ^ M) 2 b, Nat.mul_left_comm]
      omega
    rw [hh, Nat.add_mul_mod_self_left, Nat.mod_eq_of_lt (by omega)]
  have e2 : V / 2 ^ M = b := by
    rw [hV, Nat.mul_add_div (Nat.two_pow_pos M), Nat.div_eq_of_lt hW, Nat.add_zero]
  rw [lO_dbl V hVb, lO_mask _ _ (by omega) (by omega), rsh_of (by omega), lO_shr V M hVb (by omega), e1, e2, lO_or1 W b (by omega) hb]
/-- the least turning -/
def tbest (V : Nat → Int) : Nat → Nat → Nat → Nat
  | 0, _, b => b
  | j + 1, a, b => tbest V j (a + 1) (if V a < V b then a else b)
def vt (x : Int64) (m a : Nat) : Int := vl (fun i => bt x ((a + i) % m)) m
def p_turning (x : Int64) (m : Int) : Int := if 1 ≤ m ∧ m ≤ 40 then ((tbest (vt x m.toNat) (m.toNat - 1) 1 0 : Nat) : Int) else -1
theorem vt_bd (x : Int64) (m a : Nat) (hm : m ≤ 40) : 0 ≤ vt x m a ∧ vt x m a < 1099511627776 := by
  have h := vl_bd (u := fun i => bt x ((a + i) % m)) (fun i => bt_01 _ _) m
  have h2 : (2 : Int) ^ m ≤ 2 ^ 40 := p2_le hm
  have h2 : (2 : Int) ^ m ≤ 1099511627776 := h2
  unfold vt
  omega
section TRN
variable {sc : en_S} {n : Nat} {S : ST5} {z : en_H}
theorem x_backward {x : Int64} {m : Nat} (hm : m ≤ 40) : f_X11_backward sc (n + 1) x (iO (m : Int)) z = some (some (.long (lO (vt x m 0))), z) := by
  have key : ∀ (j i : Nat), i + j = m → b_X11_backward_1 sc n x (iO (m : Int)) (lO (vl (fun i => bt x ((0 + i) % m)) i)) (iO (i : Int)) z = some (some (.long (lO (vt x m 0))), z) := by
    intro j
    induction j with
    | zero =>
      intro i hi
      obtain rfl : i = m := by omega
      rw [eb_X11_backward_1]
      simp (disch := (first | assumption | (unfold i32; omega) | (unfold i64; omega) | omega)) only [↓reduceIte, ki_0, ki_1, ki_2, ki_3, ki_4, ki_5, ki_6, ki_7, ki_8, ki_9, ki_10, ki_11, ki_12, ki_13, ki_14, ki_15, ki_20, ki_21, ki_30, ki_31, ki_40, ki_41, ki_50, ki_51, ki_60, ki_63, ki_64, ki_65, ki_100, ki_158, ki_160, ki_200, ki_212, ki_1000, ki_2000, ki_2001, ki_5000, ki_10000, ki_10001, ki_100000, ki_200000, ki_1000000, ki_2000000, ki_3000000, iO_neg, iO_add, iO_sub, iO_mul, kn_4, kn_8, kn_10, kn_20, kn_24, kn_40, kn_41, kn_50, kn_60, kn_158, kn_160, kn_200, kn_212, kn_2001, tn_lt, fn_lt, tn_le, fn_le, tn_eq, fn_eq, x_lt, x_le, x_eq, x_ix, x_nat, t_lt, f_lt, t_le, f_le, t_eq, f_eq, eq_self, and_self, true_and, and_true, false_and, and_false, if_true, if_false, Int.toNat_natCast, bI_s, bL_s, bA_s, bA_n, bV_s, mq_s, mq_n, en_le, bl_0, bl_1, u_eq, u_ne, w_eq, w_ne, v_eq, v_ne]
      rfl
    | succ j ih =>
      intro i hi
      rw [← ih (i + 1) (by omega), eb_X11_backward_1]
      have hb := vl_bd (u := fun i => bt x ((0 + i) % m)) (fun i => bt_01 _ _) i
      have h2 : (2 : Int) ^ i ≤ 2 ^ 39 := p2_le (by omega)
      have h2 : (2 : Int) ^ i ≤ 549755813888 := h2
      obtain ⟨V, hV⟩ : ∃ V : Nat, vl (fun i => bt x ((0 + i) % m)) i = V := ⟨(vl (fun i => bt x ((0 + i) % m)) i).toNat, by omega⟩
      have e1 : (0 + i) % m = i := by rw [Nat.zero_add, Nat.mod_eq_of_lt (by omega)]
      obtain ⟨b, hbb, hb2⟩ : ∃ b : Nat, bt x i = b ∧ b < 2 := ⟨(bt x i).toNat, by have := bt_01 x i; omega, by have := bt_01 x i; omega⟩
      have e2 : vl (fun i => bt x ((0 + i) % m)) (i + 1) = ((2 * V + b : Nat) : Int) := by
        rw [vl, hV, e1, hbb]
        omega
      rw [if_neg (nle (a := (m : Int)) (b := (i : Int)) (by unfold i32; omega) (by unfold i32; omega) (by omega)), rsh_of (by omega), bt_of x (by omega), hV, hbb, lO_dbl V (by omega), lO_or1 V b (by omega) hb2, e2, en_le, en_le, ki_1, iO_add]
      rfl
  rw [e_X11_backward]
  exact key m 0 (by omega)
theorem vt_next {x : Int64} {M a : Nat} : ∃ b W : Nat, b < 2 ∧ W < 2 ^ M ∧ vt x (M + 1) a = ((2 ^ M * b + W : Nat) : Int) ∧ vt x (M + 1) (a + 1) = ((2 * W + b : Nat) : Int) := by
  have h1 := vl_shift (u := fun i => bt x ((a + i) % (M + 1))) M
  have hw := vl_bd (u := fun i => bt x ((a + (i + 1)) % (M + 1))) (fun i => bt_01 _ _) M
  have hc : vl (fun i => bt x ((a + 1 + i) % (M + 1))) M = vl (fun i => bt x ((a + (i + 1)) % (M + 1))) M := vl_cg M (fun i _ => by
    show bt x ((a + 1 + i) % (M + 1)) = bt x ((a + (i + 1)) % (M + 1))
    rw [Nat.add_assoc, Nat.add_comm 1 i])
  have hl : bt x ((a + 1 + M) % (M + 1)) = bt x ((a + 0) % (M + 1)) := by
    show _ = bt x (a % (M + 1))
    rw [Nat.add_assoc, Nat.add_comm 1 M, Nat.add_mod_right]
  have hb := bt_01 x ((a + 0) % (M + 1))
  refine ⟨(bt x ((a + 0) % (M + 1))).toNat, (vl (fun i => bt x ((a + (i + 1)) % (M + 1))) M).toNat, by omega, ?_, ?_, ?_⟩
  · have h2 : ((2 ^ M : Nat) : Int) = (2 : Int) ^ M := by simp
    omega
  · unfold vt
    rw [h1]
    have h2 : ((2 ^ M : Nat) : Int) = (2 : Int) ^ M := by simp
    rw [Int.natCast_add, Int.natCast_mul, h2, Int.toNat_of_nonneg hw.1, Int.toNat_of_nonneg (show 0 ≤ bt x ((a + 0) % (M + 1)) by omega)]
  · unfold vt
    rw [vl, hc, hl]
    omega
theorem x_turning_loop {x : Int64} {M : Nat} (hm : M < 40) : ∀ (j a b : Nat), a + j = M + 1 → 1 ≤ a → b ≤ M → b_X11_turning_3 sc n (iO ((M + 1 : Nat) : Int)) (lO ((2 ^ (M + 1) - 1 : Nat) : Int)) (lO (vt x (M + 1) (a - 1))) (lO (vt x (M + 1) b)) (iO (b : Int)) (iO (a : Int)) z = some (some (.int (iO ((tbest (vt x (M + 1)) j a b : Nat) : Int))), z) := by
  intro j
  induction j with
  | zero =>
    intro a b ha h1 hb
    rw [eb_X11_turning_3, if_pos (ple (a := ((M + 1 : Nat) : Int)) (b := (a : Int)) (by unfold i32; omega) (by unfold i32; omega) (by omega))]
    rfl
  | succ j ih =>
    intro a b ha h1 hb
    obtain ⟨c, W, q1, q2, q3, q4⟩ := vt_next (x := x) (M := M) (a := a - 1)
    rw [show a - 1 + 1 = a by omega] at q4
    have ht := turn1 hm q1 q2 rfl
    rw [← q3, ← q4] at ht
    have b1 := vt_bd x (M + 1) a (by omega)
    have b2 := vt_bd x (M + 1) b (by omega)
    have e1 : iO ((M + 1 : Nat) : Int) - 1 = iO (M : Int) := by
      rw [ki_1, iO_sub]
      congr 1
      omega
    rw [eb_X11_turning_3, if_neg (nle (a := ((M + 1 : Nat) : Int)) (b := (a : Int)) (by unfold i32; omega) (by unfold i32; omega) (by omega)), e1, ht, tbest]
    by_cases g : vt x (M + 1) a < vt x (M + 1) b
    · rw [if_pos g, ← ih (a + 1) a (by omega) (by omega) (by omega)]
      clear ih ht q3 q4
      rw [show a + 1 - 1 = a by omega]
      generalize vt x (M + 1) a = P at *
      generalize vt x (M + 1) b = Q at *
      simp (disch := (first | assumption | (unfold i32; omega) | (unfold i64; omega) | omega)) only [↓reduceIte, ki_0, ki_1, ki_2, ki_3, ki_4, ki_5, ki_6, ki_7, ki_8, ki_9, ki_10, ki_11, ki_12, ki_13, ki_14, ki_15, ki_20, ki_21, ki_30, ki_31, ki_40, ki_41, ki_50, ki_51, ki_60, ki_63, ki_64, ki_65, ki_100, ki_158, ki_160, ki_200, ki_212, ki_1000, ki_2000, ki_2001, ki_5000, ki_10000, ki_10001, ki_100000, ki_200000, ki_1000000, ki_2000000, ki_3000000, iO_neg, iO_add, iO_sub, iO_mul, kn_4, kn_8, kn_10, kn_20, kn_24, kn_40, kn_41, kn_50, kn_60, kn_158, kn_160, kn_200, kn_212, kn_2001, tn_lt, fn_lt, tn_le, fn_le, tn_eq, fn_eq, x_lt, x_le, x_eq, x_ix, x_nat, t_lt, f_lt, t_le, f_le, t_eq, f_eq, eq_self, and_self, true_and, and_true, false_and, and_false, if_true, if_false, Int.toNat_natCast, bI_s, bL_s, bA_s, bA_n, bV_s, mq_s, mq_n, en_le, bl_0, bl_1, u_eq, u_ne, w_eq, w_ne, v_eq, v_ne, lc_lt, lc_le, lc_gt, lc_ge, lc_eq, y_lt, y_le, y_eq]
      rfl
    · rw [if_neg g, ← ih (a + 1) b (by omega) (by omega) (by omega)]
      have g : vt x (M + 1) b ≤ vt x (M + 1) a := by omega
      clear ih ht q3 q4
      have e3 : a + 1 - 1 = a := by omega
      rw [e3]
      generalize vt x (M + 1) a = P at *
      generalize vt x (M + 1) b = Q at *
      simp (disch := (first | assumption | (unfold i32; omega) | (unfold i64; omega) | omega)) only [↓reduceIte, ki_0, ki_1, ki_2, ki_3, ki_4, ki_5, ki_6, ki_7, ki_8, ki_9, ki_10, ki_11, ki_12, ki_13, ki_14, ki_15, ki_20, ki_21, ki_30, ki_31, ki_40, ki_41, ki_50, ki_51, ki_60, ki_63, ki_64, ki_65, ki_100, ki_158, ki_160, ki_200, ki_212, ki_1000, ki_2000, ki_2001, ki_5000, ki_10000, ki_10001, ki_100000, ki_200000, ki_1000000, ki_2000000, ki_3000000, iO_neg, iO_add, iO_sub, iO_mul, kn_4, kn_8, kn_10, kn_20, kn_24, kn_40, kn_41, kn_50, kn_60, kn_158, kn_160, kn_200, kn_212, kn_2001, tn_lt, fn_lt, tn_le, fn_le, tn_eq, fn_eq, x_lt, x_le, x_eq, x_ix, x_nat, t_lt, f_lt, t_le, f_le, t_eq, f_eq, eq_self, and_self, true_and, and_true, false_and, and_false, if_true, if_false, Int.toNat_natCast, bI_s, bL_s, bA_s, bA_n, bV_s, mq_s, mq_n, en_le, bl_0, bl_1, u_eq, u_ne, w_eq, w_ne, v_eq, v_ne, lc_lt, lc_le, lc_gt, lc_ge, lc_eq, y_lt, y_le, y_eq]
      rfl
theorem cs_turning {x : Int64} {m : Int} (hm : i32 m) : CS S S (p_turning x m) (fun z => f_X11_turning sc (n + 40) 1 x (iO m) z) := by
  obtain ⟨m1, m2⟩ := id hm
  apply cs_ask
  intro XI XA XP XC MI MA ML D Γ hV
  show f_X11_turning sc (n + 40) 1 x (iO m) _ = _
  rw [e_X11_turning]
  unfold p_turning
  by_cases g : 1 ≤ m ∧ m ≤ 40
  · rw [if_pos g]
    obtain ⟨M, rfl⟩ : ∃ M : Nat, m = ((M + 1 : Nat) : Int) := ⟨m.toNat - 1, by omega⟩
    rw [if_neg (show ¬ (iO ((M + 1 : Nat) : Int) < 1) from nlt (a := ((M + 1 : Nat) : Int)) (b := 1) (by unfold i32; omega) (by unfold i32; omega) (by omega)), if_pos (show iO ((M + 1 : Nat) : Int) ≤ 40 from ple (a := ((M + 1 : Nat) : Int)) (b := 40) (by unfold i32; omega) (by unfold i32; omega) (by omega)), mask_of (M + 1) (by omega), en_le, x_backward (by omega), bL_s, Int.toNat_natCast]
    exact x_turning_loop (by omega) M 1 0 (by omega) (by omega) (by omega)
  · rw [if_neg g]
    rcases Int.lt_or_le m 1 with g2 | g2
    · rw [if_pos (show iO m < 1 from plt (a := m) (b := 1) hm (by unfold i32; omega) g2)]
      rfl
    · rw [if_neg (show ¬ (iO m < 1) from nlt (a := m) (b := 1) hm (by unfold i32; omega) (by omega)), if_neg (show ¬ (iO m ≤ 40) from nle (a := m) (b := 40) hm (by unfold i32; omega) (by omega))]
      rfl
theorem m_turning_3 {x : Int64} {m a b : Nat} (hm : m ≤ 40) (h1 : 1 ≤ m) (ha : a < m) (hb : b < m) : ∀ (j i : Nat), i + j = m → (∀ t, t < i → bt x ((a + t) % m) = bt x ((b + t) % m)) → b_X12_turning_3 sc n x (iO (m : Int)) (iO (b : Int)) (iO (a : Int)) (iO (i : Int)) z = b_X12_turning_2 sc n x (iO (m : Int)) (iO ((if vt x m a < vt x m b then a else b : Nat) : Int)) (iO ((a + 1 : Nat) : Int)) z := by
  intro j
  induction j with
  | zero =>
    intro i hi h
    obtain rfl : i = m := by omega
    have e : vt x i a = vt x i b := vl_cg i h
    rw [eb_X12_turning_3, if_pos (ple (a := (i : Int)) (b := (i : Int)) (by unfold i32; omega) (by unfold i32; omega) (by omega)), eb_X12_turning_4, if_pos (ple (a := (i : Int)) (b := (i : Int)) (by unfold i32; omega) (by unfold i32; omega) (by omega)), if_neg (show ¬ vt x i a < vt x i b by omega), en_le, ki_1, iO_add]
    rfl
  | succ j ih =>
    intro i hi h
    have k1 := Nat.mod_lt (a + i) (show 0 < m by omega)
    have k2 := Nat.mod_lt (b + i) (show 0 < m by omega)
    have e1 : iO (a : Int) + iO (i : Int) - (iO (a : Int) + iO (i : Int)) / iO (m : Int) * iO (m : Int) = iO (((a + i) % m : Nat) : Int) := by
      rw [iO_add, ← i_mod (x := a + i) (y := m) (by omega) (by omega) (by omega)]
      rfl
    have e2 : iO (b : Int) + iO (i : Int) - (iO (b : Int) + iO (i : Int)) / iO (m : Int) * iO (m : Int) = iO (((b + i) % m : Nat) : Int) := by
      rw [iO_add, ← i_mod (x := b + i) (y := m) (by omega) (by omega) (by omega)]
      rfl
    have n0 : ¬ iO (m : Int) = 0 := fun q => by
      have := (iO_eq (a := (m : Int)) (b := 0) (by unfold i32; omega) (by unfold i32; omega)).mp q
      omega
    have hl := ih (i + 1) (by omega)
    have ba := bt_01 x ((a + i) % m)
    have bb := bt_01 x ((b + i) % m)
    have hlg : ∀ P Q : Int, (P = 0 ∨ P = 1) → (Q = 0 ∨ Q = 1) → (lg_cmp (lO P) (lO Q) = 0 ↔ P = Q) := by
      intro P Q hP hQ
      rw [show (lg_cmp (lO P) (lO Q) = 0) = (lO P = lO Q) from lc_eq (lO P) (lO Q)]
      exact lO_eq (by unfold i64; omega) (by unfold i64; omega)
    rw [eb_X12_turning_3, if_neg (nle (a := (m : Int)) (b := (i : Int)) (by unfold i32; omega) (by unfold i32; omega) (by omega)), if_neg n0, if_neg n0, e1, e2, rsh_of (by omega), rsh_of (by omega), bt_of x (by omega), bt_of x (by omega)]
    by_cases g : bt x ((a + i) % m) = bt x ((b + i) % m)
    · rw [if_pos ((hlg _ _ ba bb).mpr g), en_le]
      refine Eq.trans ?_ (hl (fun t ht => ?_))
      · rw [ki_1, iO_add]
        rfl
      · by_cases e : t = i
        · subst e; exact g
        · exact h t (by omega)
    · rw [if_neg (fun q => g ((hlg _ _ ba bb).mp q)), eb_X12_turning_4, if_neg (nle (a := (m : Int)) (b := (i : Int)) (by unfold i32; omega) (by unfold i32; omega) (by omega)), if_neg n0, e1, rsh_of (by omega), bt_of x (by omega)]
      rcases ba with q | q
      · have q2 : bt x ((b + i) % m) = 1 := by omega
        have hlt : vt x m a < vt x m b := vl_lt (fun i => bt_01 _ _) (fun i => bt_01 _ _) m i (by omega) h q q2
        rw [if_pos hlt, q, if_pos (show lg_cmp (lO 0) 0 = 0 from (hlg 0 0 (by omega) (by omega)).mpr rfl), en_le, ki_1, iO_add]
        rfl
      · have q2 : bt x ((b + i) % m) = 0 := by omega
        have hlt : vt x m b < vt x m a := vl_lt (fun i => bt_01 _ _) (fun i => bt_01 _ _) m i (by omega) (fun t ht => (h t ht).symm) q2 q
        rw [if_neg (show ¬ vt x m a < vt x m b by omega), q, if_neg (show ¬ lg_cmp (lO 1) 0 = 0 from fun r => absurd ((hlg 1 0 (by omega) (by omega)).mp r) (by decide)), en_le, ki_1, iO_add]
        rfl
theorem m_turning_2 {x : Int64} {m : Nat} (hm : m ≤ 40) (h1 : 1 ≤ m) : ∀ (j a b : Nat), a + j = m → b < m → b_X12_turning_2 sc n x (iO (m : Int)) (iO (b : Int)) (iO (a : Int)) z = some (some (.int (iO ((tbest (vt x m) j a b : Nat) : Int))), z) := by
  intro j
  induction j with
  | zero =>
    intro a b ha hb
    rw [eb_X12_turning_2, if_pos (ple (a := (m : Int)) (b := (a : Int)) (by unfold i32; omega) (by unfold i32; omega) (by omega))]
    rfl
  | succ j ih =>
    intro a b ha hb
    have h3 := m_turning_3 (sc := sc) (n := n) (z := z) (x := x) hm h1 (a := a) (b := b) (by omega) hb m 0 (by omega) (fun t ht => by omega)
    rw [eb_X12_turning_2, if_neg (nle (a := (m : Int)) (b := (a : Int)) (by unfold i32; omega) (by unfold i32; omega) (by omega)), tbest]
    refine Eq.trans h3 ?_
    exact ih (a + 1) _ (by omega) (by split <;> omega)
theorem mc_turning {x : Int64} {m : Int} (hm : i32 m) : MC S S (p_turning x m) (fun z => f_X12_turning sc (n + 40) 26 x (iO m) z) := by
  obtain ⟨m1, m2⟩ := id hm
  apply mc_ask
  intro XI XA XP XC MI MA ML D hV
  show f_X12_turning sc (n + 40) 26 x (iO m) _ = _
  rw [e_X12_turning, ki_1, ki_40, e_in hm (by unfold i32; omega) (by unfold i32; omega), bI_s]
  unfold p_turning
  by_cases g : 1 ≤ m ∧ m ≤ 40
  · rw [if_pos g, if_pos g]
    obtain ⟨y, rfl⟩ : ∃ y : Nat, m = y := ⟨m.toNat, by omega⟩
    rw [if_neg (show ¬ iO 1 = 0 by decide), Int.toNat_natCast]
    exact m_turning_2 (by omega) (by omega) (y - 1) 1 0 (by omega) (by omega)
  · rw [if_neg g, if_neg g, if_pos (show iO 0 = 0 from rfl)]
    rfl
end TRN
