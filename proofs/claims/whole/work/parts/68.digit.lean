/-! nearer, digit: the class -/
def dgr (L : List Int) (i : Nat) : Nat → Int → Int
  | 0, left => left / L.getD i 0
  | j + 1, left => dgr L i j (left % L.getD (i + j + 1) 0)
noncomputable def p_digit (S : ST5) (s N i : Int) : Int := match slq S s with
  | some q => if 0 ≤ N ∧ N ≤ 10000 ∧ 0 ≤ i ∧ i < ((ll (qls q)).length : Nat) then dgr (ll (qls q)) i.toNat ((ll (qls q)).length - 1 - i.toNat) N else -1
  | none => -1
section DCL
variable {sc : en_S} {n : Nat} {S : ST5}
theorem cs_nearer (hS : OK5 S) {s i : Int} (hs : i32 s) (hi : i32 i) : CS S S (p_nearer S s i) (fun z => f_X11_nearer sc (n + 40) 1 (iO s) (iO i) z) := by
  apply cs_ask
  intro XI XA XP XC MI MA ML D Γ hV
  obtain ⟨b1, b2⟩ := p_line_bd hS s i
  show f_X11_nearer sc (n + 40) 1 (iO s) (iO i) _ = _
  rw [e_X11_nearer]
  unfold p_nearer
  unfold p_line at *
  cases hq : slq S s with
  | none =>
    rw [if_pos (by show (-1 : Int) ≤ 2000; decide)]
    simp (disch := (first | assumption | (unfold i32; omega) | (unfold i64; omega) | omega)) only [ki_0, ki_1, ki_2, ki_3, ki_4, ki_5, ki_6, ki_7, ki_8, ki_9, ki_10, ki_11, ki_12, ki_13, ki_14, ki_15, ki_20, ki_21, ki_30, ki_31, ki_40, ki_41, ki_50, ki_51, ki_60, ki_63, ki_64, ki_65, ki_100, ki_158, ki_160, ki_200, ki_212, ki_1000, ki_2000, ki_2001, ki_5000, ki_10000, ki_10001, ki_100000, ki_200000, ki_1000000, ki_2000000, ki_3000000, iO_neg, iO_add, iO_sub, iO_mul, kn_4, kn_8, kn_10, kn_20, kn_24, kn_40, kn_41, kn_50, kn_60, kn_158, kn_160, kn_200, kn_212, kn_2001, tn_lt, fn_lt, tn_le, fn_le, tn_eq, fn_eq, x_lt, x_le, x_eq, x_ix, x_nat, t_lt, f_lt, t_le, f_le, t_eq, f_eq, eq_self, and_self, true_and, and_true, false_and, and_false, if_true, if_false, Int.toNat_natCast, bI_s, bL_s, bA_s, bA_n, bV_s, mq_s, mq_n, en_le, bl_0, bl_1, u_eq, u_ne, w_eq, w_ne, v_eq, v_ne, hp_cc_1, hp_g_1_0, hp_g_1_1, hp_g_1_2, hp_g_1_3, hp_g_1_4, hp_g_1_5, hp_g_1_6, hp_g_1_7, hp_g_1_8, hp_p_1_8, hp_g_1_9, hp_p_1_9, hp_g_1_10, hp_p_1_10, hp_a_2, hp_n_2, hp_a_3, hp_n_3, hp_a_4, x_slopeAt0 hV hS hs hq, e_X11_lineAt_N0]
  | some l =>
    rw [hq] at b1 b2
    obtain ⟨k, rfl, hk, hq2⟩ := slq_some hq
    obtain ⟨pp, c1, c2⟩ := hV.2.2.2.2.1 k l hq2
    have hSL := hS.2.2.1 l (List.mem_of_getElem? hq2)
    have hsl := x_slopeAt1 (sc := sc) (n := n + 38) (XC := XC) (MI := MI) (MA := MA) (ML := ML) hV hS hq2 c1
    have hln := x_lineAt (sc := sc) (n := n + 38) (XI := XI) (XA := XA) (XP := XP) (XC := XC) (MI := MI) (MA := MA) (ML := ML) c2 hSL hi
    clear hV c2 hSL
    have b1 : -1 ≤ (if 0 ≤ i ∧ i < ((ll (qls l)).length : Nat) then (ll (qls l)).getD i.toNat 0 else -1) := b1
    have b2 : (if 0 ≤ i ∧ i < ((ll (qls l)).length : Nat) then (ll (qls l)).getD i.toNat 0 else -1) ≤ 10000 := b2
    show _ = some (some (Value.int (iO (if (if 0 ≤ i ∧ i < ((ll (qls l)).length : Nat) then (ll (qls l)).getD i.toNat 0 else -1) ≤ 2000 then (if 0 ≤ i ∧ i < ((ll (qls l)).length : Nat) then (ll (qls l)).getD i.toNat 0 else -1) else -1))), _)
    generalize (if 0 ≤ i ∧ i < ((ll (qls l)).length : Nat) then (ll (qls l)).getD i.toNat 0 else -1) = x at *
    by_cases g : x ≤ 2000
    · rw [if_pos g]
      simp (disch := (first | assumption | (unfold i32; omega) | (unfold i64; omega) | omega)) only [ki_0, ki_1, ki_2, ki_3, ki_4, ki_5, ki_6, ki_7, ki_8, ki_9, ki_10, ki_11, ki_12, ki_13, ki_14, ki_15, ki_20, ki_21, ki_30, ki_31, ki_40, ki_41, ki_50, ki_51, ki_60, ki_63, ki_64, ki_65, ki_100, ki_158, ki_160, ki_200, ki_212, ki_1000, ki_2000, ki_2001, ki_5000, ki_10000, ki_10001, ki_100000, ki_200000, ki_1000000, ki_2000000, ki_3000000, iO_neg, iO_add, iO_sub, iO_mul, kn_4, kn_8, kn_10, kn_20, kn_24, kn_40, kn_41, kn_50, kn_60, kn_158, kn_160, kn_200, kn_212, kn_2001, tn_lt, fn_lt, tn_le, fn_le, tn_eq, fn_eq, x_lt, x_le, x_eq, x_ix, x_nat, t_lt, f_lt, t_le, f_le, t_eq, f_eq, eq_self, and_self, true_and, and_true, false_and, and_false, if_true, if_false, Int.toNat_natCast, bI_s, bL_s, bA_s, bA_n, bV_s, mq_s, mq_n, en_le, bl_0, bl_1, u_eq, u_ne, w_eq, w_ne, v_eq, v_ne, hp_cc_1, hp_g_1_0, hp_g_1_1, hp_g_1_2, hp_g_1_3, hp_g_1_4, hp_g_1_5, hp_g_1_6, hp_g_1_7, hp_g_1_8, hp_p_1_8, hp_g_1_9, hp_p_1_9, hp_g_1_10, hp_p_1_10, hp_a_2, hp_n_2, hp_a_3, hp_n_3, hp_a_4, hsl, hln]
    · rw [if_neg g]
      simp (disch := (first | assumption | (unfold i32; omega) | (unfold i64; omega) | omega)) only [ki_0, ki_1, ki_2, ki_3, ki_4, ki_5, ki_6, ki_7, ki_8, ki_9, ki_10, ki_11, ki_12, ki_13, ki_14, ki_15, ki_20, ki_21, ki_30, ki_31, ki_40, ki_41, ki_50, ki_51, ki_60, ki_63, ki_64, ki_65, ki_100, ki_158, ki_160, ki_200, ki_212, ki_1000, ki_2000, ki_2001, ki_5000, ki_10000, ki_10001, ki_100000, ki_200000, ki_1000000, ki_2000000, ki_3000000, iO_neg, iO_add, iO_sub, iO_mul, kn_4, kn_8, kn_10, kn_20, kn_24, kn_40, kn_41, kn_50, kn_60, kn_158, kn_160, kn_200, kn_212, kn_2001, tn_lt, fn_lt, tn_le, fn_le, tn_eq, fn_eq, x_lt, x_le, x_eq, x_ix, x_nat, t_lt, f_lt, t_le, f_le, t_eq, f_eq, eq_self, and_self, true_and, and_true, false_and, and_false, if_true, if_false, Int.toNat_natCast, bI_s, bL_s, bA_s, bA_n, bV_s, mq_s, mq_n, en_le, bl_0, bl_1, u_eq, u_ne, w_eq, w_ne, v_eq, v_ne, hp_cc_1, hp_g_1_0, hp_g_1_1, hp_g_1_2, hp_g_1_3, hp_g_1_4, hp_g_1_5, hp_g_1_6, hp_g_1_7, hp_g_1_8, hp_p_1_8, hp_g_1_9, hp_p_1_9, hp_g_1_10, hp_p_1_10, hp_a_2, hp_n_2, hp_a_3, hp_n_3, hp_a_4, hsl, hln]
theorem x_digit_loop {XI : Nat → Int32} {XA : Nat → Nat → Int32} {XP : Nat → Nat → Option Nat} {XC : Value} {MI : Nat → Int32} {MA : Nat → Nat → Int32} {ML : Nat → Nat → Int64} {D : en_H} {pp i : Nat} {L : List Int} {ls : Nat → Int32} (hL : L.length ≤ 20) (hb : ∀ y ∈ L, 1 ≤ y ∧ y ≤ 10000) (hls : ∀ (i : Nat) (x : Int), L[i]? = some x → ls i = iO x) (g0 : ∀ (f0 : Option en_R) (f : Nat → Option en_R), en_gA (hp XI XA XP XC MI MA ML D) (pp + 51) [(6, 0)] 2 f0 f = f (pp + 53)) (ga : ∀ (i : Int32) (f : Int32 → Option en_R), en_aI sc (hp XI XA XP XC MI MA ML D) (pp + 53) i f = if en_ix i 20 then f (ls i.toNatClampNeg) else none) : ∀ (j : Nat) (left : Int), i + j < L.length → 0 ≤ left → left ≤ 10000 → b_X11_digit_3 sc (n + 1) (iO (i : Nat)) (pp + 51) (iO left) (iO ((i + j : Nat) : Int)) (hp XI XA XP XC MI MA ML D) = some (some (.int (iO (dgr L i j left))), hp XI XA XP XC MI MA ML D) := by
  intro j
  induction j with
  | zero =>
    intro left hj h1 h2
    have hg := getD_get (l := L) (k := i) (by omega)
    have hy := hls i _ hg
    have hbd := hb _ (List.mem_of_getElem? hg)
    rw [eb_X11_digit_3, dgr]
    generalize L.getD i 0 = w at *
    have hf := e_floorDivI (sc := sc) (n := n) (a := left) (b := w) (z := hp XI XA XP XC MI MA ML D) (by unfold i32; omega) (by omega) (by unfold i32; omega) (by omega)
    have hm := e_maxI (sc := sc) (n := n) (a := 1) (b := w) (z := hp XI XA XP XC MI MA ML D) (by unfold i32; omega) (by unfold i32; omega)
    rw [show max 1 w = w by omega] at hm
    clear hb hls hg
    simp (disch := (first | assumption | (unfold i32; omega) | (unfold i64; omega) | omega)) only [ki_0, ki_1, ki_2, ki_3, ki_4, ki_5, ki_6, ki_7, ki_8, ki_9, ki_10, ki_11, ki_12, ki_13, ki_14, ki_15, ki_20, ki_21, ki_30, ki_31, ki_40, ki_41, ki_50, ki_51, ki_60, ki_63, ki_64, ki_65, ki_100, ki_158, ki_160, ki_200, ki_212, ki_1000, ki_2000, ki_2001, ki_5000, ki_10000, ki_10001, ki_100000, ki_200000, ki_1000000, ki_2000000, ki_3000000, iO_neg, iO_add, iO_sub, iO_mul, kn_4, kn_8, kn_10, kn_20, kn_24, kn_40, kn_41, kn_50, kn_60, kn_158, kn_160, kn_200, kn_212, kn_2001, tn_lt, fn_lt, tn_le, fn_le, tn_eq, fn_eq, x_lt, x_le, x_eq, x_ix, x_nat, t_lt, f_lt, t_le, f_le, t_eq, f_eq, eq_self, and_self, true_and, and_true, false_and, and_false, if_true, if_false, Int.toNat_natCast, bI_s, bL_s, bA_s, bA_n, bV_s, mq_s, mq_n, en_le, bl_0, bl_1, u_eq, u_ne, w_eq, w_ne, v_eq, v_ne, g0, ga, hy, hm, hf]
  | succ j ih =>
    intro left hj h1 h2
    have hg := getD_get (l := L) (k := i + j + 1) (by omega)
    have hy := hls (i + j + 1) _ hg
    have hbd := hb _ (List.mem_of_getElem? hg)
    rw [eb_X11_digit_3, dgr]
    generalize L.getD (i + j + 1) 0 = w at *
    have m1 := Int.emod_nonneg left (show w ≠ 0 by omega)
    have m2 := Int.emod_lt_of_pos left (show 0 < w by omega)
    have hf := e_floorModI (sc := sc) (n := n) (a := left) (b := w) (z := hp XI XA XP XC MI MA ML D) (by unfold i32; omega) (by omega) (by unfold i32; omega) (by omega)
    have hm := e_maxI (sc := sc) (n := n) (a := 1) (b := w) (z := hp XI XA XP XC MI MA ML D) (by unfold i32; omega) (by unfold i32; omega)
    rw [show max 1 w = w by omega] at hm
    rw [← ih (left % w) (by omega) m1 (by omega)]
    have e1 : ((i + (j + 1) : Nat) : Int).toNat = i + j + 1 := by omega
    have e2 : ((i + (j + 1) : Nat) : Int) + -1 = ((i + j : Nat) : Int) := by omega
    clear ih hb hls hg m1 m2
    simp (disch := (first | assumption | (unfold i32; omega) | (unfold i64; omega) | omega)) only [ki_0, ki_1, ki_2, ki_3, ki_4, ki_5, ki_6, ki_7, ki_8, ki_9, ki_10, ki_11, ki_12, ki_13, ki_14, ki_15, ki_20, ki_21, ki_30, ki_31, ki_40, ki_41, ki_50, ki_51, ki_60, ki_63, ki_64, ki_65, ki_100, ki_158, ki_160, ki_200, ki_212, ki_1000, ki_2000, ki_2001, ki_5000, ki_10000, ki_10001, ki_100000, ki_200000, ki_1000000, ki_2000000, ki_3000000, iO_neg, iO_add, iO_sub, iO_mul, kn_4, kn_8, kn_10, kn_20, kn_24, kn_40, kn_41, kn_50, kn_60, kn_158, kn_160, kn_200, kn_212, kn_2001, tn_lt, fn_lt, tn_le, fn_le, tn_eq, fn_eq, x_lt, x_le, x_eq, x_ix, x_nat, t_lt, f_lt, t_le, f_le, t_eq, f_eq, eq_self, and_self, true_and, and_true, false_and, and_false, if_true, if_false, Int.toNat_natCast, bI_s, bL_s, bA_s, bA_n, bV_s, mq_s, mq_n, en_le, bl_0, bl_1, u_eq, u_ne, w_eq, w_ne, v_eq, v_ne, g0, ga, e1, hy, hm, hf, e2]
theorem cs_digit (hS : OK5 S) {s N i : Int} (hs : i32 s) (hN : i32 N) (hi : i32 i) : CS S S (p_digit S s N i) (fun z => f_X11_digit sc (n + 40) 1 (iO s) (iO N) (iO i) z) := by
  apply cs_ask
  intro XI XA XP XC MI MA ML D Γ hV
  obtain ⟨i1, i2⟩ := id hi
  obtain ⟨n1, n2⟩ := id hN
  show f_X11_digit sc (n + 40) 1 (iO s) (iO N) (iO i) _ = _
  rw [e_X11_digit]
  unfold p_digit
  cases hq : slq S s with
  | none => simp (disch := (first | assumption | (unfold i32; omega) | (unfold i64; omega) | omega)) only [ki_0, ki_1, ki_2, ki_3, ki_4, ki_5, ki_6, ki_7, ki_8, ki_9, ki_10, ki_11, ki_12, ki_13, ki_14, ki_15, ki_20, ki_21, ki_30, ki_31, ki_40, ki_41, ki_50, ki_51, ki_60, ki_63, ki_64, ki_65, ki_100, ki_158, ki_160, ki_200, ki_212, ki_1000, ki_2000, ki_2001, ki_5000, ki_10000, ki_10001, ki_100000, ki_200000, ki_1000000, ki_2000000, ki_3000000, iO_neg, iO_add, iO_sub, iO_mul, kn_4, kn_8, kn_10, kn_20, kn_24, kn_40, kn_41, kn_50, kn_60, kn_158, kn_160, kn_200, kn_212, kn_2001, tn_lt, fn_lt, tn_le, fn_le, tn_eq, fn_eq, x_lt, x_le, x_eq, x_ix, x_nat, t_lt, f_lt, t_le, f_le, t_eq, f_eq, eq_self, and_self, true_and, and_true, false_and, and_false, if_true, if_false, Int.toNat_natCast, bI_s, bL_s, bA_s, bA_n, bV_s, mq_s, mq_n, en_le, bl_0, bl_1, u_eq, u_ne, w_eq, w_ne, v_eq, v_ne, hp_cc_1, hp_g_1_0, hp_g_1_1, hp_g_1_2, hp_g_1_3, hp_g_1_4, hp_g_1_5, hp_g_1_6, hp_g_1_7, hp_g_1_8, hp_p_1_8, hp_g_1_9, hp_p_1_9, hp_g_1_10, hp_p_1_10, hp_a_2, hp_n_2, hp_a_3, hp_n_3, hp_a_4, x_slopeAt0 hV hS hs hq]
  | some l =>
    obtain ⟨k, rfl, hk, hq2⟩ := slq_some hq
    obtain ⟨pp, c1, c2⟩ := hV.2.2.2.2.1 k l hq2
    have hSL := hS.2.2.1 l (List.mem_of_getElem? hq2)
    obtain ⟨L0, L1, L2⟩ := ll_bd hSL
    have hsl := x_slopeAt1 (sc := sc) (n := n + 38) (XC := XC) (MI := MI) (MA := MA) (ML := ML) hV hS hq2 c1
    obtain ⟨a, b, c, d, t, qs, ls, k1, k2, k3, -, -, -, -, -, kq, kl⟩ := c2
    have g1 : ∀ (f : Int32 → Option en_R), en_gI (hp XI XA XP XC MI MA ML D) (pp + 51) [(6, 0)] 3 f = f (iO ((ll (qls l)).length : Nat)) := fun f => d_gI k1 rfl rfl f
    have g0 : ∀ (f0 : Option en_R) (f : Nat → Option en_R), en_gA (hp XI XA XP XC MI MA ML D) (pp + 51) [(6, 0)] 2 f0 f = f (pp + 53) := fun f0 f => d_gA k1 rfl rfl f0 f
    have ga : ∀ (i : Int32) (f : Int32 → Option en_R), en_aI sc (hp XI XA XP XC MI MA ML D) (pp + 53) i f = if en_ix i 20 then f (ls i.toNatClampNeg) else none := fun i f => d_aI (p := pp + 2) k3 i f
    show _ = some (some (Value.int (iO (if 0 ≤ N ∧ N ≤ 10000 ∧ 0 ≤ i ∧ i < ((ll (qls l)).length : Nat) then dgr (ll (qls l)) i.toNat ((ll (qls l)).length - 1 - i.toNat) N else -1))), _)
    clear hV k1 k2 k3 kq hSL
    by_cases g : 0 ≤ N ∧ N ≤ 10000 ∧ 0 ≤ i ∧ i < ((ll (qls l)).length : Nat)
    · rw [if_pos g]
      obtain ⟨g2, g3, g4, g5⟩ := g
      obtain ⟨y, rfl⟩ : ∃ y : Nat, i = y := ⟨i.toNat, by omega⟩
      rw [Int.toNat_natCast]
      have hl := x_digit_loop (sc := sc) (n := n + 38) (i := y) L2 L0 kl g0 ga ((ll (qls l)).length - 1 - y) N (by omega) g2 g3
      rw [show ((y + ((ll (qls l)).length - 1 - y) : Nat) : Int) = ((ll (qls l)).length : Int) - 1 by omega] at hl
      clear kl L0
      simp (disch := (first | assumption | (unfold i32; omega) | (unfold i64; omega) | omega)) only [ki_0, ki_1, ki_2, ki_3, ki_4, ki_5, ki_6, ki_7, ki_8, ki_9, ki_10, ki_11, ki_12, ki_13, ki_14, ki_15, ki_20, ki_21, ki_30, ki_31, ki_40, ki_41, ki_50, ki_51, ki_60, ki_63, ki_64, ki_65, ki_100, ki_158, ki_160, ki_200, ki_212, ki_1000, ki_2000, ki_2001, ki_5000, ki_10000, ki_10001, ki_100000, ki_200000, ki_1000000, ki_2000000, ki_3000000, iO_neg, iO_add, iO_sub, iO_mul, kn_4, kn_8, kn_10, kn_20, kn_24, kn_40, kn_41, kn_50, kn_60, kn_158, kn_160, kn_200, kn_212, kn_2001, tn_lt, fn_lt, tn_le, fn_le, tn_eq, fn_eq, x_lt, x_le, x_eq, x_ix, x_nat, t_lt, f_lt, t_le, f_le, t_eq, f_eq, eq_self, and_self, true_and, and_true, false_and, and_false, if_true, if_false, Int.toNat_natCast, bI_s, bL_s, bA_s, bA_n, bV_s, mq_s, mq_n, en_le, bl_0, bl_1, u_eq, u_ne, w_eq, w_ne, v_eq, v_ne, hp_cc_1, hp_g_1_0, hp_g_1_1, hp_g_1_2, hp_g_1_3, hp_g_1_4, hp_g_1_5, hp_g_1_6, hp_g_1_7, hp_g_1_8, hp_p_1_8, hp_g_1_9, hp_p_1_9, hp_g_1_10, hp_p_1_10, hp_a_2, hp_n_2, hp_a_3, hp_n_3, hp_a_4, hsl, g1, hl]
    · rw [if_neg g]
      clear kl L0
      by_cases t1 : N < 0
      · clear g; simp (disch := (first | assumption | (unfold i32; omega) | (unfold i64; omega) | omega)) only [ki_0, ki_1, ki_2, ki_3, ki_4, ki_5, ki_6, ki_7, ki_8, ki_9, ki_10, ki_11, ki_12, ki_13, ki_14, ki_15, ki_20, ki_21, ki_30, ki_31, ki_40, ki_41, ki_50, ki_51, ki_60, ki_63, ki_64, ki_65, ki_100, ki_158, ki_160, ki_200, ki_212, ki_1000, ki_2000, ki_2001, ki_5000, ki_10000, ki_10001, ki_100000, ki_200000, ki_1000000, ki_2000000, ki_3000000, iO_neg, iO_add, iO_sub, iO_mul, kn_4, kn_8, kn_10, kn_20, kn_24, kn_40, kn_41, kn_50, kn_60, kn_158, kn_160, kn_200, kn_212, kn_2001, tn_lt, fn_lt, tn_le, fn_le, tn_eq, fn_eq, x_lt, x_le, x_eq, x_ix, x_nat, t_lt, f_lt, t_le, f_le, t_eq, f_eq, eq_self, and_self, true_and, and_true, false_and, and_false, if_true, if_false, Int.toNat_natCast, bI_s, bL_s, bA_s, bA_n, bV_s, mq_s, mq_n, en_le, bl_0, bl_1, u_eq, u_ne, w_eq, w_ne, v_eq, v_ne, hp_cc_1, hp_g_1_0, hp_g_1_1, hp_g_1_2, hp_g_1_3, hp_g_1_4, hp_g_1_5, hp_g_1_6, hp_g_1_7, hp_g_1_8, hp_p_1_8, hp_g_1_9, hp_p_1_9, hp_g_1_10, hp_p_1_10, hp_a_2, hp_n_2, hp_a_3, hp_n_3, hp_a_4, hsl]
      by_cases t2 : 10000 < N
      · clear g; simp (disch := (first | assumption | (unfold i32; omega) | (unfold i64; omega) | omega)) only [ki_0, ki_1, ki_2, ki_3, ki_4, ki_5, ki_6, ki_7, ki_8, ki_9, ki_10, ki_11, ki_12, ki_13, ki_14, ki_15, ki_20, ki_21, ki_30, ki_31, ki_40, ki_41, ki_50, ki_51, ki_60, ki_63, ki_64, ki_65, ki_100, ki_158, ki_160, ki_200, ki_212, ki_1000, ki_2000, ki_2001, ki_5000, ki_10000, ki_10001, ki_100000, ki_200000, ki_1000000, ki_2000000, ki_3000000, iO_neg, iO_add, iO_sub, iO_mul, kn_4, kn_8, kn_10, kn_20, kn_24, kn_40, kn_41, kn_50, kn_60, kn_158, kn_160, kn_200, kn_212, kn_2001, tn_lt, fn_lt, tn_le, fn_le, tn_eq, fn_eq, x_lt, x_le, x_eq, x_ix, x_nat, t_lt, f_lt, t_le, f_le, t_eq, f_eq, eq_self, and_self, true_and, and_true, false_and, and_false, if_true, if_false, Int.toNat_natCast, bI_s, bL_s, bA_s, bA_n, bV_s, mq_s, mq_n, en_le, bl_0, bl_1, u_eq, u_ne, w_eq, w_ne, v_eq, v_ne, hp_cc_1, hp_g_1_0, hp_g_1_1, hp_g_1_2, hp_g_1_3, hp_g_1_4, hp_g_1_5, hp_g_1_6, hp_g_1_7, hp_g_1_8, hp_p_1_8, hp_g_1_9, hp_p_1_9, hp_g_1_10, hp_p_1_10, hp_a_2, hp_n_2, hp_a_3, hp_n_3, hp_a_4, hsl]
      by_cases t3 : i < 0
      · clear g; simp (disch := (first | assumption | (unfold i32; omega) | (unfold i64; omega) | omega)) only [ki_0, ki_1, ki_2, ki_3, ki_4, ki_5, ki_6, ki_7, ki_8, ki_9, ki_10, ki_11, ki_12, ki_13, ki_14, ki_15, ki_20, ki_21, ki_30, ki_31, ki_40, ki_41, ki_50, ki_51, ki_60, ki_63, ki_64, ki_65, ki_100, ki_158, ki_160, ki_200, ki_212, ki_1000, ki_2000, ki_2001, ki_5000, ki_10000, ki_10001, ki_100000, ki_200000, ki_1000000, ki_2000000, ki_3000000, iO_neg, iO_add, iO_sub, iO_mul, kn_4, kn_8, kn_10, kn_20, kn_24, kn_40, kn_41, kn_50, kn_60, kn_158, kn_160, kn_200, kn_212, kn_2001, tn_lt, fn_lt, tn_le, fn_le, tn_eq, fn_eq, x_lt, x_le, x_eq, x_ix, x_nat, t_lt, f_lt, t_le, f_le, t_eq, f_eq, eq_self, and_self, true_and, and_true, false_and, and_false, if_true, if_false, Int.toNat_natCast, bI_s, bL_s, bA_s, bA_n, bV_s, mq_s, mq_n, en_le, bl_0, bl_1, u_eq, u_ne, w_eq, w_ne, v_eq, v_ne, hp_cc_1, hp_g_1_0, hp_g_1_1, hp_g_1_2, hp_g_1_3, hp_g_1_4, hp_g_1_5, hp_g_1_6, hp_g_1_7, hp_g_1_8, hp_p_1_8, hp_g_1_9, hp_p_1_9, hp_g_1_10, hp_p_1_10, hp_a_2, hp_n_2, hp_a_3, hp_n_3, hp_a_4, hsl]
      · have t4 : ((ll (qls l)).length : Int) ≤ i := by omega
        clear g; simp (disch := (first | assumption | (unfold i32; omega) | (unfold i64; omega) | omega)) only [ki_0, ki_1, ki_2, ki_3, ki_4, ki_5, ki_6, ki_7, ki_8, ki_9, ki_10, ki_11, ki_12, ki_13, ki_14, ki_15, ki_20, ki_21, ki_30, ki_31, ki_40, ki_41, ki_50, ki_51, ki_60, ki_63, ki_64, ki_65, ki_100, ki_158, ki_160, ki_200, ki_212, ki_1000, ki_2000, ki_2001, ki_5000, ki_10000, ki_10001, ki_100000, ki_200000, ki_1000000, ki_2000000, ki_3000000, iO_neg, iO_add, iO_sub, iO_mul, kn_4, kn_8, kn_10, kn_20, kn_24, kn_40, kn_41, kn_50, kn_60, kn_158, kn_160, kn_200, kn_212, kn_2001, tn_lt, fn_lt, tn_le, fn_le, tn_eq, fn_eq, x_lt, x_le, x_eq, x_ix, x_nat, t_lt, f_lt, t_le, f_le, t_eq, f_eq, eq_self, and_self, true_and, and_true, false_and, and_false, if_true, if_false, Int.toNat_natCast, bI_s, bL_s, bA_s, bA_n, bV_s, mq_s, mq_n, en_le, bl_0, bl_1, u_eq, u_ne, w_eq, w_ne, v_eq, v_ne, hp_cc_1, hp_g_1_0, hp_g_1_1, hp_g_1_2, hp_g_1_3, hp_g_1_4, hp_g_1_5, hp_g_1_6, hp_g_1_7, hp_g_1_8, hp_p_1_8, hp_g_1_9, hp_p_1_9, hp_g_1_10, hp_p_1_10, hp_a_2, hp_n_2, hp_a_3, hp_n_3, hp_a_4, hsl, g1]
end DCL
