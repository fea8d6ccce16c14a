/-! cut: both sides -/
/-- how many steps of its source a cut takes -/
def ckk (ns : Nat) (fs : Nat → Int) (z : Int) (zs : Nat) (o : Int) (os : Nat) : Nat → Nat → Nat
  | 0, p => p
  | j + 1, p => if (cutL fs z zs o os p).length < 10001 ∧ p < ns ∧ fs p ≤ 1 then ckk ns fs z zs o os j (p + 1) else p
def cutK0 (ns : Nat) (fs : Nat → Int) (z : Int) (zs : Nat) (o : Int) (os : Nat) : Nat := ckk ns fs z zs o os 10002 0
def cutN (ns : Nat) (fs : Nat → Int) (z : Int) (zs : Nat) (o : Int) (os : Nat) : Nat := min (cutL fs z zs o os (cutK0 ns fs z zs o os)).length 10001
def cutF (ns : Nat) (fs : Nat → Int) (z : Int) (zs : Nat) (o : Int) (os : Nat) (i : Nat) : Int := (cutL fs z zs o os (cutK0 ns fs z zs o os))[i]?.getD 0
theorem ckk_ok {ns : Nat} {fs : Nat → Int} {z o : Int} {zs os : Nat} (hf : ∀ i, i < ns → 0 ≤ fs i) (h1 : 1 ≤ zs) (h2 : 1 ≤ os) : ∀ (j p : Nat), p + j = 10002 → (∀ i, i < p → okc ns fs i) → (∀ i, i < ckk ns fs z zs o os j p → okc ns fs i) ∧ (10001 ≤ (cutL fs z zs o os (ckk ns fs z zs o os j p)).length ∨ ¬ okc ns fs (ckk ns fs z zs o os j p))
  | 0, p, hp, h => ⟨h, Or.inl (by
    have := cutL_len (fs := fs) (z := z) (o := o) h1 h2 p
    show 10001 ≤ (cutL fs z zs o os p).length
    omega)⟩
  | j + 1, p, hp, h => by
    rw [ckk]
    split
    · rename_i g
      refine ckk_ok hf h1 h2 j (p + 1) (by omega) (fun i hi => ?_)
      by_cases e : i = p
      · subst e
        have := hf i g.2.1
        exact ⟨g.2.1, by omega⟩
      · exact h i (by omega)
    · rename_i g
      refine ⟨h, ?_⟩
      by_cases e : 10001 ≤ (cutL fs z zs o os p).length
      · exact Or.inl e
      · right
        intro q
        exact g ⟨by omega, q.1, by have := q.2; omega⟩
theorem cut_of {ns : Nat} {fs : Nat → Int} {z o : Int} {zs os : Nat} (hf : ∀ i, i < ns → 0 ≤ fs i) (h1 : 1 ≤ zs) (h2 : 1 ≤ os) : CutOf ns fs z zs o os (cutN ns fs z zs o os) (cutF ns fs z zs o os) := by
  obtain ⟨q1, q2⟩ := ckk_ok (z := z) (o := o) hf h1 h2 10002 0 (by omega) (fun i hi => by omega)
  refine ⟨cutK0 ns fs z zs o os, q1, ?_, ?_⟩
  · rcases q2 with g | g
    · exact Or.inl ⟨g, Nat.min_eq_right g⟩
    · exact Or.inr ⟨g, rfl⟩
  · intro i hi
    have hl : i < (cutL fs z zs o os (cutK0 ns fs z zs o os)).length := by unfold cutN at hi; omega
    unfold cutF
    rw [List.getElem?_eq_getElem hl]
    rfl
theorem cutF_bd {ns : Nat} {fs : Nat → Int} {z o : Int} {zs os : Nat} (i : Nat) : 0 ≤ cutF ns fs z zs o os i ∧ cutF ns fs z zs o os i ≤ 100 := by
  unfold cutF
  cases h : (cutL fs z zs o os (cutK0 ns fs z zs o os))[i]? with
  | none => exact ⟨by show (0 : Int) ≤ 0; omega, by show (0 : Int) ≤ 100; omega⟩
  | some y =>
    have := cutL_01 h
    show 0 ≤ y ∧ y ≤ 100
    omega
def p_cut (S : ST5) (r z zs o os : Int) : Int × ST5 := match rowq S r with
  | none => (-1, sst S 1)
  | some q => if 1 ≤ zs ∧ zs ≤ 6 ∧ 1 ≤ os ∧ os ≤ 6 ∧ 0 ≤ z ∧ z < 2 ^ zs.toNat ∧ 0 ≤ o ∧ o < 2 ^ os.toNat then
      (if 10 ≤ S.2.1.length then (-1, sst S 2) else ((S.2.1.length : Int), addr S (3, -1, cutN q.2.2.1 q.2.2.2 z zs.toNat o os.toNat, cutF q.2.2.1 q.2.2.2 z zs.toNat o os.toNat)))
    else (-1, sst S 1)
theorem ok_cut {S : ST5} (hS : OK5 S) {r z zs o os : Int} : OK5 (p_cut S r z zs o os).2 := by
  unfold p_cut
  split
  · exact hS.st (by decide) (by decide)
  · split
    · split
      · exact hS.st (by decide) (by decide)
      · refine ok_addr hS (by omega) ⟨(by show (0 : Int) ≤ 3; decide), (by show (3 : Int) ≤ 4; decide), Int.le_refl _, (by show (-1 : Int) < _; omega), Nat.min_le_right _ _, fun i _ => cutF_bd i, (fun h => absurd (show (3 : Int) = 4 from h) (by decide)), (fun h => absurd (show (3 : Int) = 1 from h) (by decide)), fun _ _ => rfl⟩
    · exact hS.st (by decide) (by decide)
theorem sl31 : ∀ k : Nat, k < 7 → (1 : Int32) <<< (iO (k : Int) &&& 31) = iO (2 ^ k) := by decide +kernel
theorem p2_64 : ∀ k : Nat, k < 7 → (2 : Int) ^ k ≤ 64 := by decide
theorem pt_bit32 : ∀ z : Nat, z < 64 → ∀ i : Nat, i < 6 → ((iO (z : Int) >>> (iO (i : Int) &&& 31)) &&& 1 : Int32) = iO (((z : Int) / 2 ^ i) % 2) := by decide +kernel
section MCT
variable {sc : en_S} {d : Nat} {XI : Nat → Int32} {XA : Nat → Nat → Int32} {XP : Nat → Nat → Option Nat} {XC : Value} {MI : Nat → Int32} {ML : Nat → Nat → Int64} {D : en_H}
/-- the model has written the first n of a list -/
def hold (MA : Nat → Nat → Int32) (R : Nat) (W : List Int) (n : Nat) : Prop := ∀ t, t < n → ∃ y, W[t]? = some y ∧ MA 7 (10001 * R + t) = iO y
theorem m_cut_11 {R L x many : Nat} (hR : R < 10) (hMI : MI 1 = iO (R : Nat)) {l : List Int} (hL : l.length = L) (hL2 : L ≤ 10001) (hx : x < 64) (hm : many ≤ 6) {a1 z zs o os : Int32} {p : Nat} (hpp : p ≤ 10002) {s0 : Int32} (hsel : (s0 = 0 ∧ z = iO (x : Int)) ∨ (s0 ≠ 0 ∧ o = iO (x : Int))) : ∀ (j i : Nat) (MA : Nat → Nat → Int32), i + j = many → hold MA R (l ++ cbits x many) (min (L + i) 10001) →
    ∃ MA', b_X12_cut_11 sc (d + 1) 26 a1 z zs o os (iO ((min (L + i) 10001 : Nat) : Int)) (iO (p : Int)) s0 (iO (many : Int)) (iO (i : Int)) (hp XI XA XP XC MI MA ML D) = b_X12_cut_6 sc (d + 1) 26 a1 z zs o os (iO ((min (L + many) 10001 : Nat) : Int)) (iO ((p : Int) + 1)) (hp XI XA XP XC MI MA' ML D) ∧ (∀ m, m ≠ 7 → MA' m = MA m) ∧ (∀ t, t < 10001 * R → MA' 7 t = MA 7 t) ∧ hold MA' R (l ++ cbits x many) (min (L + many) 10001) := by
  intro j
  induction j with
  | zero =>
    intro i MA hi hh
    obtain rfl : i = many := by omega
    refine ⟨MA, ?_, fun _ _ => rfl, fun _ _ => rfl, hh⟩
    rw [eb_X12_cut_11]
    clear hh hsel
    simp (disch := (first | assumption | (unfold i32; omega) | (unfold i64; omega) | omega)) only [↓reduceIte, ki_0, ki_1, ki_2, ki_3, ki_4, ki_5, ki_6, ki_7, ki_8, ki_9, ki_10, ki_11, ki_12, ki_13, ki_14, ki_15, ki_20, ki_21, ki_30, ki_31, ki_40, ki_41, ki_50, ki_51, ki_60, ki_63, ki_64, ki_65, ki_100, ki_158, ki_160, ki_200, ki_212, ki_1000, ki_2000, ki_2001, ki_5000, ki_10000, ki_10001, ki_100000, ki_200000, ki_1000000, ki_2000000, ki_3000000, iO_neg, iO_add, iO_sub, iO_mul, kn_4, kn_8, kn_10, kn_20, kn_24, kn_40, kn_41, kn_50, kn_60, kn_158, kn_160, kn_200, kn_212, kn_2001, tn_lt, fn_lt, tn_le, fn_le, tn_eq, fn_eq, x_lt, x_le, x_eq, x_ix, x_nat, t_lt, f_lt, t_le, f_le, t_eq, f_eq, eq_self, and_self, true_and, and_true, false_and, and_false, if_true, if_false, Int.toNat_natCast, bI_s, bL_s, bA_s, bA_n, bV_s, mq_s, mq_n, en_le, bl_0, bl_1, u_eq, u_ne, w_eq, w_ne, v_eq, v_ne]
  | succ j ih =>
    intro i MA hi hh
    by_cases e : 10001 ≤ L + i
    · have e1 : min (L + i) 10001 = 10001 := by omega
      have e2 : min (L + many) 10001 = 10001 := by omega
      rw [e1] at hh
      rw [e1, e2]
      refine ⟨MA, ?_, fun _ _ => rfl, fun _ _ => rfl, hh⟩
      rw [eb_X12_cut_11]
      clear hh hsel ih
      simp (disch := (first | assumption | (unfold i32; omega) | (unfold i64; omega) | omega)) only [↓reduceIte, ki_0, ki_1, ki_2, ki_3, ki_4, ki_5, ki_6, ki_7, ki_8, ki_9, ki_10, ki_11, ki_12, ki_13, ki_14, ki_15, ki_20, ki_21, ki_30, ki_31, ki_40, ki_41, ki_50, ki_51, ki_60, ki_63, ki_64, ki_65, ki_100, ki_158, ki_160, ki_200, ki_212, ki_1000, ki_2000, ki_2001, ki_5000, ki_10000, ki_10001, ki_100000, ki_200000, ki_1000000, ki_2000000, ki_3000000, iO_neg, iO_add, iO_sub, iO_mul, kn_4, kn_8, kn_10, kn_20, kn_24, kn_40, kn_41, kn_50, kn_60, kn_158, kn_160, kn_200, kn_212, kn_2001, tn_lt, fn_lt, tn_le, fn_le, tn_eq, fn_eq, x_lt, x_le, x_eq, x_ix, x_nat, t_lt, f_lt, t_le, f_le, t_eq, f_eq, eq_self, and_self, true_and, and_true, false_and, and_false, if_true, if_false, Int.toNat_natCast, bI_s, bL_s, bA_s, bA_n, bV_s, mq_s, mq_n, en_le, bl_0, bl_1, u_eq, u_ne, w_eq, w_ne, v_eq, v_ne]
    · have e1 : min (L + i) 10001 = L + i := by omega
      have e3 : min (L + (i + 1)) 10001 = L + i + 1 := by omega
      have hb := pt_bit32 x hx i (by omega)
      rw [e1] at hh
      obtain ⟨MA', f1, f2, f3, f4⟩ := ih (i + 1) (va_up MA 7 (upd (MA 7) (10001 * R + (L + i)) (iO (((x : Int) / 2 ^ i) % 2)))) (by omega) (by
        rw [e3]
        intro t ht
        by_cases g : t = L + i
        · subst g
          refine ⟨((x : Int) / 2 ^ i) % 2, ?_, by rw [w_eq rfl, u_eq rfl]⟩
          rw [List.getElem?_append_right (by omega), hL, show L + i - L = i by omega]
          unfold cbits
          rw [List.getElem?_map, List.getElem?_range (by omega)]
          rfl
        · obtain ⟨y, y1, y2⟩ := hh t (by omega)
          exact ⟨y, y1, by rw [w_eq rfl, u_ne (by omega)]; exact y2⟩)
      refine ⟨MA', ?_, fun m hm => by rw [f2 m hm, w_ne hm], fun t ht => by rw [f3 t ht, w_eq rfl, u_ne (by omega)], f4⟩
      rw [e1, ← f1, e3, eb_X12_cut_11]
      have e5 : (10001 * (R : Int) + ((L + i : Nat) : Int)).toNat = 10001 * R + (L + i) := by omega
      rw [ki_1] at hb
      clear f1 f2 f3 f4 ih hh
      rcases hsel with ⟨g1, g2⟩ | ⟨g1, g2⟩
      · subst g1 g2
        rw [if_neg (nle (a := (many : Int)) (b := (i : Int)) (by unfold i32; omega) (by unfold i32; omega) (by omega)), if_neg (show ¬ 10001 ≤ iO ((L + i : Nat) : Int) from nle (a := 10001) (b := ((L + i : Nat) : Int)) (by unfold i32; omega) (by unfold i32; omega) (by omega)), hp_g_26_10, hp_g_26_1, hMI, en_le, if_pos rfl]
        rw [show ((iO (x : Int) >>> (iO (i : Int) &&& 31)) &&& 1 : Int32) = iO (((x : Int) / 2 ^ i) % 2) from hb]
        simp (disch := (first | assumption | (unfold i32; omega) | (unfold i64; omega) | omega)) only [↓reduceIte, ki_0, ki_1, ki_2, ki_3, ki_4, ki_5, ki_6, ki_7, ki_8, ki_9, ki_10, ki_11, ki_12, ki_13, ki_14, ki_15, ki_20, ki_21, ki_30, ki_31, ki_40, ki_41, ki_50, ki_51, ki_60, ki_63, ki_64, ki_65, ki_100, ki_158, ki_160, ki_200, ki_212, ki_1000, ki_2000, ki_2001, ki_5000, ki_10000, ki_10001, ki_100000, ki_200000, ki_1000000, ki_2000000, ki_3000000, iO_neg, iO_add, iO_sub, iO_mul, kn_4, kn_8, kn_10, kn_20, kn_24, kn_40, kn_41, kn_50, kn_60, kn_158, kn_160, kn_200, kn_212, kn_2001, tn_lt, fn_lt, tn_le, fn_le, tn_eq, fn_eq, x_lt, x_le, x_eq, x_ix, x_nat, t_lt, f_lt, t_le, f_le, t_eq, f_eq, eq_self, and_self, true_and, and_true, false_and, and_false, if_true, if_false, Int.toNat_natCast, bI_s, bL_s, bA_s, bA_n, bV_s, mq_s, mq_n, en_le, bl_0, bl_1, u_eq, u_ne, w_eq, w_ne, v_eq, v_ne, ↓hp_cc_26, ↓hp_g_26_0, ↓hp_p_26_0, ↓hp_g_26_1, ↓hp_p_26_1, ↓hp_g_26_2, ↓hp_p_26_2, ↓hp_g_26_3, ↓hp_g_26_4, ↓hp_g_26_5, ↓hp_g_26_6, ↓hp_g_26_7, ↓hp_g_26_8, ↓hp_g_26_9, ↓hp_g_26_10, ↓hp_g_26_11, ↓hp_g_26_12, ↓hp_g_26_13, ↓hp_g_26_14, ↓hp_g_26_15, ↓hp_p_26_15, ↓hp_g_26_16, ↓hp_g_26_17, ↓hp_g_26_18, ↓hp_p_26_18, ↓hp_g_26_19, ↓hp_p_26_19, ↓hp_g_26_20, ↓hp_g_26_21, ↓hp_p_26_21, ↓hp_g_26_22, ↓hp_g_26_23, ↓hp_g_26_24, ↓hp_g_26_25, ↓hp_g_26_26, ↓hp_g_26_27, ↓hp_g_26_28, ↓hp_g_26_29, ↓hp_g_26_30, ↓hp_p_26_30, ↓hp_g_26_31, ↓hp_g_26_32, ↓hp_p_26_32, ↓hp_a_27, ↓hp_s_27, ↓hp_l_27, ↓hp_a_28, ↓hp_s_28, ↓hp_l_28, ↓hp_a_29, ↓hp_s_29, ↓hp_l_29, ↓hp_a_30, ↓hp_s_30, ↓hp_l_30, ↓hp_a_31, ↓hp_s_31, ↓hp_l_31, ↓hp_a_32, ↓hp_s_32, ↓hp_l_32, ↓hp_a_33, ↓hp_s_33, ↓hp_l_33, ↓hp_a_34, ↓hp_s_34, ↓hp_l_34, ↓hp_a_35, ↓hp_s_35, ↓hp_l_35, ↓hp_a_36, ↓hp_s_36, ↓hp_l_36, ↓hp_a_37, ↓hp_s_37, ↓hp_l_37, ↓hp_a_38, ↓hp_s_38, ↓hp_l_38, ↓hp_a_39, ↓hp_s_39, ↓hp_a_40, ↓hp_s_40, ↓hp_a_41, ↓hp_s_41, ↓hp_l_41, ↓hp_a_42, ↓hp_s_42, ↓hp_l_42, ↓hp_a_43, ↓hp_s_43, ↓hp_l_43, ↓hp_a_44, ↓hp_s_44, ↓hp_l_44, ↓hp_a_45, ↓hp_s_45, ↓hp_l_45, ↓hp_a_46, ↓hp_s_46, ↓hp_l_46, ↓hp_a_47, ↓hp_s_47, ↓hp_l_47, ↓hp_a_48, ↓hp_s_48, ↓hp_l_48, ↓hp_a_49, ↓hp_s_49, ↓hp_l_49, ↓hp_a_50, ↓hp_s_50, ↓hp_l_50, e5]
        try rfl
      · subst g2
        rw [if_neg (nle (a := (many : Int)) (b := (i : Int)) (by unfold i32; omega) (by unfold i32; omega) (by omega)), if_neg (show ¬ 10001 ≤ iO ((L + i : Nat) : Int) from nle (a := 10001) (b := ((L + i : Nat) : Int)) (by unfold i32; omega) (by unfold i32; omega) (by omega)), hp_g_26_10, hp_g_26_1, hMI, en_le, if_neg g1]
        rw [show ((iO (x : Int) >>> (iO (i : Int) &&& 31)) &&& 1 : Int32) = iO (((x : Int) / 2 ^ i) % 2) from hb]
        simp (disch := (first | assumption | (unfold i32; omega) | (unfold i64; omega) | omega)) only [↓reduceIte, ki_0, ki_1, ki_2, ki_3, ki_4, ki_5, ki_6, ki_7, ki_8, ki_9, ki_10, ki_11, ki_12, ki_13, ki_14, ki_15, ki_20, ki_21, ki_30, ki_31, ki_40, ki_41, ki_50, ki_51, ki_60, ki_63, ki_64, ki_65, ki_100, ki_158, ki_160, ki_200, ki_212, ki_1000, ki_2000, ki_2001, ki_5000, ki_10000, ki_10001, ki_100000, ki_200000, ki_1000000, ki_2000000, ki_3000000, iO_neg, iO_add, iO_sub, iO_mul, kn_4, kn_8, kn_10, kn_20, kn_24, kn_40, kn_41, kn_50, kn_60, kn_158, kn_160, kn_200, kn_212, kn_2001, tn_lt, fn_lt, tn_le, fn_le, tn_eq, fn_eq, x_lt, x_le, x_eq, x_ix, x_nat, t_lt, f_lt, t_le, f_le, t_eq, f_eq, eq_self, and_self, true_and, and_true, false_and, and_false, if_true, if_false, Int.toNat_natCast, bI_s, bL_s, bA_s, bA_n, bV_s, mq_s, mq_n, en_le, bl_0, bl_1, u_eq, u_ne, w_eq, w_ne, v_eq, v_ne, ↓hp_cc_26, ↓hp_g_26_0, ↓hp_p_26_0, ↓hp_g_26_1, ↓hp_p_26_1, ↓hp_g_26_2, ↓hp_p_26_2, ↓hp_g_26_3, ↓hp_g_26_4, ↓hp_g_26_5, ↓hp_g_26_6, ↓hp_g_26_7, ↓hp_g_26_8, ↓hp_g_26_9, ↓hp_g_26_10, ↓hp_g_26_11, ↓hp_g_26_12, ↓hp_g_26_13, ↓hp_g_26_14, ↓hp_g_26_15, ↓hp_p_26_15, ↓hp_g_26_16, ↓hp_g_26_17, ↓hp_g_26_18, ↓hp_p_26_18, ↓hp_g_26_19, ↓hp_p_26_19, ↓hp_g_26_20, ↓hp_g_26_21, ↓hp_p_26_21, ↓hp_g_26_22, ↓hp_g_26_23, ↓hp_g_26_24, ↓hp_g_26_25, ↓hp_g_26_26, ↓hp_g_26_27, ↓hp_g_26_28, ↓hp_g_26_29, ↓hp_g_26_30, ↓hp_p_26_30, ↓hp_g_26_31, ↓hp_g_26_32, ↓hp_p_26_32, ↓hp_a_27, ↓hp_s_27, ↓hp_l_27, ↓hp_a_28, ↓hp_s_28, ↓hp_l_28, ↓hp_a_29, ↓hp_s_29, ↓hp_l_29, ↓hp_a_30, ↓hp_s_30, ↓hp_l_30, ↓hp_a_31, ↓hp_s_31, ↓hp_l_31, ↓hp_a_32, ↓hp_s_32, ↓hp_l_32, ↓hp_a_33, ↓hp_s_33, ↓hp_l_33, ↓hp_a_34, ↓hp_s_34, ↓hp_l_34, ↓hp_a_35, ↓hp_s_35, ↓hp_l_35, ↓hp_a_36, ↓hp_s_36, ↓hp_l_36, ↓hp_a_37, ↓hp_s_37, ↓hp_l_37, ↓hp_a_38, ↓hp_s_38, ↓hp_l_38, ↓hp_a_39, ↓hp_s_39, ↓hp_a_40, ↓hp_s_40, ↓hp_a_41, ↓hp_s_41, ↓hp_l_41, ↓hp_a_42, ↓hp_s_42, ↓hp_l_42, ↓hp_a_43, ↓hp_s_43, ↓hp_l_43, ↓hp_a_44, ↓hp_s_44, ↓hp_l_44, ↓hp_a_45, ↓hp_s_45, ↓hp_l_45, ↓hp_a_46, ↓hp_s_46, ↓hp_l_46, ↓hp_a_47, ↓hp_s_47, ↓hp_l_47, ↓hp_a_48, ↓hp_s_48, ↓hp_l_48, ↓hp_a_49, ↓hp_s_49, ↓hp_l_49, ↓hp_a_50, ↓hp_s_50, ↓hp_l_50, e5]
        try rfl
theorem m_cut_6 {R r ns : Nat} (hR : R < 10) (hr : r < R) (hMI : MI 1 = iO (R : Nat)) {fs : Nat → Int} (hns : ns ≤ 10001) (hf : ∀ i, i < ns → 0 ≤ fs i ∧ fs i ≤ 100) {z o zs os : Nat} (hz : z < 64) (ho : o < 64) (hzs : zs ≤ 6) (hos : os ≤ 6) (hzs1 : 1 ≤ zs) (hos1 : 1 ≤ os) : ∀ (j p : Nat) (MA : Nat → Nat → Int32), p + j = 10002 → MA 5 r = iO (ns : Nat) → (∀ i, i < ns → MA 7 (10001 * r + i) = iO (fs i)) → hold MA R (cutL fs z zs o os p) (min (cutL fs z zs o os p).length 10001) →
    ∃ MA', b_X12_cut_6 sc (d + 1) 26 (iO (r : Int)) (iO (z : Int)) (iO (zs : Int)) (iO (o : Int)) (iO (os : Int)) (iO ((min (cutL fs z zs o os p).length 10001 : Nat) : Int)) (iO (p : Int)) (hp XI XA XP XC MI MA ML D) = b_X12_cut_15 sc (d + 1) 26 (iO ((min (cutL fs z zs o os (ckk ns fs z zs o os j p)).length 10001 : Nat) : Int)) (hp XI XA XP XC MI MA' ML D) ∧ (∀ m, m ≠ 7 → MA' m = MA m) ∧ (∀ t, t < 10001 * R → MA' 7 t = MA 7 t) ∧ hold MA' R (cutL fs z zs o os (ckk ns fs z zs o os j p)) (min (cutL fs z zs o os (ckk ns fs z zs o os j p)).length 10001) := by
  intro j
  induction j with
  | zero =>
    intro p MA hpp h5 h7 hh
    have hl := cutL_len (fs := fs) (z := (z : Int)) (o := (o : Int)) hzs1 hos1 p
    refine ⟨MA, ?_, fun _ _ => rfl, fun _ _ => rfl, hh⟩
    rw [eb_X12_cut_6, ckk, if_pos (show 10001 ≤ iO ((min (cutL fs z zs o os p).length 10001 : Nat) : Int) from ple (a := 10001) (b := ((min (cutL fs z zs o os p).length 10001 : Nat) : Int)) (by unfold i32; omega) (by unfold i32; omega) (by omega))]
  | succ j ih =>
    intro p MA hpp h5 h7 hh
    rw [ckk]
    by_cases g : (cutL fs z zs o os p).length < 10001 ∧ p < ns ∧ fs p ≤ 1
    · rw [if_pos g]
      obtain ⟨g1, g2, g3⟩ := g
      obtain ⟨v1, v2⟩ := hf p g2
      have e1 : min (cutL fs z zs o os p).length 10001 = (cutL fs z zs o os p).length := by omega
      have hp7 := h7 p g2
      have e5 : (10001 * (r : Int) + (p : Int)).toNat = 10001 * r + p := by omega
      -- one of the two stretches
      have go : ∀ (x many : Nat) (s0 : Int32), ((s0 = 0 ∧ x = z ∧ many = zs ∧ fs p = 0) ∨ (s0 = 1 ∧ x = o ∧ many = os ∧ fs p = 1)) → ∃ MA', b_X12_cut_11 sc (d + 1) 26 (iO (r : Int)) (iO (z : Int)) (iO (zs : Int)) (iO (o : Int)) (iO (os : Int)) (iO (((cutL fs z zs o os p).length : Nat) : Int)) (iO (p : Int)) s0 (iO (many : Int)) (iO 0) (hp XI XA XP XC MI MA ML D) = b_X12_cut_15 sc (d + 1) 26 (iO ((min (cutL fs z zs o os (ckk ns fs z zs o os j (p + 1))).length 10001 : Nat) : Int)) (hp XI XA XP XC MI MA' ML D) ∧ (∀ m, m ≠ 7 → MA' m = MA m) ∧ (∀ t, t < 10001 * R → MA' 7 t = MA 7 t) ∧ hold MA' R (cutL fs z zs o os (ckk ns fs z zs o os j (p + 1))) (min (cutL fs z zs o os (ckk ns fs z zs o os j (p + 1))).length 10001) := by
        intro x many s0 hs0
        have hW : cutL fs z zs o os (p + 1) = cutL fs z zs o os p ++ cbits x many := by
          rw [cutL]
          rcases hs0 with ⟨-, rfl, rfl, q⟩ | ⟨-, rfl, rfl, q⟩
          · rw [if_pos q]
          · rw [if_neg (by omega)]
        have hmany : many ≤ 6 := by rcases hs0 with ⟨-, -, rfl, -⟩ | ⟨-, -, rfl, -⟩ <;> assumption
        have hx64 : x < 64 := by rcases hs0 with ⟨-, rfl, -⟩ | ⟨-, rfl, -⟩ <;> assumption
        obtain ⟨MA1, f1, f2, f3, f4⟩ := m_cut_11 (sc := sc) (d := d) (XI := XI) (XA := XA) (XP := XP) (XC := XC) (ML := ML) (D := D) hR hMI (l := cutL fs z zs o os p) rfl (by omega) hx64 hmany (a1 := iO (r : Int)) (z := iO (z : Int)) (zs := iO (zs : Int)) (o := iO (o : Int)) (os := iO (os : Int)) (p := p) (by omega) (s0 := s0) (by
          rcases hs0 with ⟨q1, rfl, -⟩ | ⟨q1, rfl, -⟩
          · exact Or.inl ⟨q1, rfl⟩
          · exact Or.inr ⟨by rw [q1]; decide, rfl⟩) many 0 MA (by omega) (by
          rw [Nat.add_zero]
          intro t ht
          obtain ⟨y, y1, y2⟩ := hh t (by omega)
          exact ⟨y, by rw [List.getElem?_append_left (by omega)]; exact y1, y2⟩)
        rw [show (cutL fs z zs o os p).length + 0 = (cutL fs z zs o os p).length from rfl, e1] at f1
        have hlen : (cutL fs z zs o os p).length + many = (cutL fs z zs o os (p + 1)).length := by rw [hW, List.length_append, cbits_len]
        rw [hlen] at f1 f4
        rw [← hW] at f4
        obtain ⟨MA2, k1, k2, k3, k4⟩ := ih (p + 1) MA1 (by omega) (by rw [f2 5 (by decide)]; exact h5) (fun i hi => by rw [f3 _ (by omega)]; exact h7 i hi) f4
        refine ⟨MA2, ?_, fun m hm => by rw [k2 m hm, f2 m hm], fun t ht => by rw [k3 t ht, f3 t ht], k4⟩
        rw [← k1]
        exact f1
      rw [e1]
      by_cases q : fs p = 1
      · obtain ⟨MA', f1, f2⟩ := go o os 1 (Or.inr ⟨rfl, rfl, rfl, q⟩)
        refine ⟨MA', ?_, f2⟩
        rw [← f1, eb_X12_cut_6]
        clear go f1 f2 ih hh h7 hf
        simp (disch := (first | assumption | (unfold i32; omega) | (unfold i64; omega) | omega)) only [↓reduceIte, ki_0, ki_1, ki_2, ki_3, ki_4, ki_5, ki_6, ki_7, ki_8, ki_9, ki_10, ki_11, ki_12, ki_13, ki_14, ki_15, ki_20, ki_21, ki_30, ki_31, ki_40, ki_41, ki_50, ki_51, ki_60, ki_63, ki_64, ki_65, ki_100, ki_158, ki_160, ki_200, ki_212, ki_1000, ki_2000, ki_2001, ki_5000, ki_10000, ki_10001, ki_100000, ki_200000, ki_1000000, ki_2000000, ki_3000000, iO_neg, iO_add, iO_sub, iO_mul, kn_4, kn_8, kn_10, kn_20, kn_24, kn_40, kn_41, kn_50, kn_60, kn_158, kn_160, kn_200, kn_212, kn_2001, tn_lt, fn_lt, tn_le, fn_le, tn_eq, fn_eq, x_lt, x_le, x_eq, x_ix, x_nat, t_lt, f_lt, t_le, f_le, t_eq, f_eq, eq_self, and_self, true_and, and_true, false_and, and_false, if_true, if_false, Int.toNat_natCast, bI_s, bL_s, bA_s, bA_n, bV_s, mq_s, mq_n, en_le, bl_0, bl_1, u_eq, u_ne, w_eq, w_ne, v_eq, v_ne, ↓hp_cc_26, ↓hp_g_26_0, ↓hp_p_26_0, ↓hp_g_26_1, ↓hp_p_26_1, ↓hp_g_26_2, ↓hp_p_26_2, ↓hp_g_26_3, ↓hp_g_26_4, ↓hp_g_26_5, ↓hp_g_26_6, ↓hp_g_26_7, ↓hp_g_26_8, ↓hp_g_26_9, ↓hp_g_26_10, ↓hp_g_26_11, ↓hp_g_26_12, ↓hp_g_26_13, ↓hp_g_26_14, ↓hp_g_26_15, ↓hp_p_26_15, ↓hp_g_26_16, ↓hp_g_26_17, ↓hp_g_26_18, ↓hp_p_26_18, ↓hp_g_26_19, ↓hp_p_26_19, ↓hp_g_26_20, ↓hp_g_26_21, ↓hp_p_26_21, ↓hp_g_26_22, ↓hp_g_26_23, ↓hp_g_26_24, ↓hp_g_26_25, ↓hp_g_26_26, ↓hp_g_26_27, ↓hp_g_26_28, ↓hp_g_26_29, ↓hp_g_26_30, ↓hp_p_26_30, ↓hp_g_26_31, ↓hp_g_26_32, ↓hp_p_26_32, ↓hp_a_27, ↓hp_s_27, ↓hp_l_27, ↓hp_a_28, ↓hp_s_28, ↓hp_l_28, ↓hp_a_29, ↓hp_s_29, ↓hp_l_29, ↓hp_a_30, ↓hp_s_30, ↓hp_l_30, ↓hp_a_31, ↓hp_s_31, ↓hp_l_31, ↓hp_a_32, ↓hp_s_32, ↓hp_l_32, ↓hp_a_33, ↓hp_s_33, ↓hp_l_33, ↓hp_a_34, ↓hp_s_34, ↓hp_l_34, ↓hp_a_35, ↓hp_s_35, ↓hp_l_35, ↓hp_a_36, ↓hp_s_36, ↓hp_l_36, ↓hp_a_37, ↓hp_s_37, ↓hp_l_37, ↓hp_a_38, ↓hp_s_38, ↓hp_l_38, ↓hp_a_39, ↓hp_s_39, ↓hp_a_40, ↓hp_s_40, ↓hp_a_41, ↓hp_s_41, ↓hp_l_41, ↓hp_a_42, ↓hp_s_42, ↓hp_l_42, ↓hp_a_43, ↓hp_s_43, ↓hp_l_43, ↓hp_a_44, ↓hp_s_44, ↓hp_l_44, ↓hp_a_45, ↓hp_s_45, ↓hp_l_45, ↓hp_a_46, ↓hp_s_46, ↓hp_l_46, ↓hp_a_47, ↓hp_s_47, ↓hp_l_47, ↓hp_a_48, ↓hp_s_48, ↓hp_l_48, ↓hp_a_49, ↓hp_s_49, ↓hp_l_49, ↓hp_a_50, ↓hp_s_50, ↓hp_l_50, h5, e5, hp7, eb_X12_cut_8]
        try rfl
      · have q : fs p = 0 := by omega
        obtain ⟨MA', f1, f2⟩ := go z zs 0 (Or.inl ⟨rfl, rfl, rfl, q⟩)
        refine ⟨MA', ?_, f2⟩
        rw [← f1, eb_X12_cut_6]
        clear go f1 f2 ih hh h7 hf
        simp (disch := (first | assumption | (unfold i32; omega) | (unfold i64; omega) | omega)) only [↓reduceIte, ki_0, ki_1, ki_2, ki_3, ki_4, ki_5, ki_6, ki_7, ki_8, ki_9, ki_10, ki_11, ki_12, ki_13, ki_14, ki_15, ki_20, ki_21, ki_30, ki_31, ki_40, ki_41, ki_50, ki_51, ki_60, ki_63, ki_64, ki_65, ki_100, ki_158, ki_160, ki_200, ki_212, ki_1000, ki_2000, ki_2001, ki_5000, ki_10000, ki_10001, ki_100000, ki_200000, ki_1000000, ki_2000000, ki_3000000, iO_neg, iO_add, iO_sub, iO_mul, kn_4, kn_8, kn_10, kn_20, kn_24, kn_40, kn_41, kn_50, kn_60, kn_158, kn_160, kn_200, kn_212, kn_2001, tn_lt, fn_lt, tn_le, fn_le, tn_eq, fn_eq, x_lt, x_le, x_eq, x_ix, x_nat, t_lt, f_lt, t_le, f_le, t_eq, f_eq, eq_self, and_self, true_and, and_true, false_and, and_false, if_true, if_false, Int.toNat_natCast, bI_s, bL_s, bA_s, bA_n, bV_s, mq_s, mq_n, en_le, bl_0, bl_1, u_eq, u_ne, w_eq, w_ne, v_eq, v_ne, ↓hp_cc_26, ↓hp_g_26_0, ↓hp_p_26_0, ↓hp_g_26_1, ↓hp_p_26_1, ↓hp_g_26_2, ↓hp_p_26_2, ↓hp_g_26_3, ↓hp_g_26_4, ↓hp_g_26_5, ↓hp_g_26_6, ↓hp_g_26_7, ↓hp_g_26_8, ↓hp_g_26_9, ↓hp_g_26_10, ↓hp_g_26_11, ↓hp_g_26_12, ↓hp_g_26_13, ↓hp_g_26_14, ↓hp_g_26_15, ↓hp_p_26_15, ↓hp_g_26_16, ↓hp_g_26_17, ↓hp_g_26_18, ↓hp_p_26_18, ↓hp_g_26_19, ↓hp_p_26_19, ↓hp_g_26_20, ↓hp_g_26_21, ↓hp_p_26_21, ↓hp_g_26_22, ↓hp_g_26_23, ↓hp_g_26_24, ↓hp_g_26_25, ↓hp_g_26_26, ↓hp_g_26_27, ↓hp_g_26_28, ↓hp_g_26_29, ↓hp_g_26_30, ↓hp_p_26_30, ↓hp_g_26_31, ↓hp_g_26_32, ↓hp_p_26_32, ↓hp_a_27, ↓hp_s_27, ↓hp_l_27, ↓hp_a_28, ↓hp_s_28, ↓hp_l_28, ↓hp_a_29, ↓hp_s_29, ↓hp_l_29, ↓hp_a_30, ↓hp_s_30, ↓hp_l_30, ↓hp_a_31, ↓hp_s_31, ↓hp_l_31, ↓hp_a_32, ↓hp_s_32, ↓hp_l_32, ↓hp_a_33, ↓hp_s_33, ↓hp_l_33, ↓hp_a_34, ↓hp_s_34, ↓hp_l_34, ↓hp_a_35, ↓hp_s_35, ↓hp_l_35, ↓hp_a_36, ↓hp_s_36, ↓hp_l_36, ↓hp_a_37, ↓hp_s_37, ↓hp_l_37, ↓hp_a_38, ↓hp_s_38, ↓hp_l_38, ↓hp_a_39, ↓hp_s_39, ↓hp_a_40, ↓hp_s_40, ↓hp_a_41, ↓hp_s_41, ↓hp_l_41, ↓hp_a_42, ↓hp_s_42, ↓hp_l_42, ↓hp_a_43, ↓hp_s_43, ↓hp_l_43, ↓hp_a_44, ↓hp_s_44, ↓hp_l_44, ↓hp_a_45, ↓hp_s_45, ↓hp_l_45, ↓hp_a_46, ↓hp_s_46, ↓hp_l_46, ↓hp_a_47, ↓hp_s_47, ↓hp_l_47, ↓hp_a_48, ↓hp_s_48, ↓hp_l_48, ↓hp_a_49, ↓hp_s_49, ↓hp_l_49, ↓hp_a_50, ↓hp_s_50, ↓hp_l_50, h5, e5, hp7, eb_X12_cut_8]
        try rfl
    · rw [if_neg g]
      refine ⟨MA, ?_, fun _ _ => rfl, fun _ _ => rfl, hh⟩
      rw [eb_X12_cut_6]
      by_cases g1 : 10001 ≤ (cutL fs z zs o os p).length
      · rw [if_pos (show 10001 ≤ iO ((min (cutL fs z zs o os p).length 10001 : Nat) : Int) from ple (a := 10001) (b := ((min (cutL fs z zs o os p).length 10001 : Nat) : Int)) (by unfold i32; omega) (by unfold i32; omega) (by omega))]
      · have e1 : min (cutL fs z zs o os p).length 10001 = (cutL fs z zs o os p).length := by omega
        rw [e1]
        by_cases g2 : ns ≤ p
        · clear g ih hh h7 hf
          simp (disch := (first | assumption | (unfold i32; omega) | (unfold i64; omega) | omega)) only [↓reduceIte, ki_0, ki_1, ki_2, ki_3, ki_4, ki_5, ki_6, ki_7, ki_8, ki_9, ki_10, ki_11, ki_12, ki_13, ki_14, ki_15, ki_20, ki_21, ki_30, ki_31, ki_40, ki_41, ki_50, ki_51, ki_60, ki_63, ki_64, ki_65, ki_100, ki_158, ki_160, ki_200, ki_212, ki_1000, ki_2000, ki_2001, ki_5000, ki_10000, ki_10001, ki_100000, ki_200000, ki_1000000, ki_2000000, ki_3000000, iO_neg, iO_add, iO_sub, iO_mul, kn_4, kn_8, kn_10, kn_20, kn_24, kn_40, kn_41, kn_50, kn_60, kn_158, kn_160, kn_200, kn_212, kn_2001, tn_lt, fn_lt, tn_le, fn_le, tn_eq, fn_eq, x_lt, x_le, x_eq, x_ix, x_nat, t_lt, f_lt, t_le, f_le, t_eq, f_eq, eq_self, and_self, true_and, and_true, false_and, and_false, if_true, if_false, Int.toNat_natCast, bI_s, bL_s, bA_s, bA_n, bV_s, mq_s, mq_n, en_le, bl_0, bl_1, u_eq, u_ne, w_eq, w_ne, v_eq, v_ne, ↓hp_cc_26, ↓hp_g_26_0, ↓hp_p_26_0, ↓hp_g_26_1, ↓hp_p_26_1, ↓hp_g_26_2, ↓hp_p_26_2, ↓hp_g_26_3, ↓hp_g_26_4, ↓hp_g_26_5, ↓hp_g_26_6, ↓hp_g_26_7, ↓hp_g_26_8, ↓hp_g_26_9, ↓hp_g_26_10, ↓hp_g_26_11, ↓hp_g_26_12, ↓hp_g_26_13, ↓hp_g_26_14, ↓hp_g_26_15, ↓hp_p_26_15, ↓hp_g_26_16, ↓hp_g_26_17, ↓hp_g_26_18, ↓hp_p_26_18, ↓hp_g_26_19, ↓hp_p_26_19, ↓hp_g_26_20, ↓hp_g_26_21, ↓hp_p_26_21, ↓hp_g_26_22, ↓hp_g_26_23, ↓hp_g_26_24, ↓hp_g_26_25, ↓hp_g_26_26, ↓hp_g_26_27, ↓hp_g_26_28, ↓hp_g_26_29, ↓hp_g_26_30, ↓hp_p_26_30, ↓hp_g_26_31, ↓hp_g_26_32, ↓hp_p_26_32, ↓hp_a_27, ↓hp_s_27, ↓hp_l_27, ↓hp_a_28, ↓hp_s_28, ↓hp_l_28, ↓hp_a_29, ↓hp_s_29, ↓hp_l_29, ↓hp_a_30, ↓hp_s_30, ↓hp_l_30, ↓hp_a_31, ↓hp_s_31, ↓hp_l_31, ↓hp_a_32, ↓hp_s_32, ↓hp_l_32, ↓hp_a_33, ↓hp_s_33, ↓hp_l_33, ↓hp_a_34, ↓hp_s_34, ↓hp_l_34, ↓hp_a_35, ↓hp_s_35, ↓hp_l_35, ↓hp_a_36, ↓hp_s_36, ↓hp_l_36, ↓hp_a_37, ↓hp_s_37, ↓hp_l_37, ↓hp_a_38, ↓hp_s_38, ↓hp_l_38, ↓hp_a_39, ↓hp_s_39, ↓hp_a_40, ↓hp_s_40, ↓hp_a_41, ↓hp_s_41, ↓hp_l_41, ↓hp_a_42, ↓hp_s_42, ↓hp_l_42, ↓hp_a_43, ↓hp_s_43, ↓hp_l_43, ↓hp_a_44, ↓hp_s_44, ↓hp_l_44, ↓hp_a_45, ↓hp_s_45, ↓hp_l_45, ↓hp_a_46, ↓hp_s_46, ↓hp_l_46, ↓hp_a_47, ↓hp_s_47, ↓hp_l_47, ↓hp_a_48, ↓hp_s_48, ↓hp_l_48, ↓hp_a_49, ↓hp_s_49, ↓hp_l_49, ↓hp_a_50, ↓hp_s_50, ↓hp_l_50, h5]
        · have g3 : 1 < fs p := by omega
          obtain ⟨v1, v2⟩ := hf p (by omega)
          have hp7 := h7 p (by omega)
          have e5 : (10001 * (r : Int) + (p : Int)).toNat = 10001 * r + p := by omega
          clear g ih hh h7 hf
          simp (disch := (first | assumption | (unfold i32; omega) | (unfold i64; omega) | omega)) only [↓reduceIte, ki_0, ki_1, ki_2, ki_3, ki_4, ki_5, ki_6, ki_7, ki_8, ki_9, ki_10, ki_11, ki_12, ki_13, ki_14, ki_15, ki_20, ki_21, ki_30, ki_31, ki_40, ki_41, ki_50, ki_51, ki_60, ki_63, ki_64, ki_65, ki_100, ki_158, ki_160, ki_200, ki_212, ki_1000, ki_2000, ki_2001, ki_5000, ki_10000, ki_10001, ki_100000, ki_200000, ki_1000000, ki_2000000, ki_3000000, iO_neg, iO_add, iO_sub, iO_mul, kn_4, kn_8, kn_10, kn_20, kn_24, kn_40, kn_41, kn_50, kn_60, kn_158, kn_160, kn_200, kn_212, kn_2001, tn_lt, fn_lt, tn_le, fn_le, tn_eq, fn_eq, x_lt, x_le, x_eq, x_ix, x_nat, t_lt, f_lt, t_le, f_le, t_eq, f_eq, eq_self, and_self, true_and, and_true, false_and, and_false, if_true, if_false, Int.toNat_natCast, bI_s, bL_s, bA_s, bA_n, bV_s, mq_s, mq_n, en_le, bl_0, bl_1, u_eq, u_ne, w_eq, w_ne, v_eq, v_ne, ↓hp_cc_26, ↓hp_g_26_0, ↓hp_p_26_0, ↓hp_g_26_1, ↓hp_p_26_1, ↓hp_g_26_2, ↓hp_p_26_2, ↓hp_g_26_3, ↓hp_g_26_4, ↓hp_g_26_5, ↓hp_g_26_6, ↓hp_g_26_7, ↓hp_g_26_8, ↓hp_g_26_9, ↓hp_g_26_10, ↓hp_g_26_11, ↓hp_g_26_12, ↓hp_g_26_13, ↓hp_g_26_14, ↓hp_g_26_15, ↓hp_p_26_15, ↓hp_g_26_16, ↓hp_g_26_17, ↓hp_g_26_18, ↓hp_p_26_18, ↓hp_g_26_19, ↓hp_p_26_19, ↓hp_g_26_20, ↓hp_g_26_21, ↓hp_p_26_21, ↓hp_g_26_22, ↓hp_g_26_23, ↓hp_g_26_24, ↓hp_g_26_25, ↓hp_g_26_26, ↓hp_g_26_27, ↓hp_g_26_28, ↓hp_g_26_29, ↓hp_g_26_30, ↓hp_p_26_30, ↓hp_g_26_31, ↓hp_g_26_32, ↓hp_p_26_32, ↓hp_a_27, ↓hp_s_27, ↓hp_l_27, ↓hp_a_28, ↓hp_s_28, ↓hp_l_28, ↓hp_a_29, ↓hp_s_29, ↓hp_l_29, ↓hp_a_30, ↓hp_s_30, ↓hp_l_30, ↓hp_a_31, ↓hp_s_31, ↓hp_l_31, ↓hp_a_32, ↓hp_s_32, ↓hp_l_32, ↓hp_a_33, ↓hp_s_33, ↓hp_l_33, ↓hp_a_34, ↓hp_s_34, ↓hp_l_34, ↓hp_a_35, ↓hp_s_35, ↓hp_l_35, ↓hp_a_36, ↓hp_s_36, ↓hp_l_36, ↓hp_a_37, ↓hp_s_37, ↓hp_l_37, ↓hp_a_38, ↓hp_s_38, ↓hp_l_38, ↓hp_a_39, ↓hp_s_39, ↓hp_a_40, ↓hp_s_40, ↓hp_a_41, ↓hp_s_41, ↓hp_l_41, ↓hp_a_42, ↓hp_s_42, ↓hp_l_42, ↓hp_a_43, ↓hp_s_43, ↓hp_l_43, ↓hp_a_44, ↓hp_s_44, ↓hp_l_44, ↓hp_a_45, ↓hp_s_45, ↓hp_l_45, ↓hp_a_46, ↓hp_s_46, ↓hp_l_46, ↓hp_a_47, ↓hp_s_47, ↓hp_l_47, ↓hp_a_48, ↓hp_s_48, ↓hp_l_48, ↓hp_a_49, ↓hp_s_49, ↓hp_l_49, ↓hp_a_50, ↓hp_s_50, ↓hp_l_50, h5, e5, hp7]
end MCT
section CTB
variable {sc : en_S} {n : Nat} {S : ST5}
theorem mc_cut (hS : OK5 S) {r z zs o os : Int} (h1 : i32 r) (h2 : i32 z) (h3 : i32 zs) (h4 : i32 o) (h5 : i32 os) : MC S (p_cut S r z zs o os).2 (p_cut S r z zs o os).1 (fun w => f_X12_cut sc (n + 40) 26 (iO r) (iO z) (iO zs) (iO o) (iO os) w) := by
  obtain ⟨a1, a2⟩ := id h2
  obtain ⟨a3, a4⟩ := id h3
  obtain ⟨a5, a6⟩ := id h4
  obtain ⟨a7, a8⟩ := id h5
  have h10 := hS.2.1
  unfold p_cut
  cases hq : rowq S r with
  | none =>
    apply mc_ref
    intro XI XA XP XC MI MA ML D hV
    have hrn := rowq_none hq
    show f_X12_cut sc (n + 40) 26 (iO r) (iO z) (iO zs) (iO o) (iO os) _ = _
    rw [e_X12_cut, hp_cc_26, if_pos rfl, e_misRow hV hS h1, if_neg (by omega), bI_s, if_pos (show iO 0 = 0 from rfl), hp_cc_26, if_pos rfl, m_refuse]
    rfl
  | some q =>
    obtain ⟨k, rfl, hk, hq2⟩ := rowq_some hq
    have hR := hS.2.2.2.1 q (List.mem_of_getElem? hq2)
    have hsz : q.2.2.1 ≤ 10001 := hR.2.2.2.2.1
    have hva := hR.2.2.2.2.2.1
    have hrow : ∀ (XI : Nat → Int32) (XA : Nat → Nat → Int32) (XP : Nat → Nat → Option Nat) (XC : Value) (MI : Nat → Int32) (MA : Nat → Nat → Int32) (ML : Nat → Nat → Int64) (D : en_H), MV S MI MA → f_X12_isRow sc (n + 39) 26 (iO (k : Int)) (hp XI XA XP XC MI MA ML D) = some (some (.int (iO 1)), hp XI XA XP XC MI MA ML D) := by
      intro XI XA XP XC MI MA ML D hV
      have := e_misRow (sc := sc) (n := n + 37) (XI := XI) (XA := XA) (XP := XP) (XC := XC) (ML := ML) (D0 := D) hV hS (s := (k : Int)) h1
      rw [if_pos (by omega)] at this
      exact this
    dsimp only
    by_cases g : 1 ≤ zs ∧ zs ≤ 6 ∧ 1 ≤ os ∧ os ≤ 6 ∧ 0 ≤ z ∧ z < 2 ^ zs.toNat ∧ 0 ≤ o ∧ o < 2 ^ os.toNat
    · rw [if_pos g]
      obtain ⟨g1, g2, g3, g4, g5, g6, g7, g8⟩ := g
      obtain ⟨y, rfl⟩ : ∃ y : Nat, zs = y := ⟨zs.toNat, by omega⟩
      obtain ⟨v, rfl⟩ : ∃ v : Nat, os = v := ⟨os.toNat, by omega⟩
      rw [Int.toNat_natCast] at g6
      rw [Int.toNat_natCast] at g8
      rw [Int.toNat_natCast, Int.toNat_natCast]
      have e1 := sl31 y (by omega)
      have e2 := sl31 v (by omega)
      have e3 := p2_64 y (by omega)
      have e4 := p2_64 v (by omega)
      rw [ki_1, ki_31] at e1 e2
      obtain ⟨z', rfl⟩ : ∃ z' : Nat, z = z' := ⟨z.toNat, by omega⟩
      obtain ⟨o', rfl⟩ : ∃ o' : Nat, o = o' := ⟨o.toNat, by omega⟩
      generalize hP : (2 : Int) ^ y = P at *
      generalize hQ : (2 : Int) ^ v = Q at *
      by_cases gl : 10 ≤ S.2.1.length
      · rw [if_pos gl]
        apply mc_ref
        intro XI XA XP XC MI MA ML D hV
        have w2 := hV.2.1
        have hr := hrow XI XA XP XC MI MA ML D hV
        show f_X12_cut sc (n + 40) 26 (iO (k : Int)) (iO (z' : Int)) (iO (y : Int)) (iO (o' : Int)) (iO (v : Int)) _ = _
        rw [e_X12_cut]
        clear hV hrow hva
        simp (disch := (first | assumption | (unfold i32; omega) | (unfold i64; omega) | omega)) only [↓reduceIte, ki_0, ki_1, ki_2, ki_3, ki_4, ki_5, ki_6, ki_7, ki_8, ki_9, ki_10, ki_11, ki_12, ki_13, ki_14, ki_15, ki_20, ki_21, ki_30, ki_31, ki_40, ki_41, ki_50, ki_51, ki_60, ki_63, ki_64, ki_65, ki_100, ki_158, ki_160, ki_200, ki_212, ki_1000, ki_2000, ki_2001, ki_5000, ki_10000, ki_10001, ki_100000, ki_200000, ki_1000000, ki_2000000, ki_3000000, iO_neg, iO_add, iO_sub, iO_mul, kn_4, kn_8, kn_10, kn_20, kn_24, kn_40, kn_41, kn_50, kn_60, kn_158, kn_160, kn_200, kn_212, kn_2001, tn_lt, fn_lt, tn_le, fn_le, tn_eq, fn_eq, x_lt, x_le, x_eq, x_ix, x_nat, t_lt, f_lt, t_le, f_le, t_eq, f_eq, eq_self, and_self, true_and, and_true, false_and, and_false, if_true, if_false, Int.toNat_natCast, bI_s, bL_s, bA_s, bA_n, bV_s, mq_s, mq_n, en_le, bl_0, bl_1, u_eq, u_ne, w_eq, w_ne, v_eq, v_ne, ↓hp_cc_26, ↓hp_g_26_0, ↓hp_p_26_0, ↓hp_g_26_1, ↓hp_p_26_1, ↓hp_g_26_2, ↓hp_p_26_2, ↓hp_g_26_3, ↓hp_g_26_4, ↓hp_g_26_5, ↓hp_g_26_6, ↓hp_g_26_7, ↓hp_g_26_8, ↓hp_g_26_9, ↓hp_g_26_10, ↓hp_g_26_11, ↓hp_g_26_12, ↓hp_g_26_13, ↓hp_g_26_14, ↓hp_g_26_15, ↓hp_p_26_15, ↓hp_g_26_16, ↓hp_g_26_17, ↓hp_g_26_18, ↓hp_p_26_18, ↓hp_g_26_19, ↓hp_p_26_19, ↓hp_g_26_20, ↓hp_g_26_21, ↓hp_p_26_21, ↓hp_g_26_22, ↓hp_g_26_23, ↓hp_g_26_24, ↓hp_g_26_25, ↓hp_g_26_26, ↓hp_g_26_27, ↓hp_g_26_28, ↓hp_g_26_29, ↓hp_g_26_30, ↓hp_p_26_30, ↓hp_g_26_31, ↓hp_g_26_32, ↓hp_p_26_32, ↓hp_a_27, ↓hp_s_27, ↓hp_l_27, ↓hp_a_28, ↓hp_s_28, ↓hp_l_28, ↓hp_a_29, ↓hp_s_29, ↓hp_l_29, ↓hp_a_30, ↓hp_s_30, ↓hp_l_30, ↓hp_a_31, ↓hp_s_31, ↓hp_l_31, ↓hp_a_32, ↓hp_s_32, ↓hp_l_32, ↓hp_a_33, ↓hp_s_33, ↓hp_l_33, ↓hp_a_34, ↓hp_s_34, ↓hp_l_34, ↓hp_a_35, ↓hp_s_35, ↓hp_l_35, ↓hp_a_36, ↓hp_s_36, ↓hp_l_36, ↓hp_a_37, ↓hp_s_37, ↓hp_l_37, ↓hp_a_38, ↓hp_s_38, ↓hp_l_38, ↓hp_a_39, ↓hp_s_39, ↓hp_a_40, ↓hp_s_40, ↓hp_a_41, ↓hp_s_41, ↓hp_l_41, ↓hp_a_42, ↓hp_s_42, ↓hp_l_42, ↓hp_a_43, ↓hp_s_43, ↓hp_l_43, ↓hp_a_44, ↓hp_s_44, ↓hp_l_44, ↓hp_a_45, ↓hp_s_45, ↓hp_l_45, ↓hp_a_46, ↓hp_s_46, ↓hp_l_46, ↓hp_a_47, ↓hp_s_47, ↓hp_l_47, ↓hp_a_48, ↓hp_s_48, ↓hp_l_48, ↓hp_a_49, ↓hp_s_49, ↓hp_l_49, ↓hp_a_50, ↓hp_s_50, ↓hp_l_50, hr, e_X12_in, e1, e2, w2, m_refuse]
      · rw [if_neg gl]
        intro XI XA XP XC MI MA ML D hV hP2
        have w2 := hV.2.1
        have hr := hrow XI XA XP XC MI MA ML D hV
        obtain ⟨c1, c2, c3, c4⟩ := hV.2.2.2.2.2.1 k q hq2
        obtain ⟨MA', f1, f2, f3, f4⟩ := m_cut_6 (sc := sc) (d := n + 38) (XI := XI) (XA := XA) (XP := XP) (XC := XC) (ML := ML) (D := D) (R := S.2.1.length) (r := k) (ns := q.2.2.1) (by omega) hk w2 hsz hva (z := z') (o := o') (zs := y) (os := v) (by omega) (by omega) (by omega) (by omega) (by omega) (by omega) 10002 0 MA (by omega) c2 c4 (fun t ht => by
          have : t < min ([] : List Int).length 10001 := ht
          simp at this)
        have f1 : b_X12_cut_6 sc (n + 39) 26 (iO (k : Int)) (iO (z' : Int)) (iO (y : Int)) (iO (o' : Int)) (iO (v : Int)) (iO 0) (iO 0) (hp XI XA XP XC MI MA ML D) = b_X12_cut_15 sc (n + 39) 26 (iO ((cutN q.2.2.1 q.2.2.2 z' y o' v : Nat) : Int)) (hp XI XA XP XC MI MA' ML D) := f1
        have f4 : hold MA' S.2.1.length (cutL q.2.2.2 z' y o' v (cutK0 q.2.2.1 q.2.2.2 z' y o' v)) (cutN q.2.2.1 q.2.2.2 z' y o' v) := f4
        have hN : cutN q.2.2.1 q.2.2.2 z' y o' v ≤ 10001 := Nat.min_le_right _ _
        refine ⟨va_up (va_up MI 1 (iO ((S.2.1.length : Int) + 1))) 2 (iO 0), va_up (va_up (va_up MA' 5 (upd (MA' 5) S.2.1.length (iO ((cutN q.2.2.1 q.2.2.2 z' y o' v : Nat) : Int)))) 4 (upd (MA' 4) S.2.1.length (iO 3))) 6 (upd (MA' 6) S.2.1.length (iO (-1))), ML, ?_, ?_, ?_⟩
        · show f_X12_cut sc (n + 40) 26 (iO (k : Int)) (iO (z' : Int)) (iO (y : Int)) (iO (o' : Int)) (iO (v : Int)) _ = _
          rw [e_X12_cut]
          generalize cutN q.2.2.1 q.2.2.2 z' y o' v = CN at *
          clear hV hrow hva f2 f3 f4 hP2 c4
          simp (disch := (first | assumption | (unfold i32; omega) | (unfold i64; omega) | omega)) only [↓reduceIte, ki_0, ki_1, ki_2, ki_3, ki_4, ki_5, ki_6, ki_7, ki_8, ki_9, ki_10, ki_11, ki_12, ki_13, ki_14, ki_15, ki_20, ki_21, ki_30, ki_31, ki_40, ki_41, ki_50, ki_51, ki_60, ki_63, ki_64, ki_65, ki_100, ki_158, ki_160, ki_200, ki_212, ki_1000, ki_2000, ki_2001, ki_5000, ki_10000, ki_10001, ki_100000, ki_200000, ki_1000000, ki_2000000, ki_3000000, iO_neg, iO_add, iO_sub, iO_mul, kn_4, kn_8, kn_10, kn_20, kn_24, kn_40, kn_41, kn_50, kn_60, kn_158, kn_160, kn_200, kn_212, kn_2001, tn_lt, fn_lt, tn_le, fn_le, tn_eq, fn_eq, x_lt, x_le, x_eq, x_ix, x_nat, t_lt, f_lt, t_le, f_le, t_eq, f_eq, eq_self, and_self, true_and, and_true, false_and, and_false, if_true, if_false, Int.toNat_natCast, bI_s, bL_s, bA_s, bA_n, bV_s, mq_s, mq_n, en_le, bl_0, bl_1, u_eq, u_ne, w_eq, w_ne, v_eq, v_ne, ↓hp_cc_26, ↓hp_g_26_0, ↓hp_p_26_0, ↓hp_g_26_1, ↓hp_p_26_1, ↓hp_g_26_2, ↓hp_p_26_2, ↓hp_g_26_3, ↓hp_g_26_4, ↓hp_g_26_5, ↓hp_g_26_6, ↓hp_g_26_7, ↓hp_g_26_8, ↓hp_g_26_9, ↓hp_g_26_10, ↓hp_g_26_11, ↓hp_g_26_12, ↓hp_g_26_13, ↓hp_g_26_14, ↓hp_g_26_15, ↓hp_p_26_15, ↓hp_g_26_16, ↓hp_g_26_17, ↓hp_g_26_18, ↓hp_p_26_18, ↓hp_g_26_19, ↓hp_p_26_19, ↓hp_g_26_20, ↓hp_g_26_21, ↓hp_p_26_21, ↓hp_g_26_22, ↓hp_g_26_23, ↓hp_g_26_24, ↓hp_g_26_25, ↓hp_g_26_26, ↓hp_g_26_27, ↓hp_g_26_28, ↓hp_g_26_29, ↓hp_g_26_30, ↓hp_p_26_30, ↓hp_g_26_31, ↓hp_g_26_32, ↓hp_p_26_32, ↓hp_a_27, ↓hp_s_27, ↓hp_l_27, ↓hp_a_28, ↓hp_s_28, ↓hp_l_28, ↓hp_a_29, ↓hp_s_29, ↓hp_l_29, ↓hp_a_30, ↓hp_s_30, ↓hp_l_30, ↓hp_a_31, ↓hp_s_31, ↓hp_l_31, ↓hp_a_32, ↓hp_s_32, ↓hp_l_32, ↓hp_a_33, ↓hp_s_33, ↓hp_l_33, ↓hp_a_34, ↓hp_s_34, ↓hp_l_34, ↓hp_a_35, ↓hp_s_35, ↓hp_l_35, ↓hp_a_36, ↓hp_s_36, ↓hp_l_36, ↓hp_a_37, ↓hp_s_37, ↓hp_l_37, ↓hp_a_38, ↓hp_s_38, ↓hp_l_38, ↓hp_a_39, ↓hp_s_39, ↓hp_a_40, ↓hp_s_40, ↓hp_a_41, ↓hp_s_41, ↓hp_l_41, ↓hp_a_42, ↓hp_s_42, ↓hp_l_42, ↓hp_a_43, ↓hp_s_43, ↓hp_l_43, ↓hp_a_44, ↓hp_s_44, ↓hp_l_44, ↓hp_a_45, ↓hp_s_45, ↓hp_l_45, ↓hp_a_46, ↓hp_s_46, ↓hp_l_46, ↓hp_a_47, ↓hp_s_47, ↓hp_l_47, ↓hp_a_48, ↓hp_s_48, ↓hp_l_48, ↓hp_a_49, ↓hp_s_49, ↓hp_l_49, ↓hp_a_50, ↓hp_s_50, ↓hp_l_50, hr, e_X12_in, e1, e2, w2, f1, eb_X12_cut_15, m_done]
        · refine mv_add hS hV ?_ ?_ ?_ ?_ ?_ ?_
          · show upd (MA' 4) S.2.1.length (iO 3) = upd (MA 4) S.2.1.length (iO 3)
            rw [f2 4 (by decide)]
          · show upd (MA' 5) S.2.1.length _ = upd (MA 5) S.2.1.length _
            rw [f2 5 (by decide)]
          · show upd (MA' 6) S.2.1.length (iO (-1)) = upd (MA 6) S.2.1.length (iO (-1))
            rw [f2 6 (by decide)]
          · intro t t4 t5 t6 t7
            rw [w_ne t6, w_ne t4, w_ne t5, f2 t t7]
          · intro i hi
            exact f3 i hi
          · intro i hi
            obtain ⟨yy, y1, y2⟩ := f4 i hi
            show MA' 7 _ = _
            rw [y2]
            unfold cutF
            rw [y1]
            rfl
        · exact pv_of hP2 rfl (f2 21 (by decide))
    · rw [if_neg g]
      apply mc_ref
      intro XI XA XP XC MI MA ML D hV
      have hr := hrow XI XA XP XC MI MA ML D hV
      show f_X12_cut sc (n + 40) 26 (iO (k : Int)) (iO z) (iO zs) (iO o) (iO os) _ = _
      rw [e_X12_cut]
      clear hV hrow hva
      by_cases t1 : zs < 1
      · clear g; simp (disch := (first | assumption | (unfold i32; omega) | (unfold i64; omega) | omega)) only [↓reduceIte, ki_0, ki_1, ki_2, ki_3, ki_4, ki_5, ki_6, ki_7, ki_8, ki_9, ki_10, ki_11, ki_12, ki_13, ki_14, ki_15, ki_20, ki_21, ki_30, ki_31, ki_40, ki_41, ki_50, ki_51, ki_60, ki_63, ki_64, ki_65, ki_100, ki_158, ki_160, ki_200, ki_212, ki_1000, ki_2000, ki_2001, ki_5000, ki_10000, ki_10001, ki_100000, ki_200000, ki_1000000, ki_2000000, ki_3000000, iO_neg, iO_add, iO_sub, iO_mul, kn_4, kn_8, kn_10, kn_20, kn_24, kn_40, kn_41, kn_50, kn_60, kn_158, kn_160, kn_200, kn_212, kn_2001, tn_lt, fn_lt, tn_le, fn_le, tn_eq, fn_eq, x_lt, x_le, x_eq, x_ix, x_nat, t_lt, f_lt, t_le, f_le, t_eq, f_eq, eq_self, and_self, true_and, and_true, false_and, and_false, if_true, if_false, Int.toNat_natCast, bI_s, bL_s, bA_s, bA_n, bV_s, mq_s, mq_n, en_le, bl_0, bl_1, u_eq, u_ne, w_eq, w_ne, v_eq, v_ne, ↓hp_cc_26, ↓hp_g_26_0, ↓hp_p_26_0, ↓hp_g_26_1, ↓hp_p_26_1, ↓hp_g_26_2, ↓hp_p_26_2, ↓hp_g_26_3, ↓hp_g_26_4, ↓hp_g_26_5, ↓hp_g_26_6, ↓hp_g_26_7, ↓hp_g_26_8, ↓hp_g_26_9, ↓hp_g_26_10, ↓hp_g_26_11, ↓hp_g_26_12, ↓hp_g_26_13, ↓hp_g_26_14, ↓hp_g_26_15, ↓hp_p_26_15, ↓hp_g_26_16, ↓hp_g_26_17, ↓hp_g_26_18, ↓hp_p_26_18, ↓hp_g_26_19, ↓hp_p_26_19, ↓hp_g_26_20, ↓hp_g_26_21, ↓hp_p_26_21, ↓hp_g_26_22, ↓hp_g_26_23, ↓hp_g_26_24, ↓hp_g_26_25, ↓hp_g_26_26, ↓hp_g_26_27, ↓hp_g_26_28, ↓hp_g_26_29, ↓hp_g_26_30, ↓hp_p_26_30, ↓hp_g_26_31, ↓hp_g_26_32, ↓hp_p_26_32, ↓hp_a_27, ↓hp_s_27, ↓hp_l_27, ↓hp_a_28, ↓hp_s_28, ↓hp_l_28, ↓hp_a_29, ↓hp_s_29, ↓hp_l_29, ↓hp_a_30, ↓hp_s_30, ↓hp_l_30, ↓hp_a_31, ↓hp_s_31, ↓hp_l_31, ↓hp_a_32, ↓hp_s_32, ↓hp_l_32, ↓hp_a_33, ↓hp_s_33, ↓hp_l_33, ↓hp_a_34, ↓hp_s_34, ↓hp_l_34, ↓hp_a_35, ↓hp_s_35, ↓hp_l_35, ↓hp_a_36, ↓hp_s_36, ↓hp_l_36, ↓hp_a_37, ↓hp_s_37, ↓hp_l_37, ↓hp_a_38, ↓hp_s_38, ↓hp_l_38, ↓hp_a_39, ↓hp_s_39, ↓hp_a_40, ↓hp_s_40, ↓hp_a_41, ↓hp_s_41, ↓hp_l_41, ↓hp_a_42, ↓hp_s_42, ↓hp_l_42, ↓hp_a_43, ↓hp_s_43, ↓hp_l_43, ↓hp_a_44, ↓hp_s_44, ↓hp_l_44, ↓hp_a_45, ↓hp_s_45, ↓hp_l_45, ↓hp_a_46, ↓hp_s_46, ↓hp_l_46, ↓hp_a_47, ↓hp_s_47, ↓hp_l_47, ↓hp_a_48, ↓hp_s_48, ↓hp_l_48, ↓hp_a_49, ↓hp_s_49, ↓hp_l_49, ↓hp_a_50, ↓hp_s_50, ↓hp_l_50, hr, e_X12_in, m_refuse]
      by_cases t2 : 6 < zs
      · clear g; simp (disch := (first | assumption | (unfold i32; omega) | (unfold i64; omega) | omega)) only [↓reduceIte, ki_0, ki_1, ki_2, ki_3, ki_4, ki_5, ki_6, ki_7, ki_8, ki_9, ki_10, ki_11, ki_12, ki_13, ki_14, ki_15, ki_20, ki_21, ki_30, ki_31, ki_40, ki_41, ki_50, ki_51, ki_60, ki_63, ki_64, ki_65, ki_100, ki_158, ki_160, ki_200, ki_212, ki_1000, ki_2000, ki_2001, ki_5000, ki_10000, ki_10001, ki_100000, ki_200000, ki_1000000, ki_2000000, ki_3000000, iO_neg, iO_add, iO_sub, iO_mul, kn_4, kn_8, kn_10, kn_20, kn_24, kn_40, kn_41, kn_50, kn_60, kn_158, kn_160, kn_200, kn_212, kn_2001, tn_lt, fn_lt, tn_le, fn_le, tn_eq, fn_eq, x_lt, x_le, x_eq, x_ix, x_nat, t_lt, f_lt, t_le, f_le, t_eq, f_eq, eq_self, and_self, true_and, and_true, false_and, and_false, if_true, if_false, Int.toNat_natCast, bI_s, bL_s, bA_s, bA_n, bV_s, mq_s, mq_n, en_le, bl_0, bl_1, u_eq, u_ne, w_eq, w_ne, v_eq, v_ne, ↓hp_cc_26, ↓hp_g_26_0, ↓hp_p_26_0, ↓hp_g_26_1, ↓hp_p_26_1, ↓hp_g_26_2, ↓hp_p_26_2, ↓hp_g_26_3, ↓hp_g_26_4, ↓hp_g_26_5, ↓hp_g_26_6, ↓hp_g_26_7, ↓hp_g_26_8, ↓hp_g_26_9, ↓hp_g_26_10, ↓hp_g_26_11, ↓hp_g_26_12, ↓hp_g_26_13, ↓hp_g_26_14, ↓hp_g_26_15, ↓hp_p_26_15, ↓hp_g_26_16, ↓hp_g_26_17, ↓hp_g_26_18, ↓hp_p_26_18, ↓hp_g_26_19, ↓hp_p_26_19, ↓hp_g_26_20, ↓hp_g_26_21, ↓hp_p_26_21, ↓hp_g_26_22, ↓hp_g_26_23, ↓hp_g_26_24, ↓hp_g_26_25, ↓hp_g_26_26, ↓hp_g_26_27, ↓hp_g_26_28, ↓hp_g_26_29, ↓hp_g_26_30, ↓hp_p_26_30, ↓hp_g_26_31, ↓hp_g_26_32, ↓hp_p_26_32, ↓hp_a_27, ↓hp_s_27, ↓hp_l_27, ↓hp_a_28, ↓hp_s_28, ↓hp_l_28, ↓hp_a_29, ↓hp_s_29, ↓hp_l_29, ↓hp_a_30, ↓hp_s_30, ↓hp_l_30, ↓hp_a_31, ↓hp_s_31, ↓hp_l_31, ↓hp_a_32, ↓hp_s_32, ↓hp_l_32, ↓hp_a_33, ↓hp_s_33, ↓hp_l_33, ↓hp_a_34, ↓hp_s_34, ↓hp_l_34, ↓hp_a_35, ↓hp_s_35, ↓hp_l_35, ↓hp_a_36, ↓hp_s_36, ↓hp_l_36, ↓hp_a_37, ↓hp_s_37, ↓hp_l_37, ↓hp_a_38, ↓hp_s_38, ↓hp_l_38, ↓hp_a_39, ↓hp_s_39, ↓hp_a_40, ↓hp_s_40, ↓hp_a_41, ↓hp_s_41, ↓hp_l_41, ↓hp_a_42, ↓hp_s_42, ↓hp_l_42, ↓hp_a_43, ↓hp_s_43, ↓hp_l_43, ↓hp_a_44, ↓hp_s_44, ↓hp_l_44, ↓hp_a_45, ↓hp_s_45, ↓hp_l_45, ↓hp_a_46, ↓hp_s_46, ↓hp_l_46, ↓hp_a_47, ↓hp_s_47, ↓hp_l_47, ↓hp_a_48, ↓hp_s_48, ↓hp_l_48, ↓hp_a_49, ↓hp_s_49, ↓hp_l_49, ↓hp_a_50, ↓hp_s_50, ↓hp_l_50, hr, e_X12_in, m_refuse]
      by_cases t3 : os < 1
      · clear g; simp (disch := (first | assumption | (unfold i32; omega) | (unfold i64; omega) | omega)) only [↓reduceIte, ki_0, ki_1, ki_2, ki_3, ki_4, ki_5, ki_6, ki_7, ki_8, ki_9, ki_10, ki_11, ki_12, ki_13, ki_14, ki_15, ki_20, ki_21, ki_30, ki_31, ki_40, ki_41, ki_50, ki_51, ki_60, ki_63, ki_64, ki_65, ki_100, ki_158, ki_160, ki_200, ki_212, ki_1000, ki_2000, ki_2001, ki_5000, ki_10000, ki_10001, ki_100000, ki_200000, ki_1000000, ki_2000000, ki_3000000, iO_neg, iO_add, iO_sub, iO_mul, kn_4, kn_8, kn_10, kn_20, kn_24, kn_40, kn_41, kn_50, kn_60, kn_158, kn_160, kn_200, kn_212, kn_2001, tn_lt, fn_lt, tn_le, fn_le, tn_eq, fn_eq, x_lt, x_le, x_eq, x_ix, x_nat, t_lt, f_lt, t_le, f_le, t_eq, f_eq, eq_self, and_self, true_and, and_true, false_and, and_false, if_true, if_false, Int.toNat_natCast, bI_s, bL_s, bA_s, bA_n, bV_s, mq_s, mq_n, en_le, bl_0, bl_1, u_eq, u_ne, w_eq, w_ne, v_eq, v_ne, ↓hp_cc_26, ↓hp_g_26_0, ↓hp_p_26_0, ↓hp_g_26_1, ↓hp_p_26_1, ↓hp_g_26_2, ↓hp_p_26_2, ↓hp_g_26_3, ↓hp_g_26_4, ↓hp_g_26_5, ↓hp_g_26_6, ↓hp_g_26_7, ↓hp_g_26_8, ↓hp_g_26_9, ↓hp_g_26_10, ↓hp_g_26_11, ↓hp_g_26_12, ↓hp_g_26_13, ↓hp_g_26_14, ↓hp_g_26_15, ↓hp_p_26_15, ↓hp_g_26_16, ↓hp_g_26_17, ↓hp_g_26_18, ↓hp_p_26_18, ↓hp_g_26_19, ↓hp_p_26_19, ↓hp_g_26_20, ↓hp_g_26_21, ↓hp_p_26_21, ↓hp_g_26_22, ↓hp_g_26_23, ↓hp_g_26_24, ↓hp_g_26_25, ↓hp_g_26_26, ↓hp_g_26_27, ↓hp_g_26_28, ↓hp_g_26_29, ↓hp_g_26_30, ↓hp_p_26_30, ↓hp_g_26_31, ↓hp_g_26_32, ↓hp_p_26_32, ↓hp_a_27, ↓hp_s_27, ↓hp_l_27, ↓hp_a_28, ↓hp_s_28, ↓hp_l_28, ↓hp_a_29, ↓hp_s_29, ↓hp_l_29, ↓hp_a_30, ↓hp_s_30, ↓hp_l_30, ↓hp_a_31, ↓hp_s_31, ↓hp_l_31, ↓hp_a_32, ↓hp_s_32, ↓hp_l_32, ↓hp_a_33, ↓hp_s_33, ↓hp_l_33, ↓hp_a_34, ↓hp_s_34, ↓hp_l_34, ↓hp_a_35, ↓hp_s_35, ↓hp_l_35, ↓hp_a_36, ↓hp_s_36, ↓hp_l_36, ↓hp_a_37, ↓hp_s_37, ↓hp_l_37, ↓hp_a_38, ↓hp_s_38, ↓hp_l_38, ↓hp_a_39, ↓hp_s_39, ↓hp_a_40, ↓hp_s_40, ↓hp_a_41, ↓hp_s_41, ↓hp_l_41, ↓hp_a_42, ↓hp_s_42, ↓hp_l_42, ↓hp_a_43, ↓hp_s_43, ↓hp_l_43, ↓hp_a_44, ↓hp_s_44, ↓hp_l_44, ↓hp_a_45, ↓hp_s_45, ↓hp_l_45, ↓hp_a_46, ↓hp_s_46, ↓hp_l_46, ↓hp_a_47, ↓hp_s_47, ↓hp_l_47, ↓hp_a_48, ↓hp_s_48, ↓hp_l_48, ↓hp_a_49, ↓hp_s_49, ↓hp_l_49, ↓hp_a_50, ↓hp_s_50, ↓hp_l_50, hr, e_X12_in, m_refuse]
      by_cases t4 : 6 < os
      · clear g; simp (disch := (first | assumption | (unfold i32; omega) | (unfold i64; omega) | omega)) only [↓reduceIte, ki_0, ki_1, ki_2, ki_3, ki_4, ki_5, ki_6, ki_7, ki_8, ki_9, ki_10, ki_11, ki_12, ki_13, ki_14, ki_15, ki_20, ki_21, ki_30, ki_31, ki_40, ki_41, ki_50, ki_51, ki_60, ki_63, ki_64, ki_65, ki_100, ki_158, ki_160, ki_200, ki_212, ki_1000, ki_2000, ki_2001, ki_5000, ki_10000, ki_10001, ki_100000, ki_200000, ki_1000000, ki_2000000, ki_3000000, iO_neg, iO_add, iO_sub, iO_mul, kn_4, kn_8, kn_10, kn_20, kn_24, kn_40, kn_41, kn_50, kn_60, kn_158, kn_160, kn_200, kn_212, kn_2001, tn_lt, fn_lt, tn_le, fn_le, tn_eq, fn_eq, x_lt, x_le, x_eq, x_ix, x_nat, t_lt, f_lt, t_le, f_le, t_eq, f_eq, eq_self, and_self, true_and, and_true, false_and, and_false, if_true, if_false, Int.toNat_natCast, bI_s, bL_s, bA_s, bA_n, bV_s, mq_s, mq_n, en_le, bl_0, bl_1, u_eq, u_ne, w_eq, w_ne, v_eq, v_ne, ↓hp_cc_26, ↓hp_g_26_0, ↓hp_p_26_0, ↓hp_g_26_1, ↓hp_p_26_1, ↓hp_g_26_2, ↓hp_p_26_2, ↓hp_g_26_3, ↓hp_g_26_4, ↓hp_g_26_5, ↓hp_g_26_6, ↓hp_g_26_7, ↓hp_g_26_8, ↓hp_g_26_9, ↓hp_g_26_10, ↓hp_g_26_11, ↓hp_g_26_12, ↓hp_g_26_13, ↓hp_g_26_14, ↓hp_g_26_15, ↓hp_p_26_15, ↓hp_g_26_16, ↓hp_g_26_17, ↓hp_g_26_18, ↓hp_p_26_18, ↓hp_g_26_19, ↓hp_p_26_19, ↓hp_g_26_20, ↓hp_g_26_21, ↓hp_p_26_21, ↓hp_g_26_22, ↓hp_g_26_23, ↓hp_g_26_24, ↓hp_g_26_25, ↓hp_g_26_26, ↓hp_g_26_27, ↓hp_g_26_28, ↓hp_g_26_29, ↓hp_g_26_30, ↓hp_p_26_30, ↓hp_g_26_31, ↓hp_g_26_32, ↓hp_p_26_32, ↓hp_a_27, ↓hp_s_27, ↓hp_l_27, ↓hp_a_28, ↓hp_s_28, ↓hp_l_28, ↓hp_a_29, ↓hp_s_29, ↓hp_l_29, ↓hp_a_30, ↓hp_s_30, ↓hp_l_30, ↓hp_a_31, ↓hp_s_31, ↓hp_l_31, ↓hp_a_32, ↓hp_s_32, ↓hp_l_32, ↓hp_a_33, ↓hp_s_33, ↓hp_l_33, ↓hp_a_34, ↓hp_s_34, ↓hp_l_34, ↓hp_a_35, ↓hp_s_35, ↓hp_l_35, ↓hp_a_36, ↓hp_s_36, ↓hp_l_36, ↓hp_a_37, ↓hp_s_37, ↓hp_l_37, ↓hp_a_38, ↓hp_s_38, ↓hp_l_38, ↓hp_a_39, ↓hp_s_39, ↓hp_a_40, ↓hp_s_40, ↓hp_a_41, ↓hp_s_41, ↓hp_l_41, ↓hp_a_42, ↓hp_s_42, ↓hp_l_42, ↓hp_a_43, ↓hp_s_43, ↓hp_l_43, ↓hp_a_44, ↓hp_s_44, ↓hp_l_44, ↓hp_a_45, ↓hp_s_45, ↓hp_l_45, ↓hp_a_46, ↓hp_s_46, ↓hp_l_46, ↓hp_a_47, ↓hp_s_47, ↓hp_l_47, ↓hp_a_48, ↓hp_s_48, ↓hp_l_48, ↓hp_a_49, ↓hp_s_49, ↓hp_l_49, ↓hp_a_50, ↓hp_s_50, ↓hp_l_50, hr, e_X12_in, m_refuse]
      obtain ⟨y, rfl⟩ : ∃ y : Nat, zs = y := ⟨zs.toNat, by omega⟩
      obtain ⟨v, rfl⟩ : ∃ v : Nat, os = v := ⟨os.toNat, by omega⟩
      rw [Int.toNat_natCast, Int.toNat_natCast] at g
      have e1 := sl31 y (by omega)
      have e2 := sl31 v (by omega)
      have e3 := p2_64 y (by omega)
      have e4 := p2_64 v (by omega)
      have e5 : (0 : Int) < 2 ^ y := Int.pow_pos (by decide)
      have e6 : (0 : Int) < 2 ^ v := Int.pow_pos (by decide)
      rw [ki_1, ki_31] at e1 e2
      generalize hP : (2 : Int) ^ y = P at *
      generalize hQ : (2 : Int) ^ v = Q at *
      by_cases t5 : z < 0
      · clear g; simp (disch := (first | assumption | (unfold i32; omega) | (unfold i64; omega) | omega)) only [↓reduceIte, ki_0, ki_1, ki_2, ki_3, ki_4, ki_5, ki_6, ki_7, ki_8, ki_9, ki_10, ki_11, ki_12, ki_13, ki_14, ki_15, ki_20, ki_21, ki_30, ki_31, ki_40, ki_41, ki_50, ki_51, ki_60, ki_63, ki_64, ki_65, ki_100, ki_158, ki_160, ki_200, ki_212, ki_1000, ki_2000, ki_2001, ki_5000, ki_10000, ki_10001, ki_100000, ki_200000, ki_1000000, ki_2000000, ki_3000000, iO_neg, iO_add, iO_sub, iO_mul, kn_4, kn_8, kn_10, kn_20, kn_24, kn_40, kn_41, kn_50, kn_60, kn_158, kn_160, kn_200, kn_212, kn_2001, tn_lt, fn_lt, tn_le, fn_le, tn_eq, fn_eq, x_lt, x_le, x_eq, x_ix, x_nat, t_lt, f_lt, t_le, f_le, t_eq, f_eq, eq_self, and_self, true_and, and_true, false_and, and_false, if_true, if_false, Int.toNat_natCast, bI_s, bL_s, bA_s, bA_n, bV_s, mq_s, mq_n, en_le, bl_0, bl_1, u_eq, u_ne, w_eq, w_ne, v_eq, v_ne, ↓hp_cc_26, ↓hp_g_26_0, ↓hp_p_26_0, ↓hp_g_26_1, ↓hp_p_26_1, ↓hp_g_26_2, ↓hp_p_26_2, ↓hp_g_26_3, ↓hp_g_26_4, ↓hp_g_26_5, ↓hp_g_26_6, ↓hp_g_26_7, ↓hp_g_26_8, ↓hp_g_26_9, ↓hp_g_26_10, ↓hp_g_26_11, ↓hp_g_26_12, ↓hp_g_26_13, ↓hp_g_26_14, ↓hp_g_26_15, ↓hp_p_26_15, ↓hp_g_26_16, ↓hp_g_26_17, ↓hp_g_26_18, ↓hp_p_26_18, ↓hp_g_26_19, ↓hp_p_26_19, ↓hp_g_26_20, ↓hp_g_26_21, ↓hp_p_26_21, ↓hp_g_26_22, ↓hp_g_26_23, ↓hp_g_26_24, ↓hp_g_26_25, ↓hp_g_26_26, ↓hp_g_26_27, ↓hp_g_26_28, ↓hp_g_26_29, ↓hp_g_26_30, ↓hp_p_26_30, ↓hp_g_26_31, ↓hp_g_26_32, ↓hp_p_26_32, ↓hp_a_27, ↓hp_s_27, ↓hp_l_27, ↓hp_a_28, ↓hp_s_28, ↓hp_l_28, ↓hp_a_29, ↓hp_s_29, ↓hp_l_29, ↓hp_a_30, ↓hp_s_30, ↓hp_l_30, ↓hp_a_31, ↓hp_s_31, ↓hp_l_31, ↓hp_a_32, ↓hp_s_32, ↓hp_l_32, ↓hp_a_33, ↓hp_s_33, ↓hp_l_33, ↓hp_a_34, ↓hp_s_34, ↓hp_l_34, ↓hp_a_35, ↓hp_s_35, ↓hp_l_35, ↓hp_a_36, ↓hp_s_36, ↓hp_l_36, ↓hp_a_37, ↓hp_s_37, ↓hp_l_37, ↓hp_a_38, ↓hp_s_38, ↓hp_l_38, ↓hp_a_39, ↓hp_s_39, ↓hp_a_40, ↓hp_s_40, ↓hp_a_41, ↓hp_s_41, ↓hp_l_41, ↓hp_a_42, ↓hp_s_42, ↓hp_l_42, ↓hp_a_43, ↓hp_s_43, ↓hp_l_43, ↓hp_a_44, ↓hp_s_44, ↓hp_l_44, ↓hp_a_45, ↓hp_s_45, ↓hp_l_45, ↓hp_a_46, ↓hp_s_46, ↓hp_l_46, ↓hp_a_47, ↓hp_s_47, ↓hp_l_47, ↓hp_a_48, ↓hp_s_48, ↓hp_l_48, ↓hp_a_49, ↓hp_s_49, ↓hp_l_49, ↓hp_a_50, ↓hp_s_50, ↓hp_l_50, hr, e_X12_in, e1, e2, m_refuse]
      by_cases t6 : P ≤ z
      · clear g; simp (disch := (first | assumption | (unfold i32; omega) | (unfold i64; omega) | omega)) only [↓reduceIte, ki_0, ki_1, ki_2, ki_3, ki_4, ki_5, ki_6, ki_7, ki_8, ki_9, ki_10, ki_11, ki_12, ki_13, ki_14, ki_15, ki_20, ki_21, ki_30, ki_31, ki_40, ki_41, ki_50, ki_51, ki_60, ki_63, ki_64, ki_65, ki_100, ki_158, ki_160, ki_200, ki_212, ki_1000, ki_2000, ki_2001, ki_5000, ki_10000, ki_10001, ki_100000, ki_200000, ki_1000000, ki_2000000, ki_3000000, iO_neg, iO_add, iO_sub, iO_mul, kn_4, kn_8, kn_10, kn_20, kn_24, kn_40, kn_41, kn_50, kn_60, kn_158, kn_160, kn_200, kn_212, kn_2001, tn_lt, fn_lt, tn_le, fn_le, tn_eq, fn_eq, x_lt, x_le, x_eq, x_ix, x_nat, t_lt, f_lt, t_le, f_le, t_eq, f_eq, eq_self, and_self, true_and, and_true, false_and, and_false, if_true, if_false, Int.toNat_natCast, bI_s, bL_s, bA_s, bA_n, bV_s, mq_s, mq_n, en_le, bl_0, bl_1, u_eq, u_ne, w_eq, w_ne, v_eq, v_ne, ↓hp_cc_26, ↓hp_g_26_0, ↓hp_p_26_0, ↓hp_g_26_1, ↓hp_p_26_1, ↓hp_g_26_2, ↓hp_p_26_2, ↓hp_g_26_3, ↓hp_g_26_4, ↓hp_g_26_5, ↓hp_g_26_6, ↓hp_g_26_7, ↓hp_g_26_8, ↓hp_g_26_9, ↓hp_g_26_10, ↓hp_g_26_11, ↓hp_g_26_12, ↓hp_g_26_13, ↓hp_g_26_14, ↓hp_g_26_15, ↓hp_p_26_15, ↓hp_g_26_16, ↓hp_g_26_17, ↓hp_g_26_18, ↓hp_p_26_18, ↓hp_g_26_19, ↓hp_p_26_19, ↓hp_g_26_20, ↓hp_g_26_21, ↓hp_p_26_21, ↓hp_g_26_22, ↓hp_g_26_23, ↓hp_g_26_24, ↓hp_g_26_25, ↓hp_g_26_26, ↓hp_g_26_27, ↓hp_g_26_28, ↓hp_g_26_29, ↓hp_g_26_30, ↓hp_p_26_30, ↓hp_g_26_31, ↓hp_g_26_32, ↓hp_p_26_32, ↓hp_a_27, ↓hp_s_27, ↓hp_l_27, ↓hp_a_28, ↓hp_s_28, ↓hp_l_28, ↓hp_a_29, ↓hp_s_29, ↓hp_l_29, ↓hp_a_30, ↓hp_s_30, ↓hp_l_30, ↓hp_a_31, ↓hp_s_31, ↓hp_l_31, ↓hp_a_32, ↓hp_s_32, ↓hp_l_32, ↓hp_a_33, ↓hp_s_33, ↓hp_l_33, ↓hp_a_34, ↓hp_s_34, ↓hp_l_34, ↓hp_a_35, ↓hp_s_35, ↓hp_l_35, ↓hp_a_36, ↓hp_s_36, ↓hp_l_36, ↓hp_a_37, ↓hp_s_37, ↓hp_l_37, ↓hp_a_38, ↓hp_s_38, ↓hp_l_38, ↓hp_a_39, ↓hp_s_39, ↓hp_a_40, ↓hp_s_40, ↓hp_a_41, ↓hp_s_41, ↓hp_l_41, ↓hp_a_42, ↓hp_s_42, ↓hp_l_42, ↓hp_a_43, ↓hp_s_43, ↓hp_l_43, ↓hp_a_44, ↓hp_s_44, ↓hp_l_44, ↓hp_a_45, ↓hp_s_45, ↓hp_l_45, ↓hp_a_46, ↓hp_s_46, ↓hp_l_46, ↓hp_a_47, ↓hp_s_47, ↓hp_l_47, ↓hp_a_48, ↓hp_s_48, ↓hp_l_48, ↓hp_a_49, ↓hp_s_49, ↓hp_l_49, ↓hp_a_50, ↓hp_s_50, ↓hp_l_50, hr, e_X12_in, e1, e2, m_refuse]
      by_cases t7 : o < 0
      · clear g; simp (disch := (first | assumption | (unfold i32; omega) | (unfold i64; omega) | omega)) only [↓reduceIte, ki_0, ki_1, ki_2, ki_3, ki_4, ki_5, ki_6, ki_7, ki_8, ki_9, ki_10, ki_11, ki_12, ki_13, ki_14, ki_15, ki_20, ki_21, ki_30, ki_31, ki_40, ki_41, ki_50, ki_51, ki_60, ki_63, ki_64, ki_65, ki_100, ki_158, ki_160, ki_200, ki_212, ki_1000, ki_2000, ki_2001, ki_5000, ki_10000, ki_10001, ki_100000, ki_200000, ki_1000000, ki_2000000, ki_3000000, iO_neg, iO_add, iO_sub, iO_mul, kn_4, kn_8, kn_10, kn_20, kn_24, kn_40, kn_41, kn_50, kn_60, kn_158, kn_160, kn_200, kn_212, kn_2001, tn_lt, fn_lt, tn_le, fn_le, tn_eq, fn_eq, x_lt, x_le, x_eq, x_ix, x_nat, t_lt, f_lt, t_le, f_le, t_eq, f_eq, eq_self, and_self, true_and, and_true, false_and, and_false, if_true, if_false, Int.toNat_natCast, bI_s, bL_s, bA_s, bA_n, bV_s, mq_s, mq_n, en_le, bl_0, bl_1, u_eq, u_ne, w_eq, w_ne, v_eq, v_ne, ↓hp_cc_26, ↓hp_g_26_0, ↓hp_p_26_0, ↓hp_g_26_1, ↓hp_p_26_1, ↓hp_g_26_2, ↓hp_p_26_2, ↓hp_g_26_3, ↓hp_g_26_4, ↓hp_g_26_5, ↓hp_g_26_6, ↓hp_g_26_7, ↓hp_g_26_8, ↓hp_g_26_9, ↓hp_g_26_10, ↓hp_g_26_11, ↓hp_g_26_12, ↓hp_g_26_13, ↓hp_g_26_14, ↓hp_g_26_15, ↓hp_p_26_15, ↓hp_g_26_16, ↓hp_g_26_17, ↓hp_g_26_18, ↓hp_p_26_18, ↓hp_g_26_19, ↓hp_p_26_19, ↓hp_g_26_20, ↓hp_g_26_21, ↓hp_p_26_21, ↓hp_g_26_22, ↓hp_g_26_23, ↓hp_g_26_24, ↓hp_g_26_25, ↓hp_g_26_26, ↓hp_g_26_27, ↓hp_g_26_28, ↓hp_g_26_29, ↓hp_g_26_30, ↓hp_p_26_30, ↓hp_g_26_31, ↓hp_g_26_32, ↓hp_p_26_32, ↓hp_a_27, ↓hp_s_27, ↓hp_l_27, ↓hp_a_28, ↓hp_s_28, ↓hp_l_28, ↓hp_a_29, ↓hp_s_29, ↓hp_l_29, ↓hp_a_30, ↓hp_s_30, ↓hp_l_30, ↓hp_a_31, ↓hp_s_31, ↓hp_l_31, ↓hp_a_32, ↓hp_s_32, ↓hp_l_32, ↓hp_a_33, ↓hp_s_33, ↓hp_l_33, ↓hp_a_34, ↓hp_s_34, ↓hp_l_34, ↓hp_a_35, ↓hp_s_35, ↓hp_l_35, ↓hp_a_36, ↓hp_s_36, ↓hp_l_36, ↓hp_a_37, ↓hp_s_37, ↓hp_l_37, ↓hp_a_38, ↓hp_s_38, ↓hp_l_38, ↓hp_a_39, ↓hp_s_39, ↓hp_a_40, ↓hp_s_40, ↓hp_a_41, ↓hp_s_41, ↓hp_l_41, ↓hp_a_42, ↓hp_s_42, ↓hp_l_42, ↓hp_a_43, ↓hp_s_43, ↓hp_l_43, ↓hp_a_44, ↓hp_s_44, ↓hp_l_44, ↓hp_a_45, ↓hp_s_45, ↓hp_l_45, ↓hp_a_46, ↓hp_s_46, ↓hp_l_46, ↓hp_a_47, ↓hp_s_47, ↓hp_l_47, ↓hp_a_48, ↓hp_s_48, ↓hp_l_48, ↓hp_a_49, ↓hp_s_49, ↓hp_l_49, ↓hp_a_50, ↓hp_s_50, ↓hp_l_50, hr, e_X12_in, e1, e2, m_refuse]
      · have t8 : Q ≤ o := by omega
        clear g; simp (disch := (first | assumption | (unfold i32; omega) | (unfold i64; omega) | omega)) only [↓reduceIte, ki_0, ki_1, ki_2, ki_3, ki_4, ki_5, ki_6, ki_7, ki_8, ki_9, ki_10, ki_11, ki_12, ki_13, ki_14, ki_15, ki_20, ki_21, ki_30, ki_31, ki_40, ki_41, ki_50, ki_51, ki_60, ki_63, ki_64, ki_65, ki_100, ki_158, ki_160, ki_200, ki_212, ki_1000, ki_2000, ki_2001, ki_5000, ki_10000, ki_10001, ki_100000, ki_200000, ki_1000000, ki_2000000, ki_3000000, iO_neg, iO_add, iO_sub, iO_mul, kn_4, kn_8, kn_10, kn_20, kn_24, kn_40, kn_41, kn_50, kn_60, kn_158, kn_160, kn_200, kn_212, kn_2001, tn_lt, fn_lt, tn_le, fn_le, tn_eq, fn_eq, x_lt, x_le, x_eq, x_ix, x_nat, t_lt, f_lt, t_le, f_le, t_eq, f_eq, eq_self, and_self, true_and, and_true, false_and, and_false, if_true, if_false, Int.toNat_natCast, bI_s, bL_s, bA_s, bA_n, bV_s, mq_s, mq_n, en_le, bl_0, bl_1, u_eq, u_ne, w_eq, w_ne, v_eq, v_ne, ↓hp_cc_26, ↓hp_g_26_0, ↓hp_p_26_0, ↓hp_g_26_1, ↓hp_p_26_1, ↓hp_g_26_2, ↓hp_p_26_2, ↓hp_g_26_3, ↓hp_g_26_4, ↓hp_g_26_5, ↓hp_g_26_6, ↓hp_g_26_7, ↓hp_g_26_8, ↓hp_g_26_9, ↓hp_g_26_10, ↓hp_g_26_11, ↓hp_g_26_12, ↓hp_g_26_13, ↓hp_g_26_14, ↓hp_g_26_15, ↓hp_p_26_15, ↓hp_g_26_16, ↓hp_g_26_17, ↓hp_g_26_18, ↓hp_p_26_18, ↓hp_g_26_19, ↓hp_p_26_19, ↓hp_g_26_20, ↓hp_g_26_21, ↓hp_p_26_21, ↓hp_g_26_22, ↓hp_g_26_23, ↓hp_g_26_24, ↓hp_g_26_25, ↓hp_g_26_26, ↓hp_g_26_27, ↓hp_g_26_28, ↓hp_g_26_29, ↓hp_g_26_30, ↓hp_p_26_30, ↓hp_g_26_31, ↓hp_g_26_32, ↓hp_p_26_32, ↓hp_a_27, ↓hp_s_27, ↓hp_l_27, ↓hp_a_28, ↓hp_s_28, ↓hp_l_28, ↓hp_a_29, ↓hp_s_29, ↓hp_l_29, ↓hp_a_30, ↓hp_s_30, ↓hp_l_30, ↓hp_a_31, ↓hp_s_31, ↓hp_l_31, ↓hp_a_32, ↓hp_s_32, ↓hp_l_32, ↓hp_a_33, ↓hp_s_33, ↓hp_l_33, ↓hp_a_34, ↓hp_s_34, ↓hp_l_34, ↓hp_a_35, ↓hp_s_35, ↓hp_l_35, ↓hp_a_36, ↓hp_s_36, ↓hp_l_36, ↓hp_a_37, ↓hp_s_37, ↓hp_l_37, ↓hp_a_38, ↓hp_s_38, ↓hp_l_38, ↓hp_a_39, ↓hp_s_39, ↓hp_a_40, ↓hp_s_40, ↓hp_a_41, ↓hp_s_41, ↓hp_l_41, ↓hp_a_42, ↓hp_s_42, ↓hp_l_42, ↓hp_a_43, ↓hp_s_43, ↓hp_l_43, ↓hp_a_44, ↓hp_s_44, ↓hp_l_44, ↓hp_a_45, ↓hp_s_45, ↓hp_l_45, ↓hp_a_46, ↓hp_s_46, ↓hp_l_46, ↓hp_a_47, ↓hp_s_47, ↓hp_l_47, ↓hp_a_48, ↓hp_s_48, ↓hp_l_48, ↓hp_a_49, ↓hp_s_49, ↓hp_l_49, ↓hp_a_50, ↓hp_s_50, ↓hp_l_50, hr, e_X12_in, e1, e2, m_refuse]
theorem x_isBits {b l : Int} (hb : i32 b) (hl : i32 l) {z : en_H} : f_X11_isBits sc (n + 1) (iO b) (iO l) z = some (some (.int (iO (if 1 ≤ l ∧ l ≤ 6 ∧ 0 ≤ b ∧ b < 2 ^ l.toNat then 1 else 0))), z) := by
  obtain ⟨b1, b2⟩ := id hb
  obtain ⟨l1, l2⟩ := id hl
  rw [e_X11_isBits]
  by_cases t1 : l < 1
  · rw [if_neg (show ¬ (1 ≤ l ∧ l ≤ 6 ∧ 0 ≤ b ∧ b < 2 ^ l.toNat) from fun h => by omega)]
    simp (disch := (first | assumption | (unfold i32; omega) | (unfold i64; omega) | omega)) only [↓reduceIte, ki_0, ki_1, ki_2, ki_3, ki_4, ki_5, ki_6, ki_7, ki_8, ki_9, ki_10, ki_11, ki_12, ki_13, ki_14, ki_15, ki_20, ki_21, ki_30, ki_31, ki_40, ki_41, ki_50, ki_51, ki_60, ki_63, ki_64, ki_65, ki_100, ki_158, ki_160, ki_200, ki_212, ki_1000, ki_2000, ki_2001, ki_5000, ki_10000, ki_10001, ki_100000, ki_200000, ki_1000000, ki_2000000, ki_3000000, iO_neg, iO_add, iO_sub, iO_mul, kn_4, kn_8, kn_10, kn_20, kn_24, kn_40, kn_41, kn_50, kn_60, kn_158, kn_160, kn_200, kn_212, kn_2001, tn_lt, fn_lt, tn_le, fn_le, tn_eq, fn_eq, x_lt, x_le, x_eq, x_ix, x_nat, t_lt, f_lt, t_le, f_le, t_eq, f_eq, eq_self, and_self, true_and, and_true, false_and, and_false, if_true, if_false, Int.toNat_natCast, bI_s, bL_s, bA_s, bA_n, bV_s, mq_s, mq_n, en_le, bl_0, bl_1, u_eq, u_ne, w_eq, w_ne, v_eq, v_ne]
  by_cases t2 : 6 < l
  · rw [if_neg (show ¬ (1 ≤ l ∧ l ≤ 6 ∧ 0 ≤ b ∧ b < 2 ^ l.toNat) from fun h => by omega)]
    simp (disch := (first | assumption | (unfold i32; omega) | (unfold i64; omega) | omega)) only [↓reduceIte, ki_0, ki_1, ki_2, ki_3, ki_4, ki_5, ki_6, ki_7, ki_8, ki_9, ki_10, ki_11, ki_12, ki_13, ki_14, ki_15, ki_20, ki_21, ki_30, ki_31, ki_40, ki_41, ki_50, ki_51, ki_60, ki_63, ki_64, ki_65, ki_100, ki_158, ki_160, ki_200, ki_212, ki_1000, ki_2000, ki_2001, ki_5000, ki_10000, ki_10001, ki_100000, ki_200000, ki_1000000, ki_2000000, ki_3000000, iO_neg, iO_add, iO_sub, iO_mul, kn_4, kn_8, kn_10, kn_20, kn_24, kn_40, kn_41, kn_50, kn_60, kn_158, kn_160, kn_200, kn_212, kn_2001, tn_lt, fn_lt, tn_le, fn_le, tn_eq, fn_eq, x_lt, x_le, x_eq, x_ix, x_nat, t_lt, f_lt, t_le, f_le, t_eq, f_eq, eq_self, and_self, true_and, and_true, false_and, and_false, if_true, if_false, Int.toNat_natCast, bI_s, bL_s, bA_s, bA_n, bV_s, mq_s, mq_n, en_le, bl_0, bl_1, u_eq, u_ne, w_eq, w_ne, v_eq, v_ne]
  by_cases t3 : b < 0
  · rw [if_neg (show ¬ (1 ≤ l ∧ l ≤ 6 ∧ 0 ≤ b ∧ b < 2 ^ l.toNat) from fun h => by omega)]
    simp (disch := (first | assumption | (unfold i32; omega) | (unfold i64; omega) | omega)) only [↓reduceIte, ki_0, ki_1, ki_2, ki_3, ki_4, ki_5, ki_6, ki_7, ki_8, ki_9, ki_10, ki_11, ki_12, ki_13, ki_14, ki_15, ki_20, ki_21, ki_30, ki_31, ki_40, ki_41, ki_50, ki_51, ki_60, ki_63, ki_64, ki_65, ki_100, ki_158, ki_160, ki_200, ki_212, ki_1000, ki_2000, ki_2001, ki_5000, ki_10000, ki_10001, ki_100000, ki_200000, ki_1000000, ki_2000000, ki_3000000, iO_neg, iO_add, iO_sub, iO_mul, kn_4, kn_8, kn_10, kn_20, kn_24, kn_40, kn_41, kn_50, kn_60, kn_158, kn_160, kn_200, kn_212, kn_2001, tn_lt, fn_lt, tn_le, fn_le, tn_eq, fn_eq, x_lt, x_le, x_eq, x_ix, x_nat, t_lt, f_lt, t_le, f_le, t_eq, f_eq, eq_self, and_self, true_and, and_true, false_and, and_false, if_true, if_false, Int.toNat_natCast, bI_s, bL_s, bA_s, bA_n, bV_s, mq_s, mq_n, en_le, bl_0, bl_1, u_eq, u_ne, w_eq, w_ne, v_eq, v_ne]
  obtain ⟨y, rfl⟩ : ∃ y : Nat, l = y := ⟨l.toNat, by omega⟩
  rw [Int.toNat_natCast]
  have e1 := sl31 y (by omega)
  have e3 := p2_64 y (by omega)
  have e5 : (0 : Int) < 2 ^ y := Int.pow_pos (by decide)
  rw [ki_1, ki_31] at e1
  generalize hP : (2 : Int) ^ y = P at *
  by_cases t4 : b < P
  · rw [if_pos (show (1 ≤ (y : Int) ∧ (y : Int) ≤ 6 ∧ 0 ≤ b ∧ b < P) by omega)]
    simp (disch := (first | assumption | (unfold i32; omega) | (unfold i64; omega) | omega)) only [↓reduceIte, ki_0, ki_1, ki_2, ki_3, ki_4, ki_5, ki_6, ki_7, ki_8, ki_9, ki_10, ki_11, ki_12, ki_13, ki_14, ki_15, ki_20, ki_21, ki_30, ki_31, ki_40, ki_41, ki_50, ki_51, ki_60, ki_63, ki_64, ki_65, ki_100, ki_158, ki_160, ki_200, ki_212, ki_1000, ki_2000, ki_2001, ki_5000, ki_10000, ki_10001, ki_100000, ki_200000, ki_1000000, ki_2000000, ki_3000000, iO_neg, iO_add, iO_sub, iO_mul, kn_4, kn_8, kn_10, kn_20, kn_24, kn_40, kn_41, kn_50, kn_60, kn_158, kn_160, kn_200, kn_212, kn_2001, tn_lt, fn_lt, tn_le, fn_le, tn_eq, fn_eq, x_lt, x_le, x_eq, x_ix, x_nat, t_lt, f_lt, t_le, f_le, t_eq, f_eq, eq_self, and_self, true_and, and_true, false_and, and_false, if_true, if_false, Int.toNat_natCast, bI_s, bL_s, bA_s, bA_n, bV_s, mq_s, mq_n, en_le, bl_0, bl_1, u_eq, u_ne, w_eq, w_ne, v_eq, v_ne, e1]
  · rw [if_neg (show ¬ (1 ≤ (y : Int) ∧ (y : Int) ≤ 6 ∧ 0 ≤ b ∧ b < P) from fun h => by omega)]
    simp (disch := (first | assumption | (unfold i32; omega) | (unfold i64; omega) | omega)) only [↓reduceIte, ki_0, ki_1, ki_2, ki_3, ki_4, ki_5, ki_6, ki_7, ki_8, ki_9, ki_10, ki_11, ki_12, ki_13, ki_14, ki_15, ki_20, ki_21, ki_30, ki_31, ki_40, ki_41, ki_50, ki_51, ki_60, ki_63, ki_64, ki_65, ki_100, ki_158, ki_160, ki_200, ki_212, ki_1000, ki_2000, ki_2001, ki_5000, ki_10000, ki_10001, ki_100000, ki_200000, ki_1000000, ki_2000000, ki_3000000, iO_neg, iO_add, iO_sub, iO_mul, kn_4, kn_8, kn_10, kn_20, kn_24, kn_40, kn_41, kn_50, kn_60, kn_158, kn_160, kn_200, kn_212, kn_2001, tn_lt, fn_lt, tn_le, fn_le, tn_eq, fn_eq, x_lt, x_le, x_eq, x_ix, x_nat, t_lt, f_lt, t_le, f_le, t_eq, f_eq, eq_self, and_self, true_and, and_true, false_and, and_false, if_true, if_false, Int.toNat_natCast, bI_s, bL_s, bA_s, bA_n, bV_s, mq_s, mq_n, en_le, bl_0, bl_1, u_eq, u_ne, w_eq, w_ne, v_eq, v_ne, e1]
theorem cs_cut (hS : OK5 S) {r z zs o os : Int} (h1 : i32 r) (h2 : i32 z) (h3 : i32 zs) (h4 : i32 o) (h5 : i32 os) : CS S (p_cut S r z zs o os).2 (p_cut S r z zs o os).1 (fun w => f_X11_cut sc (n + 40) 1 (iO r) (iO z) (iO zs) (iO o) (iO os) w) := by
  have h10 := hS.2.1
  unfold p_cut
  cases hq : rowq S r with
  | none =>
    apply cs_ref
    intro XI XA XP XC MI MA ML D Γ hV
    show f_X11_cut sc (n + 40) 1 (iO r) (iO z) (iO zs) (iO o) (iO os) _ = _
    rw [e_X11_cut]
    simp (disch := (first | assumption | (unfold i32; omega) | (unfold i64; omega) | omega)) only [↓reduceIte, ki_0, ki_1, ki_2, ki_3, ki_4, ki_5, ki_6, ki_7, ki_8, ki_9, ki_10, ki_11, ki_12, ki_13, ki_14, ki_15, ki_20, ki_21, ki_30, ki_31, ki_40, ki_41, ki_50, ki_51, ki_60, ki_63, ki_64, ki_65, ki_100, ki_158, ki_160, ki_200, ki_212, ki_1000, ki_2000, ki_2001, ki_5000, ki_10000, ki_10001, ki_100000, ki_200000, ki_1000000, ki_2000000, ki_3000000, iO_neg, iO_add, iO_sub, iO_mul, kn_4, kn_8, kn_10, kn_20, kn_24, kn_40, kn_41, kn_50, kn_60, kn_158, kn_160, kn_200, kn_212, kn_2001, tn_lt, fn_lt, tn_le, fn_le, tn_eq, fn_eq, x_lt, x_le, x_eq, x_ix, x_nat, t_lt, f_lt, t_le, f_le, t_eq, f_eq, eq_self, and_self, true_and, and_true, false_and, and_false, if_true, if_false, Int.toNat_natCast, bI_s, bL_s, bA_s, bA_n, bV_s, mq_s, mq_n, en_le, bl_0, bl_1, u_eq, u_ne, w_eq, w_ne, v_eq, v_ne, ↓hp_cc_1, ↓hp_g_1_0, ↓hp_g_1_1, ↓hp_g_1_2, ↓hp_g_1_3, ↓hp_g_1_4, ↓hp_g_1_5, ↓hp_g_1_6, ↓hp_g_1_7, ↓hp_g_1_8, ↓hp_p_1_8, ↓hp_g_1_9, ↓hp_p_1_9, ↓hp_g_1_10, ↓hp_p_1_10, ↓hp_a_2, ↓hp_n_2, ↓hp_a_3, ↓hp_n_3, ↓hp_a_4, x_rowAt0 hV hS h1 hq, x_refuse]
  | some q =>
    obtain ⟨k, rfl, hk, hq2⟩ := rowq_some hq
    have hR := hS.2.2.2.1 q (List.mem_of_getElem? hq2)
    have hsz : q.2.2.1 ≤ 10001 := hR.2.2.2.2.1
    have hva := hR.2.2.2.2.2.1
    have bz := fun w => x_isBits (sc := sc) (n := n + 38) (z := w) h2 h3
    have bo := fun w => x_isBits (sc := sc) (n := n + 38) (z := w) h4 h5
    dsimp only
    by_cases g : 1 ≤ zs ∧ zs ≤ 6 ∧ 1 ≤ os ∧ os ≤ 6 ∧ 0 ≤ z ∧ z < 2 ^ zs.toNat ∧ 0 ≤ o ∧ o < 2 ^ os.toNat
    · rw [if_pos g]
      obtain ⟨g1, g2, g3, g4, g5, g6, g7, g8⟩ := g
      rw [if_pos ⟨g1, g2, g5, g6⟩] at bz
      rw [if_pos ⟨g3, g4, g7, g8⟩] at bo
      by_cases gl : 10 ≤ S.2.1.length
      · rw [if_pos gl]
        apply cs_ref
        intro XI XA XP XC MI MA ML D Γ hV
        have w2 := hV.2.1
        obtain ⟨pq, gq, c1, -⟩ := hV.2.2.2.2.2.1 k q hq2
        have hrow := x_rowAt1 (sc := sc) (n := n + 38) (XC := XC) (MI := MI) (MA := MA) (ML := ML) hV hS hq2 c1
        show f_X11_cut sc (n + 40) 1 (iO (k : Int)) (iO z) (iO zs) (iO o) (iO os) _ = _
        rw [e_X11_cut]
        clear hV hva g6 g8
        simp (disch := (first | assumption | (unfold i32; omega) | (unfold i64; omega) | omega)) only [↓reduceIte, ki_0, ki_1, ki_2, ki_3, ki_4, ki_5, ki_6, ki_7, ki_8, ki_9, ki_10, ki_11, ki_12, ki_13, ki_14, ki_15, ki_20, ki_21, ki_30, ki_31, ki_40, ki_41, ki_50, ki_51, ki_60, ki_63, ki_64, ki_65, ki_100, ki_158, ki_160, ki_200, ki_212, ki_1000, ki_2000, ki_2001, ki_5000, ki_10000, ki_10001, ki_100000, ki_200000, ki_1000000, ki_2000000, ki_3000000, iO_neg, iO_add, iO_sub, iO_mul, kn_4, kn_8, kn_10, kn_20, kn_24, kn_40, kn_41, kn_50, kn_60, kn_158, kn_160, kn_200, kn_212, kn_2001, tn_lt, fn_lt, tn_le, fn_le, tn_eq, fn_eq, x_lt, x_le, x_eq, x_ix, x_nat, t_lt, f_lt, t_le, f_le, t_eq, f_eq, eq_self, and_self, true_and, and_true, false_and, and_false, if_true, if_false, Int.toNat_natCast, bI_s, bL_s, bA_s, bA_n, bV_s, mq_s, mq_n, en_le, bl_0, bl_1, u_eq, u_ne, w_eq, w_ne, v_eq, v_ne, ↓hp_cc_1, ↓hp_g_1_0, ↓hp_g_1_1, ↓hp_g_1_2, ↓hp_g_1_3, ↓hp_g_1_4, ↓hp_g_1_5, ↓hp_g_1_6, ↓hp_g_1_7, ↓hp_g_1_8, ↓hp_p_1_8, ↓hp_g_1_9, ↓hp_p_1_9, ↓hp_g_1_10, ↓hp_p_1_10, ↓hp_a_2, ↓hp_n_2, ↓hp_a_3, ↓hp_n_3, ↓hp_a_4, hrow, bz, bo, w2, x_refuse]
      · rw [if_neg gl]
        obtain ⟨y, rfl⟩ : ∃ y : Nat, zs = y := ⟨zs.toNat, by omega⟩
        obtain ⟨v, rfl⟩ : ∃ v : Nat, os = v := ⟨os.toNat, by omega⟩
        rw [Int.toNat_natCast] at g6
        rw [Int.toNat_natCast] at g8
        rw [Int.toNat_natCast, Int.toNat_natCast]
        have e3 := p2_64 y (by omega)
        have e4 := p2_64 v (by omega)
        have g6 : z < 64 := by omega
        have g8 : o < 64 := by omega
        intro XI XA XP XC MI MA ML D Γ hV
        have w2 := hV.2.1
        have hH := hV.2.2.2.2.2.2.2.2
        obtain ⟨pq, gq, c1, c2, c3, c4, c5, c6, c7, c8, c9⟩ := hV.2.2.2.2.2.1 k q hq2
        have hrow := x_rowAt1 (sc := sc) (n := n + 38) (XC := XC) (MI := MI) (MA := MA) (ML := ML) hV hS hq2 c1
        have hΓ : Γ D.length = none := by
          cases hc : Γ D.length with
          | none => rfl
          | some y =>
            obtain ⟨-, fs, y2⟩ := rc_cls (hH D.length y hc).2.2.2
            have := nt_lt y2
            omega
        have hne : pq ≠ D.length := fun e => by rw [e, hΓ] at c2; cases c2
        have hfa : FA D (D ++ [.inr (1, CCf S.2.1.length 0 pq z y o v D.length 0 0 0), .inl (1, 158, .inr (.inl (fun _ => 0)))]) := FA.app D _
        have hnew : HV (va_up Γ D.length (some (3, S.2.1.length, 0, -1, cutN q.2.2.1 q.2.2.2 z y o v, cutF q.2.2.1 q.2.2.2 z y o v, (0, 0, 0, 0)))) (D ++ [.inr (1, CCf S.2.1.length 0 pq z y o v D.length 0 0 0), .inl (1, 158, .inr (.inl (fun _ => 0)))]) := by
          refine HV_new hH hfa hΓ (by show S.2.1.length ≤ 9; omega) (Nat.min_le_right _ _) (fun i _ => cutF_bd i) ?_
          refine Or.inr (Or.inr ⟨rfl, pq, gq, 0, 0, 0, fun _ => 0, z, y, o, v, ?_, ?_, a2n0 D _ _, a2n1 D _ _, by omega, by omega, by omega, by omega, g5, g6, g7, g8, ?_, 0, Or.inl ⟨rfl, rfl⟩, fun i hi => by omega, rfl, by omega, ?_⟩)
          · rw [w_ne hne]; exact c2
          · show gq.2.1 < S.2.1.length
            rw [c4]; exact hk
          · rw [c7, c8]
            exact cut_of (fun i hi => (hva i hi).1) (by omega) (by omega)
          · intro j hj
            show (0#64).getLsbD (j % 64) = false
            simp
        obtain ⟨XI', XP', D', Γ', k1, k2, k3, k4⟩ := x_keep (sc := sc) (n := n + 1) (XC := XC) (MI := MI) (MA := MA) (ML := ML) hV hS (by omega) hfa hnew (fun x y h => by rw [w_ne (fun e => by rw [e, hΓ] at h; cases h)]; exact h) hΓ (w_eq rfl) rfl (fun h => by rcases h with h | h <;> exact absurd (show (3 : Int) = _ from h) (by decide))
        refine ⟨XI', XA, XP', XC, D', Γ', ?_, k2, gr_app k3 k4 (by simp) (by simp [en_sz, en_s0])⟩
        show f_X11_cut sc (n + 40) 1 (iO (k : Int)) (iO z) (iO (y : Int)) (iO o) (iO (v : Int)) _ = _
        have hinit : f_X1_init sc (n + 39) (D.length + 51) (iO (S.2.1.length : Nat)) (pq + 51) (iO z) (iO (y : Int)) (iO o) (iO (v : Int)) (hp XI XA XP XC MI MA ML (D ++ [.inr (1, en_df 1)])) = some (none, hp XI XA XP XC MI MA ML (D ++ [.inr (1, CCf S.2.1.length 0 pq z y o v D.length 0 0 0), .inl (1, 158, .inr (.inl (fun _ => 0)))])) := by
          rw [e_X1_init, d_vt (a1n0 D _)]
          show en_bV (f_X5_init sc (n + 38) (D.length + 51) (iO (S.2.1.length : Nat)) (hp XI XA XP XC MI MA ML (D ++ [.inr (1, en_df 1)]))) _ = _
          rw [e_X5_init, d_pf (a1n0 D _) (x := 0) rfl rfl, a1s0, bV_s, hp_nw]
          have e7 : ∀ (a b : va_E), ((D ++ [a]) ++ [b] : en_H) = D ++ [a, b] := fun a b => by simp
          have e8 : ∀ (a : va_E), (D ++ [a]).length + 51 = D.length + 52 := fun a => by simp
          rw [e7, e8, d_pf (a2n0 D _ _) (x := 0) rfl rfl, a2s0, d_pf (a2n0 D _ _) (x := 0) rfl rfl, a2s0, d_pf (a2n0 D _ _) (x := 0) rfl rfl, a2s0, d_pf (a2n0 D _ _) (x := 0) rfl rfl, a2s0, d_pf (a2n0 D _ _) (x := 0) rfl rfl, a2s0, d_pf (a2n0 D _ _) (x := 0) rfl rfl, a2s0]
          rfl
        have hcc : ∀ (g : Nat → Option en_R), en_cc (hp XI XA XP XC MI MA ML (D ++ [.inr (1, en_df 1)])) (D.length + 51) g = g 1 := fun g => d_cc (a1n0 D _) g
        rw [e_X11_cut]
        clear k2 k3 k4 hnew hfa hΓ hV hH hva
        simp (disch := (first | assumption | (unfold i32; omega) | (unfold i64; omega) | omega)) only [↓reduceIte, ki_0, ki_1, ki_2, ki_3, ki_4, ki_5, ki_6, ki_7, ki_8, ki_9, ki_10, ki_11, ki_12, ki_13, ki_14, ki_15, ki_20, ki_21, ki_30, ki_31, ki_40, ki_41, ki_50, ki_51, ki_60, ki_63, ki_64, ki_65, ki_100, ki_158, ki_160, ki_200, ki_212, ki_1000, ki_2000, ki_2001, ki_5000, ki_10000, ki_10001, ki_100000, ki_200000, ki_1000000, ki_2000000, ki_3000000, iO_neg, iO_add, iO_sub, iO_mul, kn_4, kn_8, kn_10, kn_20, kn_24, kn_40, kn_41, kn_50, kn_60, kn_158, kn_160, kn_200, kn_212, kn_2001, tn_lt, fn_lt, tn_le, fn_le, tn_eq, fn_eq, x_lt, x_le, x_eq, x_ix, x_nat, t_lt, f_lt, t_le, f_le, t_eq, f_eq, eq_self, and_self, true_and, and_true, false_and, and_false, if_true, if_false, Int.toNat_natCast, bI_s, bL_s, bA_s, bA_n, bV_s, mq_s, mq_n, en_le, bl_0, bl_1, u_eq, u_ne, w_eq, w_ne, v_eq, v_ne, ↓hp_cc_1, ↓hp_g_1_0, ↓hp_g_1_1, ↓hp_g_1_2, ↓hp_g_1_3, ↓hp_g_1_4, ↓hp_g_1_5, ↓hp_g_1_6, ↓hp_g_1_7, ↓hp_g_1_8, ↓hp_p_1_8, ↓hp_g_1_9, ↓hp_p_1_9, ↓hp_g_1_10, ↓hp_p_1_10, ↓hp_a_2, ↓hp_n_2, ↓hp_a_3, ↓hp_n_3, ↓hp_a_4, hrow, bz, bo, w2, hp_nw, hcc, hinit, k1]
    · rw [if_neg g]
      apply cs_ref
      intro XI XA XP XC MI MA ML D Γ hV
      obtain ⟨pq, gq, c1, -⟩ := hV.2.2.2.2.2.1 k q hq2
      have hrow := x_rowAt1 (sc := sc) (n := n + 38) (XC := XC) (MI := MI) (MA := MA) (ML := ML) hV hS hq2 c1
      show f_X11_cut sc (n + 40) 1 (iO (k : Int)) (iO z) (iO zs) (iO o) (iO os) _ = _
      rw [e_X11_cut]
      clear hV hva
      by_cases t1 : 1 ≤ zs ∧ zs ≤ 6 ∧ 0 ≤ z ∧ z < 2 ^ zs.toNat
      · have t2 : ¬ (1 ≤ os ∧ os ≤ 6 ∧ 0 ≤ o ∧ o < 2 ^ os.toNat) := fun h => g ⟨t1.1, t1.2.1, h.1, h.2.1, t1.2.2.1, t1.2.2.2, h.2.2.1, h.2.2.2⟩
        rw [if_pos t1] at bz
        rw [if_neg t2] at bo
        clear g t1 t2
        simp (disch := (first | assumption | (unfold i32; omega) | (unfold i64; omega) | omega)) only [↓reduceIte, ki_0, ki_1, ki_2, ki_3, ki_4, ki_5, ki_6, ki_7, ki_8, ki_9, ki_10, ki_11, ki_12, ki_13, ki_14, ki_15, ki_20, ki_21, ki_30, ki_31, ki_40, ki_41, ki_50, ki_51, ki_60, ki_63, ki_64, ki_65, ki_100, ki_158, ki_160, ki_200, ki_212, ki_1000, ki_2000, ki_2001, ki_5000, ki_10000, ki_10001, ki_100000, ki_200000, ki_1000000, ki_2000000, ki_3000000, iO_neg, iO_add, iO_sub, iO_mul, kn_4, kn_8, kn_10, kn_20, kn_24, kn_40, kn_41, kn_50, kn_60, kn_158, kn_160, kn_200, kn_212, kn_2001, tn_lt, fn_lt, tn_le, fn_le, tn_eq, fn_eq, x_lt, x_le, x_eq, x_ix, x_nat, t_lt, f_lt, t_le, f_le, t_eq, f_eq, eq_self, and_self, true_and, and_true, false_and, and_false, if_true, if_false, Int.toNat_natCast, bI_s, bL_s, bA_s, bA_n, bV_s, mq_s, mq_n, en_le, bl_0, bl_1, u_eq, u_ne, w_eq, w_ne, v_eq, v_ne, ↓hp_cc_1, ↓hp_g_1_0, ↓hp_g_1_1, ↓hp_g_1_2, ↓hp_g_1_3, ↓hp_g_1_4, ↓hp_g_1_5, ↓hp_g_1_6, ↓hp_g_1_7, ↓hp_g_1_8, ↓hp_p_1_8, ↓hp_g_1_9, ↓hp_p_1_9, ↓hp_g_1_10, ↓hp_p_1_10, ↓hp_a_2, ↓hp_n_2, ↓hp_a_3, ↓hp_n_3, ↓hp_a_4, hrow, bz, bo, x_refuse]
      · rw [if_neg t1] at bz
        clear g t1
        simp (disch := (first | assumption | (unfold i32; omega) | (unfold i64; omega) | omega)) only [↓reduceIte, ki_0, ki_1, ki_2, ki_3, ki_4, ki_5, ki_6, ki_7, ki_8, ki_9, ki_10, ki_11, ki_12, ki_13, ki_14, ki_15, ki_20, ki_21, ki_30, ki_31, ki_40, ki_41, ki_50, ki_51, ki_60, ki_63, ki_64, ki_65, ki_100, ki_158, ki_160, ki_200, ki_212, ki_1000, ki_2000, ki_2001, ki_5000, ki_10000, ki_10001, ki_100000, ki_200000, ki_1000000, ki_2000000, ki_3000000, iO_neg, iO_add, iO_sub, iO_mul, kn_4, kn_8, kn_10, kn_20, kn_24, kn_40, kn_41, kn_50, kn_60, kn_158, kn_160, kn_200, kn_212, kn_2001, tn_lt, fn_lt, tn_le, fn_le, tn_eq, fn_eq, x_lt, x_le, x_eq, x_ix, x_nat, t_lt, f_lt, t_le, f_le, t_eq, f_eq, eq_self, and_self, true_and, and_true, false_and, and_false, if_true, if_false, Int.toNat_natCast, bI_s, bL_s, bA_s, bA_n, bV_s, mq_s, mq_n, en_le, bl_0, bl_1, u_eq, u_ne, w_eq, w_ne, v_eq, v_ne, ↓hp_cc_1, ↓hp_g_1_0, ↓hp_g_1_1, ↓hp_g_1_2, ↓hp_g_1_3, ↓hp_g_1_4, ↓hp_g_1_5, ↓hp_g_1_6, ↓hp_g_1_7, ↓hp_g_1_8, ↓hp_p_1_8, ↓hp_g_1_9, ↓hp_p_1_9, ↓hp_g_1_10, ↓hp_p_1_10, ↓hp_a_2, ↓hp_n_2, ↓hp_a_3, ↓hp_n_3, ↓hp_a_4, hrow, bz, x_refuse]
end CTB
