-- FILE 98b
/-! parts: the class -/
/-- the places at which something new begins -/
def nls (f : Nat → Int) (L : Nat) : Nat → List Nat
  | 0 => []
  | a + 1 => if nwa f L a = true then nls f L a ++ [a] else nls f L a
theorem nls_len {f : Nat → Int} {L : Nat} : ∀ a, (nls f L a).length = tb (nwa f L) a
  | 0 => rfl
  | a + 1 => by
    rw [nls]
    show _ = tb (nwa f L) a + (nwa f L a).toNat
    cases h : nwa f L a with
    | false => rw [if_neg Bool.false_ne_true, nls_len a]; rfl
    | true => rw [if_pos rfl, List.length_append, nls_len a]; rfl
theorem nls_mem {f : Nat → Int} {L : Nat} {s : Nat} : ∀ a, s ∈ nls f L a ↔ s < a ∧ nwa f L s = true
  | 0 => by simp [nls]
  | a + 1 => by
    rw [nls]
    cases h : nwa f L a with
    | false =>
      rw [if_neg Bool.false_ne_true, nls_mem a]
      constructor
      · intro q; exact ⟨by omega, q.2⟩
      · intro q
        refine ⟨?_, q.2⟩
        rcases Nat.lt_or_ge s a with g | g
        · exact g
        · have : s = a := by omega
          rw [this, h] at q
          cases q.2
    | true =>
      rw [if_pos rfl, List.mem_append, nls_mem a, List.mem_singleton]
      constructor
      · intro q
        rcases q with q | q
        · exact ⟨by omega, q.2⟩
        · subst q; exact ⟨by omega, h⟩
      · intro q
        by_cases e : s = a
        · exact Or.inr e
        · exact Or.inl ⟨by omega, q.2⟩
theorem nwa_first {f : Nat → Int} {L : Nat} : ∀ (n b : Nat), b < n → ∃ c, c ≤ b ∧ alk f L b c = true ∧ nwa f L c = true
  | 0, b, h => by omega
  | n + 1, b, h => by
    cases hn : nwa f L b with
    | true => exact ⟨b, Nat.le_refl _, alk_iff.mpr (fun _ _ => rfl), hn⟩
    | false =>
      have hno : ¬ ∀ i, i < b → alk f L b i = false := fun q => by
        have : nwa f L b = true := (nwb_iff b).mpr q
        rw [hn] at this
        cases this
      have hex : ∃ i, i < b ∧ alk f L b i = true := Classical.byContradiction (fun q => hno (fun i hi => by
        cases e : alk f L b i with
        | false => rfl
        | true => exact absurd ⟨i, hi, e⟩ q))
      obtain ⟨i, hi, e⟩ := hex
      obtain ⟨c, c1, c2, c3⟩ := nwa_first n i (by omega)
      exact ⟨c, by omega, alk_trans e c2, c3⟩
theorem nwa_not {f : Nat → Int} {L a : Nat} : nwa f L a = false ↔ ∃ s, s ∈ nls f L a ∧ alk f L a s = true := by
  constructor
  · intro h
    obtain ⟨c, c1, c2, c3⟩ := nwa_first (f := f) (L := L) (a + 1) a (by omega)
    refine ⟨c, (nls_mem a).mpr ⟨?_, c3⟩, c2⟩
    rcases Nat.lt_or_ge c a with g | g
    · exact g
    · have : c = a := by omega
      rw [this, h] at c3
      cases c3
  · intro ⟨s, h1, h2⟩
    obtain ⟨h3, -⟩ := (nls_mem a).mp h1
    cases h : nwa f L a with
    | false => rfl
    | true =>
      have := (nwb_iff a).mp h s h3
      rw [h2] at this
      cases this
theorem tb_nls {f : Nat → Int} {L : Nat} : ∀ a, tb (fun t => bwd f L ((nls f L a)[t]?.getD 0)) (nls f L a).length = tb (fun a => nwa f L a && bwd f L a) a
  | 0 => rfl
  | a + 1 => by
    have ih := tb_nls (f := f) (L := L) a
    show _ = tb (fun a => nwa f L a && bwd f L a) a + (nwa f L a && bwd f L a).toNat
    rw [nls, ← ih]
    cases h : nwa f L a with
    | false => rw [if_neg Bool.false_ne_true]; rfl
    | true =>
      rw [if_pos rfl, List.length_append]
      show tb (fun t => bwd f L ((nls f L a ++ [a])[t]?.getD 0)) (nls f L a).length + (bwd f L ((nls f L a ++ [a])[(nls f L a).length]?.getD 0)).toNat = _
      congr 1
      · exact tb_cg _ (fun i hi => by rw [List.getElem?_append_left hi])
      · rw [List.getElem?_append_right (Nat.le_refl _), Nat.sub_self]
        rfl
section PRX
variable {sc : en_S} {Γ : Nat → Option GD}
theorem x_rps {p : Nat} {g : GD} (hg : Γ p = some g) (h9 : g.2.1 ≤ 9) {m : Nat} (hm : 24 ≤ m) (XI : Nat → Int32) (XP : Nat → Nat → Option Nat) (XC : Value) (MI : Nat → Int32) (MA : Nat → Nat → Int32) (ML : Nat → Nat → Int64) : ∀ (j i : Nat) (XA : Nat → Nat → Int32) (D : en_H), i + j = 212 → HV Γ D → i ≤ g.2.2.2.2.1 → (∀ t, t < i → XA 8 t = iO (g.2.2.2.2.2.1 t)) →
    ∃ XA' D', b_X11_readPartSteps_1 sc m 1 (p + 51) (iO (i : Int)) (hp XI XA XP XC MI MA ML D) = some (some (.int (iO ((min g.2.2.2.2.1 212 : Nat) : Int))), hp XI XA' XP XC MI MA ML D') ∧ HV Γ D' ∧ KP Γ g.2.1 D D' ∧ (∀ t, t ≠ 8 → XA' t = XA t) ∧ (∀ t, t < min g.2.2.2.2.1 212 → XA' 8 t = iO (g.2.2.2.2.2.1 t)) := by
  intro j
  induction j with
  | zero =>
    intro i XA D hi hV hsz hs
    obtain rfl : i = 212 := by omega
    refine ⟨XA, D, ?_, hV, KP.refl, fun _ _ => rfl, fun t ht => hs t (by omega)⟩
    rw [eb_X11_readPartSteps_1, show min g.2.2.2.2.1 212 = 212 by omega]
    clear hs
    simp (disch := (first | assumption | (unfold i32; omega) | (unfold i64; omega) | omega)) only [↓reduceIte, ki_0, ki_1, ki_2, ki_3, ki_4, ki_5, ki_6, ki_7, ki_8, ki_9, ki_10, ki_11, ki_12, ki_13, ki_14, ki_15, ki_20, ki_21, ki_30, ki_31, ki_40, ki_41, ki_50, ki_51, ki_60, ki_63, ki_64, ki_65, ki_100, ki_158, ki_160, ki_200, ki_212, ki_1000, ki_2000, ki_2001, ki_5000, ki_10000, ki_10001, ki_100000, ki_200000, ki_1000000, ki_2000000, ki_3000000, iO_neg, iO_add, iO_sub, iO_mul, kn_4, kn_8, kn_10, kn_20, kn_24, kn_40, kn_41, kn_50, kn_60, kn_158, kn_160, kn_200, kn_212, kn_2001, tn_lt, fn_lt, tn_le, fn_le, tn_eq, fn_eq, x_lt, x_le, x_eq, x_ix, x_nat, t_lt, f_lt, t_le, f_le, t_eq, f_eq, eq_self, and_self, true_and, and_true, false_and, and_false, if_true, if_false, Int.toNat_natCast, bI_s, bL_s, bA_s, bA_n, bV_s, mq_s, mq_n, en_le, bl_0, bl_1, u_eq, u_ne, w_eq, w_ne, v_eq, v_ne, ↓hp_cc_1, ↓hp_g_1_0, ↓hp_g_1_1, ↓hp_g_1_2, ↓hp_g_1_3, ↓hp_g_1_4, ↓hp_g_1_5, ↓hp_g_1_6, ↓hp_g_1_7, ↓hp_g_1_8, ↓hp_p_1_8, ↓hp_g_1_9, ↓hp_p_1_9, ↓hp_g_1_10, ↓hp_p_1_10, ↓hp_a_2, ↓hp_n_2, ↓hp_a_3, ↓hp_n_3, ↓hp_a_4, ↓hp_a_16, ↓hp_s_16, ↓hp_l_16, ↓hp_a_17, ↓hp_s_17, ↓hp_l_17]
    try rfl
  | succ j ih =>
    intro i XA D hi hV hsz hs
    obtain ⟨D1, s1, s2, s3⟩ := step_ok (sc := sc) g.2.1 p g hg rfl m XI XA XP XC MI MA ML D (i : Int) hV (by unfold i32; omega) (by omega)
    obtain ⟨-, g2, g3, -⟩ := hV p g hg
    by_cases e : i < g.2.2.2.2.1
    · have hst : stp g (i : Int) = g.2.2.2.2.2.1 i := by
        unfold stp
        rw [if_pos (by omega)]
        congr 1
      obtain ⟨v1, v2⟩ := g3 i e
      obtain ⟨XA', D', f1, f2, f3, f4, f5⟩ := ih (i + 1) (va_up XA 8 (upd (XA 8) i (iO (g.2.2.2.2.2.1 i)))) D1 (by omega) s2 (by omega) (by
        intro t ht
        rw [w_eq rfl]
        by_cases e2 : t = i
        · subst e2
          rw [u_eq rfl]
        · rw [u_ne e2]
          exact hs t (by omega))
      refine ⟨XA', D', ?_, f2, s3.trans f3 (Nat.le_refl _), fun t ht => by rw [f4 t ht, w_ne ht], f5⟩
      rw [← f1, eb_X11_readPartSteps_1]
      rw [hst] at s1
      clear f1 f2 f3 f4 f5 ih hs g3 s2 s3 hst
      simp (disch := (first | assumption | (unfold i32; omega) | (unfold i64; omega) | omega)) only [↓reduceIte, ki_0, ki_1, ki_2, ki_3, ki_4, ki_5, ki_6, ki_7, ki_8, ki_9, ki_10, ki_11, ki_12, ki_13, ki_14, ki_15, ki_20, ki_21, ki_30, ki_31, ki_40, ki_41, ki_50, ki_51, ki_60, ki_63, ki_64, ki_65, ki_100, ki_158, ki_160, ki_200, ki_212, ki_1000, ki_2000, ki_2001, ki_5000, ki_10000, ki_10001, ki_100000, ki_200000, ki_1000000, ki_2000000, ki_3000000, iO_neg, iO_add, iO_sub, iO_mul, kn_4, kn_8, kn_10, kn_20, kn_24, kn_40, kn_41, kn_50, kn_60, kn_158, kn_160, kn_200, kn_212, kn_2001, tn_lt, fn_lt, tn_le, fn_le, tn_eq, fn_eq, x_lt, x_le, x_eq, x_ix, x_nat, t_lt, f_lt, t_le, f_le, t_eq, f_eq, eq_self, and_self, true_and, and_true, false_and, and_false, if_true, if_false, Int.toNat_natCast, bI_s, bL_s, bA_s, bA_n, bV_s, mq_s, mq_n, en_le, bl_0, bl_1, u_eq, u_ne, w_eq, w_ne, v_eq, v_ne, vt_bI, s1, ↓hp_cc_1, ↓hp_g_1_0, ↓hp_g_1_1, ↓hp_g_1_2, ↓hp_g_1_3, ↓hp_g_1_4, ↓hp_g_1_5, ↓hp_g_1_6, ↓hp_g_1_7, ↓hp_g_1_8, ↓hp_p_1_8, ↓hp_g_1_9, ↓hp_p_1_9, ↓hp_g_1_10, ↓hp_p_1_10, ↓hp_a_2, ↓hp_n_2, ↓hp_a_3, ↓hp_n_3, ↓hp_a_4, ↓hp_a_16, ↓hp_s_16, ↓hp_l_16, ↓hp_a_17, ↓hp_s_17, ↓hp_l_17]
      try rfl
    · have hst : stp g (i : Int) = -1 := by
        unfold stp
        rw [if_neg (by omega)]
      refine ⟨XA, D1, ?_, s2, s3, fun _ _ => rfl, fun t ht => hs t (by omega)⟩
      rw [eb_X11_readPartSteps_1, show min g.2.2.2.2.1 212 = i by omega]
      rw [hst] at s1
      clear ih hs g3 s2 s3 hst
      simp (disch := (first | assumption | (unfold i32; omega) | (unfold i64; omega) | omega)) only [↓reduceIte, ki_0, ki_1, ki_2, ki_3, ki_4, ki_5, ki_6, ki_7, ki_8, ki_9, ki_10, ki_11, ki_12, ki_13, ki_14, ki_15, ki_20, ki_21, ki_30, ki_31, ki_40, ki_41, ki_50, ki_51, ki_60, ki_63, ki_64, ki_65, ki_100, ki_158, ki_160, ki_200, ki_212, ki_1000, ki_2000, ki_2001, ki_5000, ki_10000, ki_10001, ki_100000, ki_200000, ki_1000000, ki_2000000, ki_3000000, iO_neg, iO_add, iO_sub, iO_mul, kn_4, kn_8, kn_10, kn_20, kn_24, kn_40, kn_41, kn_50, kn_60, kn_158, kn_160, kn_200, kn_212, kn_2001, tn_lt, fn_lt, tn_le, fn_le, tn_eq, fn_eq, x_lt, x_le, x_eq, x_ix, x_nat, t_lt, f_lt, t_le, f_le, t_eq, f_eq, eq_self, and_self, true_and, and_true, false_and, and_false, if_true, if_false, Int.toNat_natCast, bI_s, bL_s, bA_s, bA_n, bV_s, mq_s, mq_n, en_le, bl_0, bl_1, u_eq, u_ne, w_eq, w_ne, v_eq, v_ne, vt_bI, s1, ↓hp_cc_1, ↓hp_g_1_0, ↓hp_g_1_1, ↓hp_g_1_2, ↓hp_g_1_3, ↓hp_g_1_4, ↓hp_g_1_5, ↓hp_g_1_6, ↓hp_g_1_7, ↓hp_g_1_8, ↓hp_p_1_8, ↓hp_g_1_9, ↓hp_p_1_9, ↓hp_g_1_10, ↓hp_p_1_10, ↓hp_a_2, ↓hp_n_2, ↓hp_a_3, ↓hp_n_3, ↓hp_a_4, ↓hp_a_16, ↓hp_s_16, ↓hp_l_16, ↓hp_a_17, ↓hp_s_17, ↓hp_l_17]
end PRX
section PRY
variable {sc : en_S} {d : Nat} {XI : Nat → Int32} {XP : Nat → Nat → Option Nat} {XC : Value} {MI : Nat → Int32} {MA : Nat → Nat → Int32} {ML : Nat → Nat → Int64} {D : en_H} {L sz : Nat} {f : Nat → Int}
theorem x_alike {XA : Nat → Nat → Int32} (hL : L ≤ 12) (hf : ∀ i, i < min sz 212 → XA 8 i = iO (f i)) (hv : ∀ i, i < sz → 0 ≤ f i ∧ f i ≤ 100) {a b : Nat} (ha : a + L ≤ sz) (hb : b + L ≤ sz) (ha2 : a < 200) (hb2 : b < 200) : f_X11_readsAlike sc (d + 1) 1 (iO (a : Int)) (iO (b : Int)) (iO (L : Int)) (hp XI XA XP XC MI MA ML D) = some (some (.int (iO (if alk f L a b = true then 1 else 0))), hp XI XA XP XC MI MA ML D) := by
  have key : ∀ (j i : Nat), i + j = L → (∀ t, t < i → f (a + t) = f (b + t)) → b_X11_readsAlike_1 sc d 1 (iO (a : Int)) (iO (b : Int)) (iO (L : Int)) (iO (i : Int)) (hp XI XA XP XC MI MA ML D) = some (some (.int (iO (if alk f L a b = true then 1 else 0))), hp XI XA XP XC MI MA ML D) := by
    intro j
    induction j with
    | zero =>
      intro i hi h
      obtain rfl : i = L := by omega
      rw [if_pos (alk_iff.mpr h), eb_X11_readsAlike_1]
      clear hf hv h
      simp (disch := (first | assumption | (unfold i32; omega) | (unfold i64; omega) | omega)) only [↓reduceIte, ki_0, ki_1, ki_2, ki_3, ki_4, ki_5, ki_6, ki_7, ki_8, ki_9, ki_10, ki_11, ki_12, ki_13, ki_14, ki_15, ki_20, ki_21, ki_30, ki_31, ki_40, ki_41, ki_50, ki_51, ki_60, ki_63, ki_64, ki_65, ki_100, ki_158, ki_160, ki_200, ki_212, ki_1000, ki_2000, ki_2001, ki_5000, ki_10000, ki_10001, ki_100000, ki_200000, ki_1000000, ki_2000000, ki_3000000, iO_neg, iO_add, iO_sub, iO_mul, kn_4, kn_8, kn_10, kn_20, kn_24, kn_40, kn_41, kn_50, kn_60, kn_158, kn_160, kn_200, kn_212, kn_2001, tn_lt, fn_lt, tn_le, fn_le, tn_eq, fn_eq, x_lt, x_le, x_eq, x_ix, x_nat, t_lt, f_lt, t_le, f_le, t_eq, f_eq, eq_self, and_self, true_and, and_true, false_and, and_false, if_true, if_false, Int.toNat_natCast, bI_s, bL_s, bA_s, bA_n, bV_s, mq_s, mq_n, en_le, bl_0, bl_1, u_eq, u_ne, w_eq, w_ne, v_eq, v_ne]
    | succ j ih =>
      intro i hi h
      have h1 := hf (a + i) (by omega)
      have h2 := hf (b + i) (by omega)
      obtain ⟨v1, v2⟩ := hv (a + i) (by omega)
      obtain ⟨v3, v4⟩ := hv (b + i) (by omega)
      have e1 : ((a : Int) + (i : Int)).toNat = a + i := by omega
      have e2 : ((b : Int) + (i : Int)).toNat = b + i := by omega
      by_cases g : f (a + i) = f (b + i)
      · rw [← ih (i + 1) (by omega) (fun t ht => by
          by_cases e : t = i
          · subst e; exact g
          · exact h t (by omega)), eb_X11_readsAlike_1]
        clear ih hf hv h
        simp (disch := (first | assumption | (unfold i32; omega) | (unfold i64; omega) | omega)) only [↓reduceIte, ki_0, ki_1, ki_2, ki_3, ki_4, ki_5, ki_6, ki_7, ki_8, ki_9, ki_10, ki_11, ki_12, ki_13, ki_14, ki_15, ki_20, ki_21, ki_30, ki_31, ki_40, ki_41, ki_50, ki_51, ki_60, ki_63, ki_64, ki_65, ki_100, ki_158, ki_160, ki_200, ki_212, ki_1000, ki_2000, ki_2001, ki_5000, ki_10000, ki_10001, ki_100000, ki_200000, ki_1000000, ki_2000000, ki_3000000, iO_neg, iO_add, iO_sub, iO_mul, kn_4, kn_8, kn_10, kn_20, kn_24, kn_40, kn_41, kn_50, kn_60, kn_158, kn_160, kn_200, kn_212, kn_2001, tn_lt, fn_lt, tn_le, fn_le, tn_eq, fn_eq, x_lt, x_le, x_eq, x_ix, x_nat, t_lt, f_lt, t_le, f_le, t_eq, f_eq, eq_self, and_self, true_and, and_true, false_and, and_false, if_true, if_false, Int.toNat_natCast, bI_s, bL_s, bA_s, bA_n, bV_s, mq_s, mq_n, en_le, bl_0, bl_1, u_eq, u_ne, w_eq, w_ne, v_eq, v_ne, ↓hp_cc_1, ↓hp_g_1_0, ↓hp_g_1_1, ↓hp_g_1_2, ↓hp_g_1_3, ↓hp_g_1_4, ↓hp_g_1_5, ↓hp_g_1_6, ↓hp_g_1_7, ↓hp_g_1_8, ↓hp_p_1_8, ↓hp_g_1_9, ↓hp_p_1_9, ↓hp_g_1_10, ↓hp_p_1_10, ↓hp_a_2, ↓hp_n_2, ↓hp_a_3, ↓hp_n_3, ↓hp_a_4, ↓hp_a_16, ↓hp_s_16, ↓hp_l_16, ↓hp_a_17, ↓hp_s_17, ↓hp_l_17, e1, e2, h1, h2]
        try rfl
      · have hno : alk f L a b = false := alg_no (show i < L by omega) g
        rw [hno, if_neg Bool.false_ne_true, eb_X11_readsAlike_1]
        clear ih hf hv h hno
        simp (disch := (first | assumption | (unfold i32; omega) | (unfold i64; omega) | omega)) only [↓reduceIte, ki_0, ki_1, ki_2, ki_3, ki_4, ki_5, ki_6, ki_7, ki_8, ki_9, ki_10, ki_11, ki_12, ki_13, ki_14, ki_15, ki_20, ki_21, ki_30, ki_31, ki_40, ki_41, ki_50, ki_51, ki_60, ki_63, ki_64, ki_65, ki_100, ki_158, ki_160, ki_200, ki_212, ki_1000, ki_2000, ki_2001, ki_5000, ki_10000, ki_10001, ki_100000, ki_200000, ki_1000000, ki_2000000, ki_3000000, iO_neg, iO_add, iO_sub, iO_mul, kn_4, kn_8, kn_10, kn_20, kn_24, kn_40, kn_41, kn_50, kn_60, kn_158, kn_160, kn_200, kn_212, kn_2001, tn_lt, fn_lt, tn_le, fn_le, tn_eq, fn_eq, x_lt, x_le, x_eq, x_ix, x_nat, t_lt, f_lt, t_le, f_le, t_eq, f_eq, eq_self, and_self, true_and, and_true, false_and, and_false, if_true, if_false, Int.toNat_natCast, bI_s, bL_s, bA_s, bA_n, bV_s, mq_s, mq_n, en_le, bl_0, bl_1, u_eq, u_ne, w_eq, w_ne, v_eq, v_ne, ↓hp_cc_1, ↓hp_g_1_0, ↓hp_g_1_1, ↓hp_g_1_2, ↓hp_g_1_3, ↓hp_g_1_4, ↓hp_g_1_5, ↓hp_g_1_6, ↓hp_g_1_7, ↓hp_g_1_8, ↓hp_p_1_8, ↓hp_g_1_9, ↓hp_p_1_9, ↓hp_g_1_10, ↓hp_p_1_10, ↓hp_a_2, ↓hp_n_2, ↓hp_a_3, ↓hp_n_3, ↓hp_a_4, ↓hp_a_16, ↓hp_s_16, ↓hp_l_16, ↓hp_a_17, ↓hp_s_17, ↓hp_l_17, e1, e2, h1, h2]
  rw [e_X11_readsAlike]
  exact key L 0 (by omega) (fun t ht => by omega)
theorem x_backw {XA : Nat → Nat → Int32} (hL : L ≤ 12) (hf : ∀ i, i < min sz 212 → XA 8 i = iO (f i)) (hv : ∀ i, i < sz → 0 ≤ f i ∧ f i ≤ 100) {a : Nat} (ha : a + L ≤ sz) (ha2 : a < 200) : f_X11_readsAlikeBackward sc (d + 1) 1 (iO (a : Int)) (iO (L : Int)) (hp XI XA XP XC MI MA ML D) = some (some (.int (iO (if bwd f L a = true then 1 else 0))), hp XI XA XP XC MI MA ML D) := by
  have key : ∀ (j i : Nat), i + j = L → (∀ t, t < i → f (a + t) = f (a + (L - 1 - t))) → b_X11_readsAlikeBackward_1 sc d 1 (iO (a : Int)) (iO (L : Int)) (iO (i : Int)) (hp XI XA XP XC MI MA ML D) = some (some (.int (iO (if bwd f L a = true then 1 else 0))), hp XI XA XP XC MI MA ML D) := by
    intro j
    induction j with
    | zero =>
      intro i hi h
      obtain rfl : i = L := by omega
      have hb0 : bwd f i a = true := (alg_iff i).mpr h
      rw [hb0, if_pos rfl, eb_X11_readsAlikeBackward_1]
      clear hf hv h
      simp (disch := (first | assumption | (unfold i32; omega) | (unfold i64; omega) | omega)) only [↓reduceIte, ki_0, ki_1, ki_2, ki_3, ki_4, ki_5, ki_6, ki_7, ki_8, ki_9, ki_10, ki_11, ki_12, ki_13, ki_14, ki_15, ki_20, ki_21, ki_30, ki_31, ki_40, ki_41, ki_50, ki_51, ki_60, ki_63, ki_64, ki_65, ki_100, ki_158, ki_160, ki_200, ki_212, ki_1000, ki_2000, ki_2001, ki_5000, ki_10000, ki_10001, ki_100000, ki_200000, ki_1000000, ki_2000000, ki_3000000, iO_neg, iO_add, iO_sub, iO_mul, kn_4, kn_8, kn_10, kn_20, kn_24, kn_40, kn_41, kn_50, kn_60, kn_158, kn_160, kn_200, kn_212, kn_2001, tn_lt, fn_lt, tn_le, fn_le, tn_eq, fn_eq, x_lt, x_le, x_eq, x_ix, x_nat, t_lt, f_lt, t_le, f_le, t_eq, f_eq, eq_self, and_self, true_and, and_true, false_and, and_false, if_true, if_false, Int.toNat_natCast, bI_s, bL_s, bA_s, bA_n, bV_s, mq_s, mq_n, en_le, bl_0, bl_1, u_eq, u_ne, w_eq, w_ne, v_eq, v_ne]
    | succ j ih =>
      intro i hi h
      have h1 := hf (a + i) (by omega)
      have h2 := hf (a + (L - 1 - i)) (by omega)
      obtain ⟨v1, v2⟩ := hv (a + i) (by omega)
      obtain ⟨v3, v4⟩ := hv (a + (L - 1 - i)) (by omega)
      have e1 : ((a : Int) + (i : Int)).toNat = a + i := by omega
      have e2 : ((a : Int) + (L : Int) - 1 - (i : Int)).toNat = a + (L - 1 - i) := by omega
      by_cases g : f (a + i) = f (a + (L - 1 - i))
      · rw [← ih (i + 1) (by omega) (fun t ht => by
          by_cases e : t = i
          · subst e; exact g
          · exact h t (by omega)), eb_X11_readsAlikeBackward_1]
        clear ih hf hv h
        simp (disch := (first | assumption | (unfold i32; omega) | (unfold i64; omega) | omega)) only [↓reduceIte, ki_0, ki_1, ki_2, ki_3, ki_4, ki_5, ki_6, ki_7, ki_8, ki_9, ki_10, ki_11, ki_12, ki_13, ki_14, ki_15, ki_20, ki_21, ki_30, ki_31, ki_40, ki_41, ki_50, ki_51, ki_60, ki_63, ki_64, ki_65, ki_100, ki_158, ki_160, ki_200, ki_212, ki_1000, ki_2000, ki_2001, ki_5000, ki_10000, ki_10001, ki_100000, ki_200000, ki_1000000, ki_2000000, ki_3000000, iO_neg, iO_add, iO_sub, iO_mul, kn_4, kn_8, kn_10, kn_20, kn_24, kn_40, kn_41, kn_50, kn_60, kn_158, kn_160, kn_200, kn_212, kn_2001, tn_lt, fn_lt, tn_le, fn_le, tn_eq, fn_eq, x_lt, x_le, x_eq, x_ix, x_nat, t_lt, f_lt, t_le, f_le, t_eq, f_eq, eq_self, and_self, true_and, and_true, false_and, and_false, if_true, if_false, Int.toNat_natCast, bI_s, bL_s, bA_s, bA_n, bV_s, mq_s, mq_n, en_le, bl_0, bl_1, u_eq, u_ne, w_eq, w_ne, v_eq, v_ne, ↓hp_cc_1, ↓hp_g_1_0, ↓hp_g_1_1, ↓hp_g_1_2, ↓hp_g_1_3, ↓hp_g_1_4, ↓hp_g_1_5, ↓hp_g_1_6, ↓hp_g_1_7, ↓hp_g_1_8, ↓hp_p_1_8, ↓hp_g_1_9, ↓hp_p_1_9, ↓hp_g_1_10, ↓hp_p_1_10, ↓hp_a_2, ↓hp_n_2, ↓hp_a_3, ↓hp_n_3, ↓hp_a_4, ↓hp_a_16, ↓hp_s_16, ↓hp_l_16, ↓hp_a_17, ↓hp_s_17, ↓hp_l_17, e1, e2, h1, h2]
        try rfl
      · have hno : bwd f L a = false := alg_no (show i < L by omega) g
        rw [hno, if_neg Bool.false_ne_true, eb_X11_readsAlikeBackward_1]
        clear ih hf hv h hno
        simp (disch := (first | assumption | (unfold i32; omega) | (unfold i64; omega) | omega)) only [↓reduceIte, ki_0, ki_1, ki_2, ki_3, ki_4, ki_5, ki_6, ki_7, ki_8, ki_9, ki_10, ki_11, ki_12, ki_13, ki_14, ki_15, ki_20, ki_21, ki_30, ki_31, ki_40, ki_41, ki_50, ki_51, ki_60, ki_63, ki_64, ki_65, ki_100, ki_158, ki_160, ki_200, ki_212, ki_1000, ki_2000, ki_2001, ki_5000, ki_10000, ki_10001, ki_100000, ki_200000, ki_1000000, ki_2000000, ki_3000000, iO_neg, iO_add, iO_sub, iO_mul, kn_4, kn_8, kn_10, kn_20, kn_24, kn_40, kn_41, kn_50, kn_60, kn_158, kn_160, kn_200, kn_212, kn_2001, tn_lt, fn_lt, tn_le, fn_le, tn_eq, fn_eq, x_lt, x_le, x_eq, x_ix, x_nat, t_lt, f_lt, t_le, f_le, t_eq, f_eq, eq_self, and_self, true_and, and_true, false_and, and_false, if_true, if_false, Int.toNat_natCast, bI_s, bL_s, bA_s, bA_n, bV_s, mq_s, mq_n, en_le, bl_0, bl_1, u_eq, u_ne, w_eq, w_ne, v_eq, v_ne, ↓hp_cc_1, ↓hp_g_1_0, ↓hp_g_1_1, ↓hp_g_1_2, ↓hp_g_1_3, ↓hp_g_1_4, ↓hp_g_1_5, ↓hp_g_1_6, ↓hp_g_1_7, ↓hp_g_1_8, ↓hp_p_1_8, ↓hp_g_1_9, ↓hp_p_1_9, ↓hp_g_1_10, ↓hp_p_1_10, ↓hp_a_2, ↓hp_n_2, ↓hp_a_3, ↓hp_n_3, ↓hp_a_4, ↓hp_a_16, ↓hp_s_16, ↓hp_l_16, ↓hp_a_17, ↓hp_s_17, ↓hp_l_17, e1, e2, h1, h2]
  rw [e_X11_readsAlikeBackward]
  exact key L 0 (by omega) (fun t ht => by omega)
theorem x_among {XA : Nat → Nat → Int32} (hL : L ≤ 12) (hf : ∀ i, i < min sz 212 → XA 8 i = iO (f i)) (hv : ∀ i, i < sz → 0 ≤ f i ∧ f i ≤ 100) {a : Nat} (ha : a + L ≤ sz) (ha2 : a < 200) (hs : ∀ (t s : Nat), (nls f L a)[t]? = some s → XA 9 t = iO (s : Int)) : f_X11_isAmongParts sc (d + 2) 1 (iO (a : Int)) (iO (L : Int)) (iO (((nls f L a).length : Nat) : Int)) (hp XI XA XP XC MI MA ML D) = some (some (.int (iO (if nwa f L a = true then 0 else 1))), hp XI XA XP XC MI MA ML D) := by
  have hlen : (nls f L a).length ≤ 200 := by
    have := nls_len (f := f) (L := L) a
    have := tb_le (nwa f L) a
    omega
  have key : ∀ (j i : Nat), i + j = (nls f L a).length → (∀ (t s : Nat), t < i → (nls f L a)[t]? = some s → alk f L a s = false) → b_X11_isAmongParts_1 sc (d + 1) 1 (iO (a : Int)) (iO (L : Int)) (iO (((nls f L a).length : Nat) : Int)) (iO (i : Int)) (hp XI XA XP XC MI MA ML D) = some (some (.int (iO (if nwa f L a = true then 0 else 1))), hp XI XA XP XC MI MA ML D) := by
    intro j
    induction j with
    | zero =>
      intro i hi h
      have hn : nwa f L a = true := by
        cases e : nwa f L a with
        | true => rfl
        | false =>
          obtain ⟨s, s1, s2⟩ := nwa_not.mp e
          obtain ⟨t, ht⟩ := List.mem_iff_getElem?.mp s1
          have := h t s (by have := (List.getElem?_eq_some_iff.mp ht).1; omega) ht
          rw [s2] at this
          cases this
      rw [hn, if_pos rfl, eb_X11_isAmongParts_1]
      clear hf hv h hs
      generalize (nls f L a).length = U at *
      simp (disch := (first | assumption | (unfold i32; omega) | (unfold i64; omega) | omega)) only [↓reduceIte, ki_0, ki_1, ki_2, ki_3, ki_4, ki_5, ki_6, ki_7, ki_8, ki_9, ki_10, ki_11, ki_12, ki_13, ki_14, ki_15, ki_20, ki_21, ki_30, ki_31, ki_40, ki_41, ki_50, ki_51, ki_60, ki_63, ki_64, ki_65, ki_100, ki_158, ki_160, ki_200, ki_212, ki_1000, ki_2000, ki_2001, ki_5000, ki_10000, ki_10001, ki_100000, ki_200000, ki_1000000, ki_2000000, ki_3000000, iO_neg, iO_add, iO_sub, iO_mul, kn_4, kn_8, kn_10, kn_20, kn_24, kn_40, kn_41, kn_50, kn_60, kn_158, kn_160, kn_200, kn_212, kn_2001, tn_lt, fn_lt, tn_le, fn_le, tn_eq, fn_eq, x_lt, x_le, x_eq, x_ix, x_nat, t_lt, f_lt, t_le, f_le, t_eq, f_eq, eq_self, and_self, true_and, and_true, false_and, and_false, if_true, if_false, Int.toNat_natCast, bI_s, bL_s, bA_s, bA_n, bV_s, mq_s, mq_n, en_le, bl_0, bl_1, u_eq, u_ne, w_eq, w_ne, v_eq, v_ne]
    | succ j ih =>
      intro i hi h
      obtain ⟨s, hs1⟩ : ∃ s, (nls f L a)[i]? = some s := ⟨_, List.getElem?_eq_getElem (by omega)⟩
      have hs2 := hs i s hs1
      obtain ⟨m1, m2⟩ := (nls_mem a).mp (List.mem_of_getElem? hs1)
      have hal := x_alike (sc := sc) (d := d) (XI := XI) (XA := XA) (XP := XP) (XC := XC) (MI := MI) (MA := MA) (ML := ML) (D := D) hL hf hv (a := a) (b := s) ha (by omega) ha2 (by omega)
      cases hq : alk f L a s with
      | true =>
        have hn : nwa f L a = false := nwa_not.mpr ⟨s, List.mem_of_getElem? hs1, hq⟩
        rw [hq, if_pos rfl] at hal
        rw [hn, if_neg Bool.false_ne_true, eb_X11_isAmongParts_1]
        clear hf hv h hs ih
        generalize (nls f L a).length = U at *
        simp (disch := (first | assumption | (unfold i32; omega) | (unfold i64; omega) | omega)) only [↓reduceIte, ki_0, ki_1, ki_2, ki_3, ki_4, ki_5, ki_6, ki_7, ki_8, ki_9, ki_10, ki_11, ki_12, ki_13, ki_14, ki_15, ki_20, ki_21, ki_30, ki_31, ki_40, ki_41, ki_50, ki_51, ki_60, ki_63, ki_64, ki_65, ki_100, ki_158, ki_160, ki_200, ki_212, ki_1000, ki_2000, ki_2001, ki_5000, ki_10000, ki_10001, ki_100000, ki_200000, ki_1000000, ki_2000000, ki_3000000, iO_neg, iO_add, iO_sub, iO_mul, kn_4, kn_8, kn_10, kn_20, kn_24, kn_40, kn_41, kn_50, kn_60, kn_158, kn_160, kn_200, kn_212, kn_2001, tn_lt, fn_lt, tn_le, fn_le, tn_eq, fn_eq, x_lt, x_le, x_eq, x_ix, x_nat, t_lt, f_lt, t_le, f_le, t_eq, f_eq, eq_self, and_self, true_and, and_true, false_and, and_false, if_true, if_false, Int.toNat_natCast, bI_s, bL_s, bA_s, bA_n, bV_s, mq_s, mq_n, en_le, bl_0, bl_1, u_eq, u_ne, w_eq, w_ne, v_eq, v_ne, ↓hp_cc_1, ↓hp_g_1_0, ↓hp_g_1_1, ↓hp_g_1_2, ↓hp_g_1_3, ↓hp_g_1_4, ↓hp_g_1_5, ↓hp_g_1_6, ↓hp_g_1_7, ↓hp_g_1_8, ↓hp_p_1_8, ↓hp_g_1_9, ↓hp_p_1_9, ↓hp_g_1_10, ↓hp_p_1_10, ↓hp_a_2, ↓hp_n_2, ↓hp_a_3, ↓hp_n_3, ↓hp_a_4, ↓hp_a_16, ↓hp_s_16, ↓hp_l_16, ↓hp_a_17, ↓hp_s_17, ↓hp_l_17, hs2, hal]
      | false =>
        rw [hq, if_neg Bool.false_ne_true] at hal
        rw [← ih (i + 1) (by omega) (fun t s' ht hts => by
          by_cases e : t = i
          · subst e
            rw [hs1] at hts
            cases hts
            exact hq
          · exact h t s' (by omega) hts), eb_X11_isAmongParts_1]
        clear hf hv h hs ih
        generalize (nls f L a).length = U at *
        simp (disch := (first | assumption | (unfold i32; omega) | (unfold i64; omega) | omega)) only [↓reduceIte, ki_0, ki_1, ki_2, ki_3, ki_4, ki_5, ki_6, ki_7, ki_8, ki_9, ki_10, ki_11, ki_12, ki_13, ki_14, ki_15, ki_20, ki_21, ki_30, ki_31, ki_40, ki_41, ki_50, ki_51, ki_60, ki_63, ki_64, ki_65, ki_100, ki_158, ki_160, ki_200, ki_212, ki_1000, ki_2000, ki_2001, ki_5000, ki_10000, ki_10001, ki_100000, ki_200000, ki_1000000, ki_2000000, ki_3000000, iO_neg, iO_add, iO_sub, iO_mul, kn_4, kn_8, kn_10, kn_20, kn_24, kn_40, kn_41, kn_50, kn_60, kn_158, kn_160, kn_200, kn_212, kn_2001, tn_lt, fn_lt, tn_le, fn_le, tn_eq, fn_eq, x_lt, x_le, x_eq, x_ix, x_nat, t_lt, f_lt, t_le, f_le, t_eq, f_eq, eq_self, and_self, true_and, and_true, false_and, and_false, if_true, if_false, Int.toNat_natCast, bI_s, bL_s, bA_s, bA_n, bV_s, mq_s, mq_n, en_le, bl_0, bl_1, u_eq, u_ne, w_eq, w_ne, v_eq, v_ne, ↓hp_cc_1, ↓hp_g_1_0, ↓hp_g_1_1, ↓hp_g_1_2, ↓hp_g_1_3, ↓hp_g_1_4, ↓hp_g_1_5, ↓hp_g_1_6, ↓hp_g_1_7, ↓hp_g_1_8, ↓hp_p_1_8, ↓hp_g_1_9, ↓hp_p_1_9, ↓hp_g_1_10, ↓hp_p_1_10, ↓hp_a_2, ↓hp_n_2, ↓hp_a_3, ↓hp_n_3, ↓hp_a_4, ↓hp_a_16, ↓hp_s_16, ↓hp_l_16, ↓hp_a_17, ↓hp_s_17, ↓hp_l_17, hs2, hal]
        try rfl
  rw [e_X11_isAmongParts]
  exact key (nls f L a).length 0 (by omega) (fun t s ht => by omega)
theorem x_unlike (hL1 : 1 ≤ L) (hL : L ≤ 12) (hsz : sz ≤ 10001) (hv : ∀ i, i < sz → 0 ≤ f i ∧ f i ≤ 100) : ∀ (j a : Nat) (XA : Nat → Nat → Int32), a + j = pcn sz L → (∀ i, i < min sz 212 → XA 8 i = iO (f i)) → (∀ (t s : Nat), (nls f L a)[t]? = some s → XA 9 t = iO (s : Int)) →
    ∃ XA', b_X11_findUnlike_1 sc (d + 2) 1 (iO ((min sz 212 : Nat) : Int)) (iO (L : Int)) (iO (((nls f L a).length : Nat) : Int)) (iO (a : Int)) (hp XI XA XP XC MI MA ML D) = some (some (.int (iO (((nls f L (pcn sz L)).length : Nat) : Int))), hp XI XA' XP XC MI MA ML D) ∧ (∀ t, t ≠ 9 → XA' t = XA t) ∧ (∀ (t s : Nat), (nls f L (pcn sz L))[t]? = some s → XA' 9 t = iO (s : Int)) := by
  intro j
  induction j with
  | zero =>
    intro a XA ha hf hs
    obtain rfl : a = pcn sz L := by omega
    have hp1 : pcn sz L ≤ 200 := Nat.min_le_left _ _
    refine ⟨XA, ?_, fun _ _ => rfl, hs⟩
    rw [eb_X11_findUnlike_1]
    have hlen : (nls f L (pcn sz L)).length ≤ 200 := by
      have := nls_len (f := f) (L := L) (pcn sz L)
      have := tb_le (nwa f L) (pcn sz L)
      omega
    generalize (nls f L (pcn sz L)).length = U at *
    by_cases g : 200 ≤ pcn sz L
    · generalize pcn sz L = P at *
      clear hf hv hs
      simp (disch := (first | assumption | (unfold i32; omega) | (unfold i64; omega) | omega)) only [↓reduceIte, ki_0, ki_1, ki_2, ki_3, ki_4, ki_5, ki_6, ki_7, ki_8, ki_9, ki_10, ki_11, ki_12, ki_13, ki_14, ki_15, ki_20, ki_21, ki_30, ki_31, ki_40, ki_41, ki_50, ki_51, ki_60, ki_63, ki_64, ki_65, ki_100, ki_158, ki_160, ki_200, ki_212, ki_1000, ki_2000, ki_2001, ki_5000, ki_10000, ki_10001, ki_100000, ki_200000, ki_1000000, ki_2000000, ki_3000000, iO_neg, iO_add, iO_sub, iO_mul, kn_4, kn_8, kn_10, kn_20, kn_24, kn_40, kn_41, kn_50, kn_60, kn_158, kn_160, kn_200, kn_212, kn_2001, tn_lt, fn_lt, tn_le, fn_le, tn_eq, fn_eq, x_lt, x_le, x_eq, x_ix, x_nat, t_lt, f_lt, t_le, f_le, t_eq, f_eq, eq_self, and_self, true_and, and_true, false_and, and_false, if_true, if_false, Int.toNat_natCast, bI_s, bL_s, bA_s, bA_n, bV_s, mq_s, mq_n, en_le, bl_0, bl_1, u_eq, u_ne, w_eq, w_ne, v_eq, v_ne]
    · have g2 : min sz 212 < pcn sz L + L := by unfold pcn at g ⊢; omega
      have hM2 : min sz 212 ≤ 212 := Nat.min_le_right _ _
      generalize pcn sz L = P at *
      generalize min sz 212 = M at *
      clear hf hv hs
      simp (disch := (first | assumption | (unfold i32; omega) | (unfold i64; omega) | omega)) only [↓reduceIte, ki_0, ki_1, ki_2, ki_3, ki_4, ki_5, ki_6, ki_7, ki_8, ki_9, ki_10, ki_11, ki_12, ki_13, ki_14, ki_15, ki_20, ki_21, ki_30, ki_31, ki_40, ki_41, ki_50, ki_51, ki_60, ki_63, ki_64, ki_65, ki_100, ki_158, ki_160, ki_200, ki_212, ki_1000, ki_2000, ki_2001, ki_5000, ki_10000, ki_10001, ki_100000, ki_200000, ki_1000000, ki_2000000, ki_3000000, iO_neg, iO_add, iO_sub, iO_mul, kn_4, kn_8, kn_10, kn_20, kn_24, kn_40, kn_41, kn_50, kn_60, kn_158, kn_160, kn_200, kn_212, kn_2001, tn_lt, fn_lt, tn_le, fn_le, tn_eq, fn_eq, x_lt, x_le, x_eq, x_ix, x_nat, t_lt, f_lt, t_le, f_le, t_eq, f_eq, eq_self, and_self, true_and, and_true, false_and, and_false, if_true, if_false, Int.toNat_natCast, bI_s, bL_s, bA_s, bA_n, bV_s, mq_s, mq_n, en_le, bl_0, bl_1, u_eq, u_ne, w_eq, w_ne, v_eq, v_ne]
  | succ j ih =>
    intro a XA ha hf hs
    have hp1 : pcn sz L ≤ 200 := Nat.min_le_left _ _
    have haL : a + L ≤ sz := by unfold pcn at ha; omega
    have ha2 : a < 200 := by omega
    have ham := x_among (sc := sc) (d := d) (XI := XI) (XP := XP) (XC := XC) (MI := MI) (MA := MA) (ML := ML) (D := D) hL hf hv haL ha2 hs
    have hlen : (nls f L a).length ≤ a := by
      have := nls_len (f := f) (L := L) a
      have := tb_le (nwa f L) a
      omega
    have hM : a + L ≤ min sz 212 := by omega
    have hM2 : min sz 212 ≤ 212 := Nat.min_le_right _ _
    cases hn : nwa f L a with
    | true =>
      have en : nls f L (a + 1) = nls f L a ++ [a] := by rw [nls, if_pos hn]
      obtain ⟨XA', f1, f2, f3⟩ := ih (a + 1) (va_up XA 9 (upd (XA 9) (nls f L a).length (iO (a : Int)))) (by omega) hf (by
        intro t s hts
        rw [en, List.getElem?_append] at hts
        rw [w_eq rfl]
        split at hts
        · rename_i h
          rw [u_ne (by omega)]
          exact hs t s hts
        · rename_i h
          have : t = (nls f L a).length := by
            have := (List.getElem?_eq_some_iff.mp hts).1
            simp at this
            omega
          subst this
          rw [Nat.sub_self] at hts
          cases hts
          rw [u_eq rfl])
      refine ⟨XA', ?_, fun t ht => by rw [f2 t ht, w_ne ht], f3⟩
      rw [hn, if_pos rfl] at ham
      rw [← f1, en, List.length_append, eb_X11_findUnlike_1]
      clear ih hf hv hs f1 f2 f3 hn en
      generalize (nls f L a).length = U at *
      generalize min sz 212 = M at *
      simp (disch := (first | assumption | (unfold i32; omega) | (unfold i64; omega) | omega)) only [↓reduceIte, ki_0, ki_1, ki_2, ki_3, ki_4, ki_5, ki_6, ki_7, ki_8, ki_9, ki_10, ki_11, ki_12, ki_13, ki_14, ki_15, ki_20, ki_21, ki_30, ki_31, ki_40, ki_41, ki_50, ki_51, ki_60, ki_63, ki_64, ki_65, ki_100, ki_158, ki_160, ki_200, ki_212, ki_1000, ki_2000, ki_2001, ki_5000, ki_10000, ki_10001, ki_100000, ki_200000, ki_1000000, ki_2000000, ki_3000000, iO_neg, iO_add, iO_sub, iO_mul, kn_4, kn_8, kn_10, kn_20, kn_24, kn_40, kn_41, kn_50, kn_60, kn_158, kn_160, kn_200, kn_212, kn_2001, tn_lt, fn_lt, tn_le, fn_le, tn_eq, fn_eq, x_lt, x_le, x_eq, x_ix, x_nat, t_lt, f_lt, t_le, f_le, t_eq, f_eq, eq_self, and_self, true_and, and_true, false_and, and_false, if_true, if_false, Int.toNat_natCast, bI_s, bL_s, bA_s, bA_n, bV_s, mq_s, mq_n, en_le, bl_0, bl_1, u_eq, u_ne, w_eq, w_ne, v_eq, v_ne, ↓hp_cc_1, ↓hp_g_1_0, ↓hp_g_1_1, ↓hp_g_1_2, ↓hp_g_1_3, ↓hp_g_1_4, ↓hp_g_1_5, ↓hp_g_1_6, ↓hp_g_1_7, ↓hp_g_1_8, ↓hp_p_1_8, ↓hp_g_1_9, ↓hp_p_1_9, ↓hp_g_1_10, ↓hp_p_1_10, ↓hp_a_2, ↓hp_n_2, ↓hp_a_3, ↓hp_n_3, ↓hp_a_4, ↓hp_a_16, ↓hp_s_16, ↓hp_l_16, ↓hp_a_17, ↓hp_s_17, ↓hp_l_17, ham]
      try rfl
    | false =>
      have en : nls f L (a + 1) = nls f L a := by rw [nls, hn, if_neg Bool.false_ne_true]
      obtain ⟨XA', f1, f2, f3⟩ := ih (a + 1) XA (by omega) hf (by rw [en]; exact hs)
      refine ⟨XA', ?_, f2, f3⟩
      rw [hn, if_neg Bool.false_ne_true] at ham
      rw [← f1, en, eb_X11_findUnlike_1]
      clear ih hf hv hs f1 f2 f3 hn en
      generalize (nls f L a).length = U at *
      generalize min sz 212 = M at *
      simp (disch := (first | assumption | (unfold i32; omega) | (unfold i64; omega) | omega)) only [↓reduceIte, ki_0, ki_1, ki_2, ki_3, ki_4, ki_5, ki_6, ki_7, ki_8, ki_9, ki_10, ki_11, ki_12, ki_13, ki_14, ki_15, ki_20, ki_21, ki_30, ki_31, ki_40, ki_41, ki_50, ki_51, ki_60, ki_63, ki_64, ki_65, ki_100, ki_158, ki_160, ki_200, ki_212, ki_1000, ki_2000, ki_2001, ki_5000, ki_10000, ki_10001, ki_100000, ki_200000, ki_1000000, ki_2000000, ki_3000000, iO_neg, iO_add, iO_sub, iO_mul, kn_4, kn_8, kn_10, kn_20, kn_24, kn_40, kn_41, kn_50, kn_60, kn_158, kn_160, kn_200, kn_212, kn_2001, tn_lt, fn_lt, tn_le, fn_le, tn_eq, fn_eq, x_lt, x_le, x_eq, x_ix, x_nat, t_lt, f_lt, t_le, f_le, t_eq, f_eq, eq_self, and_self, true_and, and_true, false_and, and_false, if_true, if_false, Int.toNat_natCast, bI_s, bL_s, bA_s, bA_n, bV_s, mq_s, mq_n, en_le, bl_0, bl_1, u_eq, u_ne, w_eq, w_ne, v_eq, v_ne, ↓hp_cc_1, ↓hp_g_1_0, ↓hp_g_1_1, ↓hp_g_1_2, ↓hp_g_1_3, ↓hp_g_1_4, ↓hp_g_1_5, ↓hp_g_1_6, ↓hp_g_1_7, ↓hp_g_1_8, ↓hp_p_1_8, ↓hp_g_1_9, ↓hp_p_1_9, ↓hp_g_1_10, ↓hp_p_1_10, ↓hp_a_2, ↓hp_n_2, ↓hp_a_3, ↓hp_n_3, ↓hp_a_4, ↓hp_a_16, ↓hp_s_16, ↓hp_l_16, ↓hp_a_17, ↓hp_s_17, ↓hp_l_17, ham]
      try rfl
theorem x_parts4 {XA : Nat → Nat → Int32} (hL1 : 1 ≤ L) (hL : L ≤ 12) (hsz : sz ≤ 10001) (hf : ∀ i, i < min sz 212 → XA 8 i = iO (f i)) (hv : ∀ i, i < sz → 0 ≤ f i ∧ f i ≤ 100) (hs : ∀ (t s : Nat), (nls f L (pcn sz L))[t]? = some s → XA 9 t = iO (s : Int)) : ∀ (j i : Nat), i + j = (nls f L (pcn sz L)).length → b_X11_parts_4 sc (d + 1) 1 (iO (L : Int)) (iO (((nls f L (pcn sz L)).length : Nat) : Int)) (iO ((tb (fun t => bwd f L ((nls f L (pcn sz L))[t]?.getD 0)) i : Nat) : Int)) (iO (i : Int)) (hp XI XA XP XC MI MA ML D) = some (some (.int (iO ((tb (fun a => nwa f L a && bwd f L a) (pcn sz L) : Nat) : Int))), hp XI XA XP XC MI MA ML D) := by
  have hp1 : pcn sz L ≤ 200 := Nat.min_le_left _ _
  have hlen : (nls f L (pcn sz L)).length ≤ 200 := by
    have := nls_len (f := f) (L := L) (pcn sz L)
    have := tb_le (nwa f L) (pcn sz L)
    omega
  intro j
  induction j with
  | zero =>
    intro i hi
    obtain rfl : i = (nls f L (pcn sz L)).length := by omega
    rw [tb_nls, eb_X11_parts_4]
    have hb := tb_le (fun a => nwa f L a && bwd f L a) (pcn sz L)
    generalize (nls f L (pcn sz L)).length = U at *
    generalize tb (fun a => nwa f L a && bwd f L a) (pcn sz L) = T at *
    clear hf hv hs
    simp (disch := (first | assumption | (unfold i32; omega) | (unfold i64; omega) | omega)) only [↓reduceIte, ki_0, ki_1, ki_2, ki_3, ki_4, ki_5, ki_6, ki_7, ki_8, ki_9, ki_10, ki_11, ki_12, ki_13, ki_14, ki_15, ki_20, ki_21, ki_30, ki_31, ki_40, ki_41, ki_50, ki_51, ki_60, ki_63, ki_64, ki_65, ki_100, ki_158, ki_160, ki_200, ki_212, ki_1000, ki_2000, ki_2001, ki_5000, ki_10000, ki_10001, ki_100000, ki_200000, ki_1000000, ki_2000000, ki_3000000, iO_neg, iO_add, iO_sub, iO_mul, kn_4, kn_8, kn_10, kn_20, kn_24, kn_40, kn_41, kn_50, kn_60, kn_158, kn_160, kn_200, kn_212, kn_2001, tn_lt, fn_lt, tn_le, fn_le, tn_eq, fn_eq, x_lt, x_le, x_eq, x_ix, x_nat, t_lt, f_lt, t_le, f_le, t_eq, f_eq, eq_self, and_self, true_and, and_true, false_and, and_false, if_true, if_false, Int.toNat_natCast, bI_s, bL_s, bA_s, bA_n, bV_s, mq_s, mq_n, en_le, bl_0, bl_1, u_eq, u_ne, w_eq, w_ne, v_eq, v_ne]
  | succ j ih =>
    intro i hi
    obtain ⟨s, hs1⟩ : ∃ s, (nls f L (pcn sz L))[i]? = some s := ⟨_, List.getElem?_eq_getElem (by omega)⟩
    have hs2 := hs i s hs1
    obtain ⟨m1, m2⟩ := (nls_mem (pcn sz L)).mp (List.mem_of_getElem? hs1)
    have hsL : s + L ≤ sz := by unfold pcn at m1; omega
    have hbk := x_backw (sc := sc) (d := d) (XI := XI) (XA := XA) (XP := XP) (XC := XC) (MI := MI) (MA := MA) (ML := ML) (D := D) hL hf hv (a := s) hsL (by omega)
    have ih' := ih (i + 1) (by omega)
    have estep : tb (fun t => bwd f L ((nls f L (pcn sz L))[t]?.getD 0)) (i + 1) = tb (fun t => bwd f L ((nls f L (pcn sz L))[t]?.getD 0)) i + (bwd f L s).toNat := by
      show tb (fun t => bwd f L ((nls f L (pcn sz L))[t]?.getD 0)) i + (bwd f L ((nls f L (pcn sz L))[i]?.getD 0)).toNat = _
      rw [hs1]
      rfl
    rw [estep] at ih'
    rw [← ih', eb_X11_parts_4]
    have hb := tb_le (fun t => bwd f L ((nls f L (pcn sz L))[t]?.getD 0)) i
    generalize tb (fun t => bwd f L ((nls f L (pcn sz L))[t]?.getD 0)) i = T at *
    generalize (nls f L (pcn sz L)).length = U at *
    clear hf hv hs ih ih' estep m1 m2
    cases hq : bwd f L s with
    | true =>
      rw [hq, if_pos rfl] at hbk
      simp (disch := (first | assumption | (unfold i32; omega) | (unfold i64; omega) | omega)) only [↓reduceIte, ki_0, ki_1, ki_2, ki_3, ki_4, ki_5, ki_6, ki_7, ki_8, ki_9, ki_10, ki_11, ki_12, ki_13, ki_14, ki_15, ki_20, ki_21, ki_30, ki_31, ki_40, ki_41, ki_50, ki_51, ki_60, ki_63, ki_64, ki_65, ki_100, ki_158, ki_160, ki_200, ki_212, ki_1000, ki_2000, ki_2001, ki_5000, ki_10000, ki_10001, ki_100000, ki_200000, ki_1000000, ki_2000000, ki_3000000, iO_neg, iO_add, iO_sub, iO_mul, kn_4, kn_8, kn_10, kn_20, kn_24, kn_40, kn_41, kn_50, kn_60, kn_158, kn_160, kn_200, kn_212, kn_2001, tn_lt, fn_lt, tn_le, fn_le, tn_eq, fn_eq, x_lt, x_le, x_eq, x_ix, x_nat, t_lt, f_lt, t_le, f_le, t_eq, f_eq, eq_self, and_self, true_and, and_true, false_and, and_false, if_true, if_false, Int.toNat_natCast, bI_s, bL_s, bA_s, bA_n, bV_s, mq_s, mq_n, en_le, bl_0, bl_1, u_eq, u_ne, w_eq, w_ne, v_eq, v_ne, ↓hp_cc_1, ↓hp_g_1_0, ↓hp_g_1_1, ↓hp_g_1_2, ↓hp_g_1_3, ↓hp_g_1_4, ↓hp_g_1_5, ↓hp_g_1_6, ↓hp_g_1_7, ↓hp_g_1_8, ↓hp_p_1_8, ↓hp_g_1_9, ↓hp_p_1_9, ↓hp_g_1_10, ↓hp_p_1_10, ↓hp_a_2, ↓hp_n_2, ↓hp_a_3, ↓hp_n_3, ↓hp_a_4, ↓hp_a_16, ↓hp_s_16, ↓hp_l_16, ↓hp_a_17, ↓hp_s_17, ↓hp_l_17, hs2, hbk, Bool.toNat_true]
      try rfl
    | false =>
      rw [hq, if_neg Bool.false_ne_true] at hbk
      simp (disch := (first | assumption | (unfold i32; omega) | (unfold i64; omega) | omega)) only [↓reduceIte, ki_0, ki_1, ki_2, ki_3, ki_4, ki_5, ki_6, ki_7, ki_8, ki_9, ki_10, ki_11, ki_12, ki_13, ki_14, ki_15, ki_20, ki_21, ki_30, ki_31, ki_40, ki_41, ki_50, ki_51, ki_60, ki_63, ki_64, ki_65, ki_100, ki_158, ki_160, ki_200, ki_212, ki_1000, ki_2000, ki_2001, ki_5000, ki_10000, ki_10001, ki_100000, ki_200000, ki_1000000, ki_2000000, ki_3000000, iO_neg, iO_add, iO_sub, iO_mul, kn_4, kn_8, kn_10, kn_20, kn_24, kn_40, kn_41, kn_50, kn_60, kn_158, kn_160, kn_200, kn_212, kn_2001, tn_lt, fn_lt, tn_le, fn_le, tn_eq, fn_eq, x_lt, x_le, x_eq, x_ix, x_nat, t_lt, f_lt, t_le, f_le, t_eq, f_eq, eq_self, and_self, true_and, and_true, false_and, and_false, if_true, if_false, Int.toNat_natCast, bI_s, bL_s, bA_s, bA_n, bV_s, mq_s, mq_n, en_le, bl_0, bl_1, u_eq, u_ne, w_eq, w_ne, v_eq, v_ne, ↓hp_cc_1, ↓hp_g_1_0, ↓hp_g_1_1, ↓hp_g_1_2, ↓hp_g_1_3, ↓hp_g_1_4, ↓hp_g_1_5, ↓hp_g_1_6, ↓hp_g_1_7, ↓hp_g_1_8, ↓hp_p_1_8, ↓hp_g_1_9, ↓hp_p_1_9, ↓hp_g_1_10, ↓hp_p_1_10, ↓hp_a_2, ↓hp_n_2, ↓hp_a_3, ↓hp_n_3, ↓hp_a_4, ↓hp_a_16, ↓hp_s_16, ↓hp_l_16, ↓hp_a_17, ↓hp_s_17, ↓hp_l_17, hs2, hbk, Bool.toNat_false, Nat.add_zero]
      try rfl
end PRY
section PRZ
variable {sc : en_S} {n : Nat} {S : ST5}
theorem cs_parts (hS : OK5 S) {r L w : Int} (hr : i32 r) (hL : i32 L) (hw : i32 w) : CS S S (p_parts S r L w) (fun z => f_X11_parts sc (n + 40) 1 (iO r) (iO L) (iO w) z) := by
  obtain ⟨w1, w2⟩ := id hw
  obtain ⟨l1, l2⟩ := id hL
  unfold p_parts
  cases hq : rowq S r with
  | none =>
    apply cs_ask
    intro XI XA XP XC MI MA ML D Γ hV
    show f_X11_parts sc (n + 40) 1 (iO r) (iO L) (iO w) _ = _
    rw [e_X11_parts]
    simp (disch := (first | assumption | (unfold i32; omega) | (unfold i64; omega) | omega)) only [↓reduceIte, ki_0, ki_1, ki_2, ki_3, ki_4, ki_5, ki_6, ki_7, ki_8, ki_9, ki_10, ki_11, ki_12, ki_13, ki_14, ki_15, ki_20, ki_21, ki_30, ki_31, ki_40, ki_41, ki_50, ki_51, ki_60, ki_63, ki_64, ki_65, ki_100, ki_158, ki_160, ki_200, ki_212, ki_1000, ki_2000, ki_2001, ki_5000, ki_10000, ki_10001, ki_100000, ki_200000, ki_1000000, ki_2000000, ki_3000000, iO_neg, iO_add, iO_sub, iO_mul, kn_4, kn_8, kn_10, kn_20, kn_24, kn_40, kn_41, kn_50, kn_60, kn_158, kn_160, kn_200, kn_212, kn_2001, tn_lt, fn_lt, tn_le, fn_le, tn_eq, fn_eq, x_lt, x_le, x_eq, x_ix, x_nat, t_lt, f_lt, t_le, f_le, t_eq, f_eq, eq_self, and_self, true_and, and_true, false_and, and_false, if_true, if_false, Int.toNat_natCast, bI_s, bL_s, bA_s, bA_n, bV_s, mq_s, mq_n, en_le, bl_0, bl_1, u_eq, u_ne, w_eq, w_ne, v_eq, v_ne, ↓hp_cc_1, ↓hp_g_1_0, ↓hp_g_1_1, ↓hp_g_1_2, ↓hp_g_1_3, ↓hp_g_1_4, ↓hp_g_1_5, ↓hp_g_1_6, ↓hp_g_1_7, ↓hp_g_1_8, ↓hp_p_1_8, ↓hp_g_1_9, ↓hp_p_1_9, ↓hp_g_1_10, ↓hp_p_1_10, ↓hp_a_2, ↓hp_n_2, ↓hp_a_3, ↓hp_n_3, ↓hp_a_4, x_rowAt0 hV hS hr hq]
  | some q =>
    obtain ⟨k, rfl, hk, hq2⟩ := rowq_some hq
    have hR := hS.2.2.2.1 q (List.mem_of_getElem? hq2)
    have hsz : q.2.2.1 ≤ 10001 := hR.2.2.2.2.1
    have hva := hR.2.2.2.2.2.1
    dsimp only
    by_cases g : 1 ≤ L ∧ L ≤ 12 ∧ 0 ≤ w ∧ w ≤ 1
    · rw [if_pos g]
      obtain ⟨g1, g2, g3, g4⟩ := g
      obtain ⟨y, rfl⟩ : ∃ y : Nat, L = y := ⟨L.toNat, by omega⟩
      rw [Int.toNat_natCast]
      intro XI XA XP XC MI MA ML D Γ hV
      obtain ⟨p, g, c1, c2, c3, c4, c5, c6, c7, c8, c9⟩ := hV.2.2.2.2.2.1 k q hq2
      have h9 := (hV.2.2.2.2.2.2.2.2 p g c2).1
      have hrow := x_rowAt1 (sc := sc) (n := n + 38) (XC := XC) (MI := MI) (MA := MA) (ML := ML) hV hS hq2 c1
      obtain ⟨XA1, D1, f1, f2, f3, f4, f5⟩ := x_rps (sc := sc) c2 h9 (m := n + 38) (by omega) XI XP XC MI MA ML 212 0 XA D (by omega) hV.2.2.2.2.2.2.2.2 (by omega) (fun t ht => by omega)
      rw [c7] at f1
      rw [c7, c8] at f5
      obtain ⟨XA2, e1, e2, e3⟩ := x_unlike (sc := sc) (d := n + 36) (XI := XI) (XP := XP) (XC := XC) (MI := MI) (MA := MA) (ML := ML) (D := D1) (L := y) (by omega) (by omega) hsz hva (pcn q.2.2.1 y) 0 XA1 (by omega) f5 (fun t s h => by cases h)
      have f1' : f_X11_readPartSteps sc (n + 39) 1 (p + 51) (hp XI XA XP XC MI MA ML D) = _ := (e_X11_readPartSteps _ _ _ _ _).trans f1
      have e1' : f_X11_findUnlike sc (n + 39) 1 (iO ((min q.2.2.1 212 : Nat) : Int)) (iO (y : Int)) (hp XI XA1 XP XC MI MA ML D1) = _ := (e_X11_findUnlike _ _ _ _ _ _).trans e1
      have h8 : ∀ i, i < min q.2.2.1 212 → XA2 8 i = iO (q.2.2.2 i) := fun i hi => by rw [e2 8 (by decide)]; exact f5 i hi
      have hp4 := x_parts4 (sc := sc) (d := n + 38) (XI := XI) (XP := XP) (XC := XC) (MI := MI) (MA := MA) (ML := ML) (D := D1) (L := y) (by omega) (by omega) hsz h8 hva e3 (nls q.2.2.2 y (pcn q.2.2.1 y)).length 0 (by omega)
      have hp4 : b_X11_parts_4 sc (n + 39) 1 (iO (y : Int)) (iO (((nls q.2.2.2 y (pcn q.2.2.1 y)).length : Nat) : Int)) (iO 0) (iO 0) (hp XI XA2 XP XC MI MA ML D1) = _ := hp4
      refine ⟨XI, XA2, XP, XC, D1, Γ, ?_, (hV.step f2 f3.2.2.1).scr (fun _ _ => rfl) (fun i hi => by rw [e2 i (by omega), f4 i (by omega)]), ⟨by rw [f3.1]; omega, by rw [f3.2.1]; omega⟩⟩
      show f_X11_parts sc (n + 40) 1 (iO (k : Int)) (iO (y : Int)) (iO w) _ = _
      rw [e_X11_parts]
      have hlen := nls_len (f := q.2.2.2) (L := y) (pcn q.2.2.1 y)
      have ecg : ∀ w : Int, w = 0 → tb (fun a => nwa q.2.2.2 y a && (decide (w = 0) || bwd q.2.2.2 y a)) (pcn q.2.2.1 y) = (nls q.2.2.2 y (pcn q.2.2.1 y)).length := fun w hw0 => by
        rw [hlen]
        exact tb_cg _ (fun i _ => by rw [decide_eq_true hw0, Bool.true_or, Bool.and_true])
      have ecg1 : ∀ w : Int, w = 1 → tb (fun a => nwa q.2.2.2 y a && (decide (w = 0) || bwd q.2.2.2 y a)) (pcn q.2.2.1 y) = tb (fun a => nwa q.2.2.2 y a && bwd q.2.2.2 y a) (pcn q.2.2.1 y) := fun w hw0 => tb_cg _ (fun i _ => by rw [decide_eq_false (show ¬ w = 0 by omega), Bool.false_or])
      have hb1 := tb_le (nwa q.2.2.2 y) (pcn q.2.2.1 y)
      have hb2 := tb_le (fun a => nwa q.2.2.2 y a && bwd q.2.2.2 y a) (pcn q.2.2.1 y)
      have hp1 : pcn q.2.2.1 y ≤ 200 := Nat.min_le_left _ _
      have hmn : min q.2.2.1 212 ≤ 212 := Nat.min_le_right _ _
      rcases (show w = 0 ∨ w = 1 by omega) with h0 | h0
      · rw [ecg w h0]
        subst h0
        clear f1 f2 f3 f4 f5 e1 e2 e3 h8 hV hva hp4 ecg ecg1 c9
        generalize (nls q.2.2.2 y (pcn q.2.2.1 y)).length = U at *
        generalize min q.2.2.1 212 = M at *
        simp (disch := (first | assumption | (unfold i32; omega) | (unfold i64; omega) | omega)) only [↓reduceIte, ki_0, ki_1, ki_2, ki_3, ki_4, ki_5, ki_6, ki_7, ki_8, ki_9, ki_10, ki_11, ki_12, ki_13, ki_14, ki_15, ki_20, ki_21, ki_30, ki_31, ki_40, ki_41, ki_50, ki_51, ki_60, ki_63, ki_64, ki_65, ki_100, ki_158, ki_160, ki_200, ki_212, ki_1000, ki_2000, ki_2001, ki_5000, ki_10000, ki_10001, ki_100000, ki_200000, ki_1000000, ki_2000000, ki_3000000, iO_neg, iO_add, iO_sub, iO_mul, kn_4, kn_8, kn_10, kn_20, kn_24, kn_40, kn_41, kn_50, kn_60, kn_158, kn_160, kn_200, kn_212, kn_2001, tn_lt, fn_lt, tn_le, fn_le, tn_eq, fn_eq, x_lt, x_le, x_eq, x_ix, x_nat, t_lt, f_lt, t_le, f_le, t_eq, f_eq, eq_self, and_self, true_and, and_true, false_and, and_false, if_true, if_false, Int.toNat_natCast, bI_s, bL_s, bA_s, bA_n, bV_s, mq_s, mq_n, en_le, bl_0, bl_1, u_eq, u_ne, w_eq, w_ne, v_eq, v_ne, ↓hp_cc_1, ↓hp_g_1_0, ↓hp_g_1_1, ↓hp_g_1_2, ↓hp_g_1_3, ↓hp_g_1_4, ↓hp_g_1_5, ↓hp_g_1_6, ↓hp_g_1_7, ↓hp_g_1_8, ↓hp_p_1_8, ↓hp_g_1_9, ↓hp_p_1_9, ↓hp_g_1_10, ↓hp_p_1_10, ↓hp_a_2, ↓hp_n_2, ↓hp_a_3, ↓hp_n_3, ↓hp_a_4, hrow, f1', e1']
      · rw [ecg1 w h0]
        subst h0
        clear f1 f2 f3 f4 f5 e1 e2 e3 h8 hV hva ecg ecg1 c9
        generalize (nls q.2.2.2 y (pcn q.2.2.1 y)).length = U at *
        generalize min q.2.2.1 212 = M at *
        simp (disch := (first | assumption | (unfold i32; omega) | (unfold i64; omega) | omega)) only [↓reduceIte, ki_0, ki_1, ki_2, ki_3, ki_4, ki_5, ki_6, ki_7, ki_8, ki_9, ki_10, ki_11, ki_12, ki_13, ki_14, ki_15, ki_20, ki_21, ki_30, ki_31, ki_40, ki_41, ki_50, ki_51, ki_60, ki_63, ki_64, ki_65, ki_100, ki_158, ki_160, ki_200, ki_212, ki_1000, ki_2000, ki_2001, ki_5000, ki_10000, ki_10001, ki_100000, ki_200000, ki_1000000, ki_2000000, ki_3000000, iO_neg, iO_add, iO_sub, iO_mul, kn_4, kn_8, kn_10, kn_20, kn_24, kn_40, kn_41, kn_50, kn_60, kn_158, kn_160, kn_200, kn_212, kn_2001, tn_lt, fn_lt, tn_le, fn_le, tn_eq, fn_eq, x_lt, x_le, x_eq, x_ix, x_nat, t_lt, f_lt, t_le, f_le, t_eq, f_eq, eq_self, and_self, true_and, and_true, false_and, and_false, if_true, if_false, Int.toNat_natCast, bI_s, bL_s, bA_s, bA_n, bV_s, mq_s, mq_n, en_le, bl_0, bl_1, u_eq, u_ne, w_eq, w_ne, v_eq, v_ne, ↓hp_cc_1, ↓hp_g_1_0, ↓hp_g_1_1, ↓hp_g_1_2, ↓hp_g_1_3, ↓hp_g_1_4, ↓hp_g_1_5, ↓hp_g_1_6, ↓hp_g_1_7, ↓hp_g_1_8, ↓hp_p_1_8, ↓hp_g_1_9, ↓hp_p_1_9, ↓hp_g_1_10, ↓hp_p_1_10, ↓hp_a_2, ↓hp_n_2, ↓hp_a_3, ↓hp_n_3, ↓hp_a_4, hrow, f1', e1', hp4]
    · rw [if_neg g]
      apply cs_ask
      intro XI XA XP XC MI MA ML D Γ hV
      obtain ⟨p, g', c1, -⟩ := hV.2.2.2.2.2.1 k q hq2
      have hrow := x_rowAt1 (sc := sc) (n := n + 38) (XC := XC) (MI := MI) (MA := MA) (ML := ML) hV hS hq2 c1
      show f_X11_parts sc (n + 40) 1 (iO (k : Int)) (iO L) (iO w) _ = _
      rw [e_X11_parts]
      clear hV hva
      by_cases t1 : L < 1
      · clear g; simp (disch := (first | assumption | (unfold i32; omega) | (unfold i64; omega) | omega)) only [↓reduceIte, ki_0, ki_1, ki_2, ki_3, ki_4, ki_5, ki_6, ki_7, ki_8, ki_9, ki_10, ki_11, ki_12, ki_13, ki_14, ki_15, ki_20, ki_21, ki_30, ki_31, ki_40, ki_41, ki_50, ki_51, ki_60, ki_63, ki_64, ki_65, ki_100, ki_158, ki_160, ki_200, ki_212, ki_1000, ki_2000, ki_2001, ki_5000, ki_10000, ki_10001, ki_100000, ki_200000, ki_1000000, ki_2000000, ki_3000000, iO_neg, iO_add, iO_sub, iO_mul, kn_4, kn_8, kn_10, kn_20, kn_24, kn_40, kn_41, kn_50, kn_60, kn_158, kn_160, kn_200, kn_212, kn_2001, tn_lt, fn_lt, tn_le, fn_le, tn_eq, fn_eq, x_lt, x_le, x_eq, x_ix, x_nat, t_lt, f_lt, t_le, f_le, t_eq, f_eq, eq_self, and_self, true_and, and_true, false_and, and_false, if_true, if_false, Int.toNat_natCast, bI_s, bL_s, bA_s, bA_n, bV_s, mq_s, mq_n, en_le, bl_0, bl_1, u_eq, u_ne, w_eq, w_ne, v_eq, v_ne, ↓hp_cc_1, ↓hp_g_1_0, ↓hp_g_1_1, ↓hp_g_1_2, ↓hp_g_1_3, ↓hp_g_1_4, ↓hp_g_1_5, ↓hp_g_1_6, ↓hp_g_1_7, ↓hp_g_1_8, ↓hp_p_1_8, ↓hp_g_1_9, ↓hp_p_1_9, ↓hp_g_1_10, ↓hp_p_1_10, ↓hp_a_2, ↓hp_n_2, ↓hp_a_3, ↓hp_n_3, ↓hp_a_4, hrow]
      by_cases t2 : 12 < L
      · clear g; simp (disch := (first | assumption | (unfold i32; omega) | (unfold i64; omega) | omega)) only [↓reduceIte, ki_0, ki_1, ki_2, ki_3, ki_4, ki_5, ki_6, ki_7, ki_8, ki_9, ki_10, ki_11, ki_12, ki_13, ki_14, ki_15, ki_20, ki_21, ki_30, ki_31, ki_40, ki_41, ki_50, ki_51, ki_60, ki_63, ki_64, ki_65, ki_100, ki_158, ki_160, ki_200, ki_212, ki_1000, ki_2000, ki_2001, ki_5000, ki_10000, ki_10001, ki_100000, ki_200000, ki_1000000, ki_2000000, ki_3000000, iO_neg, iO_add, iO_sub, iO_mul, kn_4, kn_8, kn_10, kn_20, kn_24, kn_40, kn_41, kn_50, kn_60, kn_158, kn_160, kn_200, kn_212, kn_2001, tn_lt, fn_lt, tn_le, fn_le, tn_eq, fn_eq, x_lt, x_le, x_eq, x_ix, x_nat, t_lt, f_lt, t_le, f_le, t_eq, f_eq, eq_self, and_self, true_and, and_true, false_and, and_false, if_true, if_false, Int.toNat_natCast, bI_s, bL_s, bA_s, bA_n, bV_s, mq_s, mq_n, en_le, bl_0, bl_1, u_eq, u_ne, w_eq, w_ne, v_eq, v_ne, ↓hp_cc_1, ↓hp_g_1_0, ↓hp_g_1_1, ↓hp_g_1_2, ↓hp_g_1_3, ↓hp_g_1_4, ↓hp_g_1_5, ↓hp_g_1_6, ↓hp_g_1_7, ↓hp_g_1_8, ↓hp_p_1_8, ↓hp_g_1_9, ↓hp_p_1_9, ↓hp_g_1_10, ↓hp_p_1_10, ↓hp_a_2, ↓hp_n_2, ↓hp_a_3, ↓hp_n_3, ↓hp_a_4, hrow]
      by_cases t3 : w < 0
      · clear g; simp (disch := (first | assumption | (unfold i32; omega) | (unfold i64; omega) | omega)) only [↓reduceIte, ki_0, ki_1, ki_2, ki_3, ki_4, ki_5, ki_6, ki_7, ki_8, ki_9, ki_10, ki_11, ki_12, ki_13, ki_14, ki_15, ki_20, ki_21, ki_30, ki_31, ki_40, ki_41, ki_50, ki_51, ki_60, ki_63, ki_64, ki_65, ki_100, ki_158, ki_160, ki_200, ki_212, ki_1000, ki_2000, ki_2001, ki_5000, ki_10000, ki_10001, ki_100000, ki_200000, ki_1000000, ki_2000000, ki_3000000, iO_neg, iO_add, iO_sub, iO_mul, kn_4, kn_8, kn_10, kn_20, kn_24, kn_40, kn_41, kn_50, kn_60, kn_158, kn_160, kn_200, kn_212, kn_2001, tn_lt, fn_lt, tn_le, fn_le, tn_eq, fn_eq, x_lt, x_le, x_eq, x_ix, x_nat, t_lt, f_lt, t_le, f_le, t_eq, f_eq, eq_self, and_self, true_and, and_true, false_and, and_false, if_true, if_false, Int.toNat_natCast, bI_s, bL_s, bA_s, bA_n, bV_s, mq_s, mq_n, en_le, bl_0, bl_1, u_eq, u_ne, w_eq, w_ne, v_eq, v_ne, ↓hp_cc_1, ↓hp_g_1_0, ↓hp_g_1_1, ↓hp_g_1_2, ↓hp_g_1_3, ↓hp_g_1_4, ↓hp_g_1_5, ↓hp_g_1_6, ↓hp_g_1_7, ↓hp_g_1_8, ↓hp_p_1_8, ↓hp_g_1_9, ↓hp_p_1_9, ↓hp_g_1_10, ↓hp_p_1_10, ↓hp_a_2, ↓hp_n_2, ↓hp_a_3, ↓hp_n_3, ↓hp_a_4, hrow]
      · have t4 : 1 < w := by omega
        clear g; simp (disch := (first | assumption | (unfold i32; omega) | (unfold i64; omega) | omega)) only [↓reduceIte, ki_0, ki_1, ki_2, ki_3, ki_4, ki_5, ki_6, ki_7, ki_8, ki_9, ki_10, ki_11, ki_12, ki_13, ki_14, ki_15, ki_20, ki_21, ki_30, ki_31, ki_40, ki_41, ki_50, ki_51, ki_60, ki_63, ki_64, ki_65, ki_100, ki_158, ki_160, ki_200, ki_212, ki_1000, ki_2000, ki_2001, ki_5000, ki_10000, ki_10001, ki_100000, ki_200000, ki_1000000, ki_2000000, ki_3000000, iO_neg, iO_add, iO_sub, iO_mul, kn_4, kn_8, kn_10, kn_20, kn_24, kn_40, kn_41, kn_50, kn_60, kn_158, kn_160, kn_200, kn_212, kn_2001, tn_lt, fn_lt, tn_le, fn_le, tn_eq, fn_eq, x_lt, x_le, x_eq, x_ix, x_nat, t_lt, f_lt, t_le, f_le, t_eq, f_eq, eq_self, and_self, true_and, and_true, false_and, and_false, if_true, if_false, Int.toNat_natCast, bI_s, bL_s, bA_s, bA_n, bV_s, mq_s, mq_n, en_le, bl_0, bl_1, u_eq, u_ne, w_eq, w_ne, v_eq, v_ne, ↓hp_cc_1, ↓hp_g_1_0, ↓hp_g_1_1, ↓hp_g_1_2, ↓hp_g_1_3, ↓hp_g_1_4, ↓hp_g_1_5, ↓hp_g_1_6, ↓hp_g_1_7, ↓hp_g_1_8, ↓hp_p_1_8, ↓hp_g_1_9, ↓hp_p_1_9, ↓hp_g_1_10, ↓hp_p_1_10, ↓hp_a_2, ↓hp_n_2, ↓hp_a_3, ↓hp_n_3, ↓hp_a_4, hrow]
end PRZ
-- FILE 99b
/-! THE GAPS by sorts, told purely; the class finds them -/
def gfnd (s : Nat → Int) : Nat → Nat → Nat
  | 0, p => p
  | j + 1, p => if s p < 0 then gfnd s j (p + 1) else p
theorem gfnd_bd {s : Nat → Int} : ∀ (j p : Nat), p ≤ gfnd s j p ∧ gfnd s j p ≤ p + j
  | 0, p => ⟨Nat.le_refl _, by show p ≤ p + 0; omega⟩
  | j + 1, p => by
    rw [gfnd]
    split
    · have := gfnd_bd (s := s) j (p + 1)
      omega
    · omega
def shf (p k : Nat) (f : Nat → Int) (t : Nat) : Int := if p < t ∧ t ≤ k then f (t - 1) else f t
abbrev G4 : Type := Nat × (Nat → Int) × (Nat → Int) × (Nat → Int)
noncomputable def gpl (l : SL4) (gx gy : Int) (st : G4) : Nat := gfnd (fun t => sgn l (gx - st.2.2.1 t) (gy - st.2.2.2 t)) st.1 0
noncomputable def gadd (l : SL4) (gx gy : Int) (st : G4) : G4 :=
  if gpl l gx gy st < st.1 ∧ sgn l (gx - st.2.2.1 (gpl l gx gy st)) (gy - st.2.2.2 (gpl l gx gy st)) = 0 then (st.1, va_up st.2.1 (gpl l gx gy st) (st.2.1 (gpl l gx gy st) + 1), st.2.2.1, st.2.2.2)
  else (st.1 + 1, va_up (shf (gpl l gx gy st) st.1 st.2.1) (gpl l gx gy st) 1, va_up (shf (gpl l gx gy st) st.1 st.2.2.1) (gpl l gx gy st) gx, va_up (shf (gpl l gx gy st) st.1 st.2.2.2) (gpl l gx gy st) gy)
noncomputable def gst (l : SL4) (gx gy : Nat → Int) : Nat → G4
  | 0 => (0, fun _ => 0, fun _ => 0, fun _ => 0)
  | i + 1 => gadd l (gx i) (gy i) (gst l gx gy i)
/-- bounds of a state of sorts -/
def GB (st : G4) (i : Nat) : Prop := st.1 ≤ i ∧ ∀ t, t < st.1 → 0 ≤ st.2.1 t ∧ st.2.1 t ≤ i ∧ -1181 ≤ st.2.2.1 t ∧ st.2.2.1 t ≤ 1181 ∧ -60 ≤ st.2.2.2 t ∧ st.2.2.2 t ≤ 60
theorem GB.add {l : SL4} {st : G4} {i : Nat} (h : GB st i) {gx gy : Int} (h1 : -1181 ≤ gx) (h2 : gx ≤ 1181) (h3 : -60 ≤ gy) (h4 : gy ≤ 60) : GB (gadd l gx gy st) (i + 1) := by
  obtain ⟨a1, a2⟩ := h
  have hb := gfnd_bd (s := fun t => sgn l (gx - st.2.2.1 t) (gy - st.2.2.2 t)) st.1 0
  have hb : gpl l gx gy st ≤ st.1 := by unfold gpl; omega
  unfold gadd
  generalize gpl l gx gy st = p at *
  split
  · rename_i g
    refine ⟨by show st.1 ≤ i + 1; omega, fun t ht => ?_⟩
    have ht : t < st.1 := ht
    have := a2 t ht
    show 0 ≤ va_up st.2.1 p (st.2.1 p + 1) t ∧ va_up st.2.1 p (st.2.1 p + 1) t ≤ ((i + 1 : Nat) : Int) ∧ _
    by_cases e : t = p
    · rw [w_eq e]
      subst e
      refine ⟨by omega, by omega, this.2.2⟩
    · rw [w_ne e]
      exact ⟨by omega, by omega, this.2.2⟩
  · refine ⟨by show st.1 + 1 ≤ i + 1; omega, fun t ht => ?_⟩
    have ht : t < st.1 + 1 := ht
    show 0 ≤ va_up (shf p st.1 st.2.1) p 1 t ∧ va_up (shf p st.1 st.2.1) p 1 t ≤ ((i + 1 : Nat) : Int) ∧ -1181 ≤ va_up (shf p st.1 st.2.2.1) p gx t ∧ va_up (shf p st.1 st.2.2.1) p gx t ≤ 1181 ∧ -60 ≤ va_up (shf p st.1 st.2.2.2) p gy t ∧ va_up (shf p st.1 st.2.2.2) p gy t ≤ 60
    by_cases e : t = p
    · rw [w_eq e, w_eq e, w_eq e]
      omega
    · rw [w_ne e, w_ne e, w_ne e]
      unfold shf
      by_cases c : p < t ∧ t ≤ st.1
      · rw [if_pos c, if_pos c, if_pos c]
        have := a2 (t - 1) (by omega)
        omega
      · rw [if_neg c, if_neg c, if_neg c]
        have := a2 t (by omega)
        omega
theorem gst_bd {l : SL4} {gx gy : Nat → Int} {n : Nat} (h : ∀ i, i < n → -1181 ≤ gx i ∧ gx i ≤ 1181 ∧ -60 ≤ gy i ∧ gy i ≤ 60) : ∀ i, i ≤ n → GB (gst l gx gy i) i
  | 0, _ => ⟨Nat.le_refl _, fun t ht => by have : t < 0 := ht; omega⟩
  | i + 1, hi => by
    obtain ⟨a, b, c, d⟩ := h i (by omega)
    exact (gst_bd h i (by omega)).add a b c d
/-- where a number stands -/
def inv (o : Nat → Nat) (a : Nat) : Nat → Nat
  | 0 => 0
  | t + 1 => if o t = a then t else inv o a t
theorem inv_at {o : Nat → Nat} {a : Nat} : ∀ n, (∃ t, t < n ∧ o t = a) → inv o a n < n ∧ o (inv o a n) = a
  | 0, ⟨t, h, _⟩ => by omega
  | n + 1, ⟨t, h1, h2⟩ => by
    rw [inv]
    split
    · rename_i e
      exact ⟨by omega, e⟩
    · rename_i e
      have : t ≠ n := fun q => e (by rw [← q]; exact h2)
      obtain ⟨q1, q2⟩ := inv_at n ⟨t, by omega, h2⟩
      exact ⟨by omega, q2⟩
theorem inv_of {o : Nat → Nat} {n t : Nat} (hp : perm o n) (ht : t < n) : inv o (o t) n = t := by
  obtain ⟨q1, q2⟩ := inv_at n ⟨t, ht, rfl⟩
  exact hp.2.1 _ _ q1 ht q2
def nxo (o : Nat → Nat) (n t : Nat) : Nat := if t + 1 < n then o (t + 1) else o 0
def nxt (o : Nat → Nat) (n a : Nat) : Nat := nxo o n (inv o a n)
noncomputable def gxf (l : SL4) (n a : Nat) : Int := WN l a - WN l (nxt (ords l n) n a) + (if inv (ords l n) a n + 1 = n then 1 else 0)
noncomputable def gyf (l : SL4) (n a : Nat) : Int := (nxt (ords l n) n a : Int) - (a : Int)
noncomputable def gsts (l : SL4) (n : Nat) : G4 := gst l (gxf l n) (gyf l n) n
theorem nxt_lt {o : Nat → Nat} {n t : Nat} (hp : perm o n) (ht : t < n) : nxo o n t < n := by
  unfold nxo
  split
  · exact hp.1 _ (by omega)
  · exact hp.1 0 (by omega)
theorem gf_bd {l : SL4} (hS : SL l.1 l.2.1 l.2.2.1 l.2.2.2) {n a : Nat} (hn : n ≤ 60) (ha : a < n) : -1181 ≤ gxf l n a ∧ gxf l n a ≤ 1181 ∧ -60 ≤ gyf l n a ∧ gyf l n a ≤ 60 ∧ nxt (ords l n) n a < n := by
  have hp := ordr_perm (ah := ahd l) n
  obtain ⟨q1, q2⟩ := inv_at (o := ords l n) (a := a) n (hp.2.2 a ha)
  have h1 : nxt (ords l n) n a < n := nxt_lt (o := ords l n) hp q1
  have b1 := WN_bd hS (N := a) (by omega)
  have b2 := WN_bd hS (N := nxt (ords l n) n a) (by omega)
  unfold gxf gyf
  refine ⟨?_, ?_, by omega, by omega, h1⟩
  · split <;> omega
  · split <;> omega
section GPX
variable {sc : en_S} {d : Nat} {XP : Nat → Nat → Option Nat} {MI : Nat → Int32} {MA : Nat → Nat → Int32} {ML : Nat → Nat → Int64} {D : en_H} {sp : Nat} {l : SL4}
/-- the class holds a state of sorts -/
def GX (st : G4) (XI : Nat → Int32) (XA : Nat → Nat → Int32) : Prop := XI 14 = iO (st.1 : Int) ∧ ∀ t, t < st.1 → XA 3 t = iO (st.2.1 t) ∧ XA 4 t = iO (st.2.2.1 t) ∧ XA 5 t = iO (st.2.2.2 t)
theorem x_beside {XI : Nat → Int32} {XA : Nat → Nat → Int32} (hs : SlO D sp l) {p : Nat} (hp60 : p < 60) {gx gy x y : Int} (h1 : -1181 ≤ gx) (h2 : gx ≤ 1181) (h3 : -60 ≤ gy) (h4 : gy ≤ 60) (h5 : -1181 ≤ x) (h6 : x ≤ 1181) (h7 : -60 ≤ y) (h8 : y ≤ 60) (t4 : XA 4 p = iO x) (t5 : XA 5 p = iO y) : f_X0_signBeside sc (d + 3) 9 (iO (p : Int)) (iO gx) (iO gy) (hp XI XA XP (.ref (sp + 51)) MI MA ML D) = some (some (.int (iO (sgn l (gx - x) (gy - y)))), hp XI XA XP (.ref (sp + 51)) MI MA ML D) := by
  have hw := x_sum (sc := sc) (n := d) (XI := XI) (XA := XA) (XP := XP) (XC := .ref (sp + 51)) (MI := MI) (MA := MA) (ML := ML) hs (x := gx - x) (y := gy - y) (by omega) (by omega) (by omega) (by omega)
  have hw : f_X7_signOfSum sc (d + 2) (sp + 51) (lO (gx - x)) (lO (gy - y)) (hp XI XA XP (.ref (sp + 51)) MI MA ML D) = some (some (.int (iO (sgn l (gx - x) (gy - y)))), hp XI XA XP (.ref (sp + 51)) MI MA ML D) := hw
  obtain ⟨a, b, c, e, t, qs, ls, k1, -⟩ := hs
  have gc : ∀ (g : Nat → Option en_R), en_cc (hp XI XA XP (.ref (sp + 51)) MI MA ML D) (sp + 51) g = g 6 := fun g => d_cc k1 g
  rw [e_X0_signBeside]
  generalize sgn l (gx - x) (gy - y) = s at *
  simp (disch := (first | assumption | (unfold i32; omega) | (unfold i64; omega) | omega)) only [↓reduceIte, ki_0, ki_1, ki_2, ki_3, ki_4, ki_5, ki_6, ki_7, ki_8, ki_9, ki_10, ki_11, ki_12, ki_13, ki_14, ki_15, ki_20, ki_21, ki_30, ki_31, ki_40, ki_41, ki_50, ki_51, ki_60, ki_63, ki_64, ki_65, ki_100, ki_158, ki_160, ki_200, ki_212, ki_1000, ki_2000, ki_2001, ki_5000, ki_10000, ki_10001, ki_100000, ki_200000, ki_1000000, ki_2000000, ki_3000000, iO_neg, iO_add, iO_sub, iO_mul, kn_4, kn_8, kn_10, kn_20, kn_24, kn_40, kn_41, kn_50, kn_60, kn_158, kn_160, kn_200, kn_212, kn_2001, tn_lt, fn_lt, tn_le, fn_le, tn_eq, fn_eq, x_lt, x_le, x_eq, x_ix, x_nat, t_lt, f_lt, t_le, f_le, t_eq, f_eq, eq_self, and_self, true_and, and_true, false_and, and_false, if_true, if_false, Int.toNat_natCast, bI_s, bL_s, bA_s, bA_n, bV_s, mq_s, mq_n, en_le, bl_0, bl_1, u_eq, u_ne, w_eq, w_ne, v_eq, v_ne, ↓hp_cc_9, ↓hp_g_9_0, ↓hp_g_9_1, ↓hp_g_9_2, ↓hp_g_9_3, ↓hp_g_9_4, ↓hp_p_9_4, ↓hp_g_9_5, ↓hp_g_9_6, ↓hp_p_9_7, ↓hp_g_9_7, ↓hp_a_10, ↓hp_s_10, ↓hp_l_10, ↓hp_a_11, ↓hp_s_11, ↓hp_l_11, ↓hp_a_12, ↓hp_s_12, ↓hp_l_12, ↓hp_a_13, ↓hp_s_13, ↓hp_l_13, ↓hp_a_14, ↓hp_s_14, ↓hp_l_14, ↓hp_a_15, ↓hp_s_15, ↓hp_l_15, t4, t5, iO_wide, gc, hw]
theorem x_insert {gx gy : Int} {st : G4} {p : Nat} (hp0 : p ≤ st.1) (hk : st.1 < 60) : ∀ (j q : Nat) (XI : Nat → Int32) (XA : Nat → Nat → Int32), p + j = q → q ≤ st.1 → XI 14 = iO (st.1 : Int) → (∀ t, t ≤ st.1 → (q < t → XA 3 t = iO (st.2.1 (t - 1)) ∧ XA 4 t = iO (st.2.2.1 (t - 1)) ∧ XA 5 t = iO (st.2.2.2 (t - 1))) ∧ (t < q → XA 3 t = iO (st.2.1 t) ∧ XA 4 t = iO (st.2.2.1 t) ∧ XA 5 t = iO (st.2.2.2 t))) →
    ∃ XI' XA', b_X0_insertSort_1 sc d 9 (iO (p : Int)) (iO gx) (iO gy) (iO (q : Int)) (hp XI XA XP (.ref (sp + 51)) MI MA ML D) = some (none, hp XI' XA' XP (.ref (sp + 51)) MI MA ML D) ∧ GX (st.1 + 1, va_up (shf p st.1 st.2.1) p 1, va_up (shf p st.1 st.2.2.1) p gx, va_up (shf p st.1 st.2.2.2) p gy) XI' XA' ∧ (∀ s, s ≠ 14 → XI' s = XI s) ∧ (∀ m, m ≠ 3 → m ≠ 4 → m ≠ 5 → XA' m = XA m) := by
  intro j
  induction j with
  | zero =>
    intro q XI XA hq hq2 h14 hR
    obtain rfl : q = p := by omega
    refine ⟨va_up XI 14 (iO ((st.1 : Int) + 1)), va_up (va_up (va_up XA 3 (upd (XA 3) q (iO 1))) 4 (upd (XA 4) q (iO gx))) 5 (upd (XA 5) q (iO gy)), ?_, ⟨rfl, ?_⟩, fun s hs => w_ne hs, fun m h3 h4 h5 => by rw [w_ne h5, w_ne h4, w_ne h3]⟩
    · rw [eb_X0_insertSort_1]
      clear hR
      simp (disch := (first | assumption | (unfold i32; omega) | (unfold i64; omega) | omega)) only [↓reduceIte, ki_0, ki_1, ki_2, ki_3, ki_4, ki_5, ki_6, ki_7, ki_8, ki_9, ki_10, ki_11, ki_12, ki_13, ki_14, ki_15, ki_20, ki_21, ki_30, ki_31, ki_40, ki_41, ki_50, ki_51, ki_60, ki_63, ki_64, ki_65, ki_100, ki_158, ki_160, ki_200, ki_212, ki_1000, ki_2000, ki_2001, ki_5000, ki_10000, ki_10001, ki_100000, ki_200000, ki_1000000, ki_2000000, ki_3000000, iO_neg, iO_add, iO_sub, iO_mul, kn_4, kn_8, kn_10, kn_20, kn_24, kn_40, kn_41, kn_50, kn_60, kn_158, kn_160, kn_200, kn_212, kn_2001, tn_lt, fn_lt, tn_le, fn_le, tn_eq, fn_eq, x_lt, x_le, x_eq, x_ix, x_nat, t_lt, f_lt, t_le, f_le, t_eq, f_eq, eq_self, and_self, true_and, and_true, false_and, and_false, if_true, if_false, Int.toNat_natCast, bI_s, bL_s, bA_s, bA_n, bV_s, mq_s, mq_n, en_le, bl_0, bl_1, u_eq, u_ne, w_eq, w_ne, v_eq, v_ne, ↓hp_cc_9, ↓hp_g_9_0, ↓hp_g_9_1, ↓hp_g_9_2, ↓hp_g_9_3, ↓hp_g_9_4, ↓hp_p_9_4, ↓hp_g_9_5, ↓hp_g_9_6, ↓hp_p_9_7, ↓hp_g_9_7, ↓hp_a_10, ↓hp_s_10, ↓hp_l_10, ↓hp_a_11, ↓hp_s_11, ↓hp_l_11, ↓hp_a_12, ↓hp_s_12, ↓hp_l_12, ↓hp_a_13, ↓hp_s_13, ↓hp_l_13, ↓hp_a_14, ↓hp_s_14, ↓hp_l_14, ↓hp_a_15, ↓hp_s_15, ↓hp_l_15, h14]
    · intro t ht
      have ht : t < st.1 + 1 := ht
      show upd (XA 3) q (iO 1) t = iO (va_up (shf q st.1 st.2.1) q 1 t) ∧ upd (XA 4) q (iO gx) t = iO (va_up (shf q st.1 st.2.2.1) q gx t) ∧ upd (XA 5) q (iO gy) t = iO (va_up (shf q st.1 st.2.2.2) q gy t)
      by_cases e : t = q
      · rw [u_eq e, u_eq e, u_eq e, w_eq e, w_eq e, w_eq e]
        exact ⟨rfl, rfl, rfl⟩
      · rw [u_ne e, u_ne e, u_ne e, w_ne e, w_ne e, w_ne e]
        unfold shf
        obtain ⟨r1, r2⟩ := hR t (by omega)
        by_cases c : q < t ∧ t ≤ st.1
        · rw [if_pos c, if_pos c, if_pos c]
          exact r1 c.1
        · rw [if_neg c, if_neg c, if_neg c]
          exact r2 (by omega)
  | succ j ih =>
    intro q XI XA hq hq2 h14 hR
    obtain ⟨q', rfl⟩ : ∃ q', q = q' + 1 := ⟨q - 1, by omega⟩
    obtain ⟨s1, s2, s3⟩ := (hR q' (by omega)).2 (by omega)
    obtain ⟨XI', XA', f1, f2, f3, f4⟩ := ih q' XI (va_up (va_up (va_up XA 3 (upd (XA 3) (q' + 1) (iO (st.2.1 q')))) 4 (upd (XA 4) (q' + 1) (iO (st.2.2.1 q')))) 5 (upd (XA 5) (q' + 1) (iO (st.2.2.2 q')))) (by omega) (by omega) h14 (by
      intro t ht
      obtain ⟨r1, r2⟩ := hR t ht
      show (q' < t → upd (XA 3) (q' + 1) (iO (st.2.1 q')) t = _ ∧ upd (XA 4) (q' + 1) (iO (st.2.2.1 q')) t = _ ∧ upd (XA 5) (q' + 1) (iO (st.2.2.2 q')) t = _) ∧ (t < q' → upd (XA 3) (q' + 1) (iO (st.2.1 q')) t = _ ∧ upd (XA 4) (q' + 1) (iO (st.2.2.1 q')) t = _ ∧ upd (XA 5) (q' + 1) (iO (st.2.2.2 q')) t = _)
      constructor
      · intro h
        by_cases e : t = q' + 1
        · rw [u_eq e, u_eq e, u_eq e, e]
          exact ⟨rfl, rfl, rfl⟩
        · rw [u_ne e, u_ne e, u_ne e]
          exact r1 (by omega)
      · intro h
        rw [u_ne (by omega), u_ne (by omega), u_ne (by omega)]
        exact r2 (by omega))
    refine ⟨XI', XA', ?_, f2, f3, fun m h3 h4 h5 => by rw [f4 m h3 h4 h5, w_ne h5, w_ne h4, w_ne h3]⟩
    rw [← f1, eb_X0_insertSort_1]
    clear f1 f2 f3 f4 ih hR
    rw [show ((q' + 1 : Nat) : Int) = (q' : Int) + 1 by omega]
    have e1 : ((q' : Int) + 1 - 1).toNat = q' := by omega
    have e2 : ((q' : Int) + 1).toNat = q' + 1 := by omega
    simp (disch := (first | assumption | (unfold i32; omega) | (unfold i64; omega) | omega)) only [↓reduceIte, ki_0, ki_1, ki_2, ki_3, ki_4, ki_5, ki_6, ki_7, ki_8, ki_9, ki_10, ki_11, ki_12, ki_13, ki_14, ki_15, ki_20, ki_21, ki_30, ki_31, ki_40, ki_41, ki_50, ki_51, ki_60, ki_63, ki_64, ki_65, ki_100, ki_158, ki_160, ki_200, ki_212, ki_1000, ki_2000, ki_2001, ki_5000, ki_10000, ki_10001, ki_100000, ki_200000, ki_1000000, ki_2000000, ki_3000000, iO_neg, iO_add, iO_sub, iO_mul, kn_4, kn_8, kn_10, kn_20, kn_24, kn_40, kn_41, kn_50, kn_60, kn_158, kn_160, kn_200, kn_212, kn_2001, tn_lt, fn_lt, tn_le, fn_le, tn_eq, fn_eq, x_lt, x_le, x_eq, x_ix, x_nat, t_lt, f_lt, t_le, f_le, t_eq, f_eq, eq_self, and_self, true_and, and_true, false_and, and_false, if_true, if_false, Int.toNat_natCast, bI_s, bL_s, bA_s, bA_n, bV_s, mq_s, mq_n, en_le, bl_0, bl_1, u_eq, u_ne, w_eq, w_ne, v_eq, v_ne, ↓hp_cc_9, ↓hp_g_9_0, ↓hp_g_9_1, ↓hp_g_9_2, ↓hp_g_9_3, ↓hp_g_9_4, ↓hp_p_9_4, ↓hp_g_9_5, ↓hp_g_9_6, ↓hp_p_9_7, ↓hp_g_9_7, ↓hp_a_10, ↓hp_s_10, ↓hp_l_10, ↓hp_a_11, ↓hp_s_11, ↓hp_l_11, ↓hp_a_12, ↓hp_s_12, ↓hp_l_12, ↓hp_a_13, ↓hp_s_13, ↓hp_l_13, ↓hp_a_14, ↓hp_s_14, ↓hp_l_14, ↓hp_a_15, ↓hp_s_15, ↓hp_l_15, e1, e2, s1, s2, s3]
    rw [show (q' : Int) + 1 + -1 = (q' : Int) by omega]
theorem x_addGap (hs : SlO D sp l) {gx gy : Int} (h1 : -1181 ≤ gx) (h2 : gx ≤ 1181) (h3 : -60 ≤ gy) (h4 : gy ≤ 60) {st : G4} {i : Nat} (hB : GB st i) (hi : i < 60) {XI : Nat → Int32} {XA : Nat → Nat → Int32} (hG : GX st XI XA) : ∃ XI' XA', f_X0_addGap sc (d + 5) 9 (iO gx) (iO gy) (hp XI XA XP (.ref (sp + 51)) MI MA ML D) = some (none, hp XI' XA' XP (.ref (sp + 51)) MI MA ML D) ∧ GX (gadd l gx gy st) XI' XA' ∧ (∀ s, s ≠ 14 → XI' s = XI s) ∧ (∀ m, m ≠ 3 → m ≠ 4 → m ≠ 5 → XA' m = XA m) := by
  obtain ⟨b1, b2⟩ := hB
  obtain ⟨g1, g2⟩ := hG
  have hbs : ∀ p, p < st.1 → f_X0_signBeside sc (d + 4) 9 (iO (p : Int)) (iO gx) (iO gy) (hp XI XA XP (.ref (sp + 51)) MI MA ML D) = some (some (.int (iO (sgn l (gx - st.2.2.1 p) (gy - st.2.2.2 p)))), hp XI XA XP (.ref (sp + 51)) MI MA ML D) := by
    intro p hpk
    obtain ⟨-, t4, t5⟩ := g2 p hpk
    obtain ⟨-, -, c1, c2, c3, c4⟩ := b2 p hpk
    exact x_beside (d := d + 1) hs (by omega) h1 h2 h3 h4 c1 c2 c3 c4 t4 t5
  have hrs : ∀ p, sgn l (gx - st.2.2.1 p) (gy - st.2.2.2 p) = -1 ∨ sgn l (gx - st.2.2.1 p) (gy - st.2.2.2 p) = 0 ∨ sgn l (gx - st.2.2.1 p) (gy - st.2.2.2 p) = 1 := fun p => sg_range _ _ _
  have find : ∀ (j p : Nat), p + j = st.1 → b_X0_addGap_1 sc (d + 4) 9 (iO gx) (iO gy) (iO (p : Int)) (hp XI XA XP (.ref (sp + 51)) MI MA ML D) = b_X0_addGap_2 sc (d + 4) 9 (iO gx) (iO gy) (iO ((gfnd (fun t => sgn l (gx - st.2.2.1 t) (gy - st.2.2.2 t)) j p : Nat) : Int)) (hp XI XA XP (.ref (sp + 51)) MI MA ML D) := by
    intro j
    induction j with
    | zero =>
      intro p hpk
      rw [eb_X0_addGap_1, gfnd]
      clear g2 b2 hbs hrs
      simp (disch := (first | assumption | (unfold i32; omega) | (unfold i64; omega) | omega)) only [↓reduceIte, ki_0, ki_1, ki_2, ki_3, ki_4, ki_5, ki_6, ki_7, ki_8, ki_9, ki_10, ki_11, ki_12, ki_13, ki_14, ki_15, ki_20, ki_21, ki_30, ki_31, ki_40, ki_41, ki_50, ki_51, ki_60, ki_63, ki_64, ki_65, ki_100, ki_158, ki_160, ki_200, ki_212, ki_1000, ki_2000, ki_2001, ki_5000, ki_10000, ki_10001, ki_100000, ki_200000, ki_1000000, ki_2000000, ki_3000000, iO_neg, iO_add, iO_sub, iO_mul, kn_4, kn_8, kn_10, kn_20, kn_24, kn_40, kn_41, kn_50, kn_60, kn_158, kn_160, kn_200, kn_212, kn_2001, tn_lt, fn_lt, tn_le, fn_le, tn_eq, fn_eq, x_lt, x_le, x_eq, x_ix, x_nat, t_lt, f_lt, t_le, f_le, t_eq, f_eq, eq_self, and_self, true_and, and_true, false_and, and_false, if_true, if_false, Int.toNat_natCast, bI_s, bL_s, bA_s, bA_n, bV_s, mq_s, mq_n, en_le, bl_0, bl_1, u_eq, u_ne, w_eq, w_ne, v_eq, v_ne, ↓hp_cc_9, ↓hp_g_9_0, ↓hp_g_9_1, ↓hp_g_9_2, ↓hp_g_9_3, ↓hp_g_9_4, ↓hp_p_9_4, ↓hp_g_9_5, ↓hp_g_9_6, ↓hp_p_9_7, ↓hp_g_9_7, ↓hp_a_10, ↓hp_s_10, ↓hp_l_10, ↓hp_a_11, ↓hp_s_11, ↓hp_l_11, ↓hp_a_12, ↓hp_s_12, ↓hp_l_12, ↓hp_a_13, ↓hp_s_13, ↓hp_l_13, ↓hp_a_14, ↓hp_s_14, ↓hp_l_14, ↓hp_a_15, ↓hp_s_15, ↓hp_l_15, g1]
    | succ j ih =>
      intro p hpk
      have hb := hbs p (by omega)
      have hr := hrs p
      have ih' := ih (p + 1) (by omega)
      rw [eb_X0_addGap_1, gfnd]
      show _ = b_X0_addGap_2 sc (d + 4) 9 (iO gx) (iO gy) (iO ((if sgn l (gx - st.2.2.1 p) (gy - st.2.2.2 p) < 0 then gfnd (fun t => sgn l (gx - st.2.2.1 t) (gy - st.2.2.2 t)) j (p + 1) else p : Nat) : Int)) _
      generalize sgn l (gx - st.2.2.1 p) (gy - st.2.2.2 p) = s at *
      by_cases c : s < 0
      · rw [if_pos c, ← ih']
        clear g2 b2 hbs hrs ih ih'
        simp (disch := (first | assumption | (unfold i32; omega) | (unfold i64; omega) | omega)) only [↓reduceIte, ki_0, ki_1, ki_2, ki_3, ki_4, ki_5, ki_6, ki_7, ki_8, ki_9, ki_10, ki_11, ki_12, ki_13, ki_14, ki_15, ki_20, ki_21, ki_30, ki_31, ki_40, ki_41, ki_50, ki_51, ki_60, ki_63, ki_64, ki_65, ki_100, ki_158, ki_160, ki_200, ki_212, ki_1000, ki_2000, ki_2001, ki_5000, ki_10000, ki_10001, ki_100000, ki_200000, ki_1000000, ki_2000000, ki_3000000, iO_neg, iO_add, iO_sub, iO_mul, kn_4, kn_8, kn_10, kn_20, kn_24, kn_40, kn_41, kn_50, kn_60, kn_158, kn_160, kn_200, kn_212, kn_2001, tn_lt, fn_lt, tn_le, fn_le, tn_eq, fn_eq, x_lt, x_le, x_eq, x_ix, x_nat, t_lt, f_lt, t_le, f_le, t_eq, f_eq, eq_self, and_self, true_and, and_true, false_and, and_false, if_true, if_false, Int.toNat_natCast, bI_s, bL_s, bA_s, bA_n, bV_s, mq_s, mq_n, en_le, bl_0, bl_1, u_eq, u_ne, w_eq, w_ne, v_eq, v_ne, ↓hp_cc_9, ↓hp_g_9_0, ↓hp_g_9_1, ↓hp_g_9_2, ↓hp_g_9_3, ↓hp_g_9_4, ↓hp_p_9_4, ↓hp_g_9_5, ↓hp_g_9_6, ↓hp_p_9_7, ↓hp_g_9_7, ↓hp_a_10, ↓hp_s_10, ↓hp_l_10, ↓hp_a_11, ↓hp_s_11, ↓hp_l_11, ↓hp_a_12, ↓hp_s_12, ↓hp_l_12, ↓hp_a_13, ↓hp_s_13, ↓hp_l_13, ↓hp_a_14, ↓hp_s_14, ↓hp_l_14, ↓hp_a_15, ↓hp_s_15, ↓hp_l_15, g1, hb]
        try rfl
      · rw [if_neg c]
        have c : 0 ≤ s := by omega
        clear g2 b2 hbs hrs ih ih'
        simp (disch := (first | assumption | (unfold i32; omega) | (unfold i64; omega) | omega)) only [↓reduceIte, ki_0, ki_1, ki_2, ki_3, ki_4, ki_5, ki_6, ki_7, ki_8, ki_9, ki_10, ki_11, ki_12, ki_13, ki_14, ki_15, ki_20, ki_21, ki_30, ki_31, ki_40, ki_41, ki_50, ki_51, ki_60, ki_63, ki_64, ki_65, ki_100, ki_158, ki_160, ki_200, ki_212, ki_1000, ki_2000, ki_2001, ki_5000, ki_10000, ki_10001, ki_100000, ki_200000, ki_1000000, ki_2000000, ki_3000000, iO_neg, iO_add, iO_sub, iO_mul, kn_4, kn_8, kn_10, kn_20, kn_24, kn_40, kn_41, kn_50, kn_60, kn_158, kn_160, kn_200, kn_212, kn_2001, tn_lt, fn_lt, tn_le, fn_le, tn_eq, fn_eq, x_lt, x_le, x_eq, x_ix, x_nat, t_lt, f_lt, t_le, f_le, t_eq, f_eq, eq_self, and_self, true_and, and_true, false_and, and_false, if_true, if_false, Int.toNat_natCast, bI_s, bL_s, bA_s, bA_n, bV_s, mq_s, mq_n, en_le, bl_0, bl_1, u_eq, u_ne, w_eq, w_ne, v_eq, v_ne, ↓hp_cc_9, ↓hp_g_9_0, ↓hp_g_9_1, ↓hp_g_9_2, ↓hp_g_9_3, ↓hp_g_9_4, ↓hp_p_9_4, ↓hp_g_9_5, ↓hp_g_9_6, ↓hp_p_9_7, ↓hp_g_9_7, ↓hp_a_10, ↓hp_s_10, ↓hp_l_10, ↓hp_a_11, ↓hp_s_11, ↓hp_l_11, ↓hp_a_12, ↓hp_s_12, ↓hp_l_12, ↓hp_a_13, ↓hp_s_13, ↓hp_l_13, ↓hp_a_14, ↓hp_s_14, ↓hp_l_14, ↓hp_a_15, ↓hp_s_15, ↓hp_l_15, g1, hb]
  have hf := find st.1 0 (by omega)
  have hf : b_X0_addGap_1 sc (d + 4) 9 (iO gx) (iO gy) 0 (hp XI XA XP (.ref (sp + 51)) MI MA ML D) = b_X0_addGap_2 sc (d + 4) 9 (iO gx) (iO gy) (iO ((gpl l gx gy st : Nat) : Int)) (hp XI XA XP (.ref (sp + 51)) MI MA ML D) := hf
  have hpl : gpl l gx gy st ≤ st.1 := by
    have := gfnd_bd (s := fun t => sgn l (gx - st.2.2.1 t) (gy - st.2.2.2 t)) st.1 0
    unfold gpl
    omega
  rw [e_X0_addGap, hf]
  unfold gadd
  generalize gpl l gx gy st = p at *
  -- a new sort
  have new : ∃ XI' XA', b_X0_addGap_3 sc (d + 4) 9 (iO gx) (iO gy) (iO (p : Int)) (hp XI XA XP (.ref (sp + 51)) MI MA ML D) = some (none, hp XI' XA' XP (.ref (sp + 51)) MI MA ML D) ∧ GX (st.1 + 1, va_up (shf p st.1 st.2.1) p 1, va_up (shf p st.1 st.2.2.1) p gx, va_up (shf p st.1 st.2.2.2) p gy) XI' XA' ∧ (∀ s, s ≠ 14 → XI' s = XI s) ∧ (∀ m, m ≠ 3 → m ≠ 4 → m ≠ 5 → XA' m = XA m) := by
    obtain ⟨XI', XA', f1, f2⟩ := x_insert (sc := sc) (d := d + 3) (XP := XP) (MI := MI) (MA := MA) (ML := ML) (D := D) (sp := sp) (gx := gx) (gy := gy) (st := st) (p := p) hpl (by omega) (st.1 - p) st.1 XI XA (by omega) (Nat.le_refl _) g1 (fun t ht => ⟨fun h => by omega, fun h => g2 t h⟩)
    refine ⟨XI', XA', ?_, f2⟩
    have f1' : f_X0_insertSort sc (d + 4) 9 (iO (p : Int)) (iO gx) (iO gy) (hp XI XA XP (.ref (sp + 51)) MI MA ML D) = some (none, hp XI' XA' XP (.ref (sp + 51)) MI MA ML D) := by
      rw [e_X0_insertSort, hp_g_9_4, g1]
      exact f1
    rw [eb_X0_addGap_3]
    clear g2 b2 hbs hrs find hf f1 f2
    simp (disch := (first | assumption | (unfold i32; omega) | (unfold i64; omega) | omega)) only [↓reduceIte, ki_0, ki_1, ki_2, ki_3, ki_4, ki_5, ki_6, ki_7, ki_8, ki_9, ki_10, ki_11, ki_12, ki_13, ki_14, ki_15, ki_20, ki_21, ki_30, ki_31, ki_40, ki_41, ki_50, ki_51, ki_60, ki_63, ki_64, ki_65, ki_100, ki_158, ki_160, ki_200, ki_212, ki_1000, ki_2000, ki_2001, ki_5000, ki_10000, ki_10001, ki_100000, ki_200000, ki_1000000, ki_2000000, ki_3000000, iO_neg, iO_add, iO_sub, iO_mul, kn_4, kn_8, kn_10, kn_20, kn_24, kn_40, kn_41, kn_50, kn_60, kn_158, kn_160, kn_200, kn_212, kn_2001, tn_lt, fn_lt, tn_le, fn_le, tn_eq, fn_eq, x_lt, x_le, x_eq, x_ix, x_nat, t_lt, f_lt, t_le, f_le, t_eq, f_eq, eq_self, and_self, true_and, and_true, false_and, and_false, if_true, if_false, Int.toNat_natCast, bI_s, bL_s, bA_s, bA_n, bV_s, mq_s, mq_n, en_le, bl_0, bl_1, u_eq, u_ne, w_eq, w_ne, v_eq, v_ne, ↓hp_cc_9, ↓hp_g_9_0, ↓hp_g_9_1, ↓hp_g_9_2, ↓hp_g_9_3, ↓hp_g_9_4, ↓hp_p_9_4, ↓hp_g_9_5, ↓hp_g_9_6, ↓hp_p_9_7, ↓hp_g_9_7, ↓hp_a_10, ↓hp_s_10, ↓hp_l_10, ↓hp_a_11, ↓hp_s_11, ↓hp_l_11, ↓hp_a_12, ↓hp_s_12, ↓hp_l_12, ↓hp_a_13, ↓hp_s_13, ↓hp_l_13, ↓hp_a_14, ↓hp_s_14, ↓hp_l_14, ↓hp_a_15, ↓hp_s_15, ↓hp_l_15, g1, f1']
  by_cases c1 : p < st.1
  · have hb := hbs p c1
    have hr := hrs p
    by_cases c2 : sgn l (gx - st.2.2.1 p) (gy - st.2.2.2 p) = 0
    · rw [if_pos ⟨c1, c2⟩]
      obtain ⟨t3, t4, t5⟩ := g2 p c1
      refine ⟨XI, va_up XA 3 (upd (XA 3) p (iO (st.2.1 p + 1))), ?_, ⟨g1, ?_⟩, fun _ _ => rfl, fun m h3 _ _ => w_ne h3⟩
      · rw [eb_X0_addGap_2]
        rw [c2] at hb
        clear g2 b2 hbs hrs find hf new hr
        simp (disch := (first | assumption | (unfold i32; omega) | (unfold i64; omega) | omega)) only [↓reduceIte, ki_0, ki_1, ki_2, ki_3, ki_4, ki_5, ki_6, ki_7, ki_8, ki_9, ki_10, ki_11, ki_12, ki_13, ki_14, ki_15, ki_20, ki_21, ki_30, ki_31, ki_40, ki_41, ki_50, ki_51, ki_60, ki_63, ki_64, ki_65, ki_100, ki_158, ki_160, ki_200, ki_212, ki_1000, ki_2000, ki_2001, ki_5000, ki_10000, ki_10001, ki_100000, ki_200000, ki_1000000, ki_2000000, ki_3000000, iO_neg, iO_add, iO_sub, iO_mul, kn_4, kn_8, kn_10, kn_20, kn_24, kn_40, kn_41, kn_50, kn_60, kn_158, kn_160, kn_200, kn_212, kn_2001, tn_lt, fn_lt, tn_le, fn_le, tn_eq, fn_eq, x_lt, x_le, x_eq, x_ix, x_nat, t_lt, f_lt, t_le, f_le, t_eq, f_eq, eq_self, and_self, true_and, and_true, false_and, and_false, if_true, if_false, Int.toNat_natCast, bI_s, bL_s, bA_s, bA_n, bV_s, mq_s, mq_n, en_le, bl_0, bl_1, u_eq, u_ne, w_eq, w_ne, v_eq, v_ne, ↓hp_cc_9, ↓hp_g_9_0, ↓hp_g_9_1, ↓hp_g_9_2, ↓hp_g_9_3, ↓hp_g_9_4, ↓hp_p_9_4, ↓hp_g_9_5, ↓hp_g_9_6, ↓hp_p_9_7, ↓hp_g_9_7, ↓hp_a_10, ↓hp_s_10, ↓hp_l_10, ↓hp_a_11, ↓hp_s_11, ↓hp_l_11, ↓hp_a_12, ↓hp_s_12, ↓hp_l_12, ↓hp_a_13, ↓hp_s_13, ↓hp_l_13, ↓hp_a_14, ↓hp_s_14, ↓hp_l_14, ↓hp_a_15, ↓hp_s_15, ↓hp_l_15, g1, hb, t3]
      · intro t ht
        have ht : t < st.1 := ht
        obtain ⟨r3, r4, r5⟩ := g2 t ht
        refine ⟨?_, r4, r5⟩
        show upd (XA 3) p (iO (st.2.1 p + 1)) t = iO (va_up st.2.1 p (st.2.1 p + 1) t)
        by_cases e : t = p
        · rw [u_eq e, w_eq e]
        · rw [u_ne e, w_ne e]; exact r3
    · rw [if_neg (fun q => c2 q.2)]
      obtain ⟨XI', XA', f1, f2⟩ := new
      refine ⟨XI', XA', ?_, f2⟩
      rw [← f1, eb_X0_addGap_2]
      generalize sgn l (gx - st.2.2.1 p) (gy - st.2.2.2 p) = s at *
      clear g2 b2 hbs hrs find hf f1 f2
      have : i32 s := by unfold i32; omega
      clear hr
      simp (disch := (first | assumption | (unfold i32; omega) | (unfold i64; omega) | omega)) only [↓reduceIte, ki_0, ki_1, ki_2, ki_3, ki_4, ki_5, ki_6, ki_7, ki_8, ki_9, ki_10, ki_11, ki_12, ki_13, ki_14, ki_15, ki_20, ki_21, ki_30, ki_31, ki_40, ki_41, ki_50, ki_51, ki_60, ki_63, ki_64, ki_65, ki_100, ki_158, ki_160, ki_200, ki_212, ki_1000, ki_2000, ki_2001, ki_5000, ki_10000, ki_10001, ki_100000, ki_200000, ki_1000000, ki_2000000, ki_3000000, iO_neg, iO_add, iO_sub, iO_mul, kn_4, kn_8, kn_10, kn_20, kn_24, kn_40, kn_41, kn_50, kn_60, kn_158, kn_160, kn_200, kn_212, kn_2001, tn_lt, fn_lt, tn_le, fn_le, tn_eq, fn_eq, x_lt, x_le, x_eq, x_ix, x_nat, t_lt, f_lt, t_le, f_le, t_eq, f_eq, eq_self, and_self, true_and, and_true, false_and, and_false, if_true, if_false, Int.toNat_natCast, bI_s, bL_s, bA_s, bA_n, bV_s, mq_s, mq_n, en_le, bl_0, bl_1, u_eq, u_ne, w_eq, w_ne, v_eq, v_ne, ↓hp_cc_9, ↓hp_g_9_0, ↓hp_g_9_1, ↓hp_g_9_2, ↓hp_g_9_3, ↓hp_g_9_4, ↓hp_p_9_4, ↓hp_g_9_5, ↓hp_g_9_6, ↓hp_p_9_7, ↓hp_g_9_7, ↓hp_a_10, ↓hp_s_10, ↓hp_l_10, ↓hp_a_11, ↓hp_s_11, ↓hp_l_11, ↓hp_a_12, ↓hp_s_12, ↓hp_l_12, ↓hp_a_13, ↓hp_s_13, ↓hp_l_13, ↓hp_a_14, ↓hp_s_14, ↓hp_l_14, ↓hp_a_15, ↓hp_s_15, ↓hp_l_15, g1, hb]
  · rw [if_neg (fun q => c1 q.1)]
    obtain ⟨XI', XA', f1, f2⟩ := new
    refine ⟨XI', XA', ?_, f2⟩
    rw [← f1, eb_X0_addGap_2]
    clear g2 b2 hbs hrs find hf f1 f2
    simp (disch := (first | assumption | (unfold i32; omega) | (unfold i64; omega) | omega)) only [↓reduceIte, ki_0, ki_1, ki_2, ki_3, ki_4, ki_5, ki_6, ki_7, ki_8, ki_9, ki_10, ki_11, ki_12, ki_13, ki_14, ki_15, ki_20, ki_21, ki_30, ki_31, ki_40, ki_41, ki_50, ki_51, ki_60, ki_63, ki_64, ki_65, ki_100, ki_158, ki_160, ki_200, ki_212, ki_1000, ki_2000, ki_2001, ki_5000, ki_10000, ki_10001, ki_100000, ki_200000, ki_1000000, ki_2000000, ki_3000000, iO_neg, iO_add, iO_sub, iO_mul, kn_4, kn_8, kn_10, kn_20, kn_24, kn_40, kn_41, kn_50, kn_60, kn_158, kn_160, kn_200, kn_212, kn_2001, tn_lt, fn_lt, tn_le, fn_le, tn_eq, fn_eq, x_lt, x_le, x_eq, x_ix, x_nat, t_lt, f_lt, t_le, f_le, t_eq, f_eq, eq_self, and_self, true_and, and_true, false_and, and_false, if_true, if_false, Int.toNat_natCast, bI_s, bL_s, bA_s, bA_n, bV_s, mq_s, mq_n, en_le, bl_0, bl_1, u_eq, u_ne, w_eq, w_ne, v_eq, v_ne, ↓hp_cc_9, ↓hp_g_9_0, ↓hp_g_9_1, ↓hp_g_9_2, ↓hp_g_9_3, ↓hp_g_9_4, ↓hp_p_9_4, ↓hp_g_9_5, ↓hp_g_9_6, ↓hp_p_9_7, ↓hp_g_9_7, ↓hp_a_10, ↓hp_s_10, ↓hp_l_10, ↓hp_a_11, ↓hp_s_11, ↓hp_l_11, ↓hp_a_12, ↓hp_s_12, ↓hp_l_12, ↓hp_a_13, ↓hp_s_13, ↓hp_l_13, ↓hp_a_14, ↓hp_s_14, ↓hp_l_14, ↓hp_a_15, ↓hp_s_15, ↓hp_l_15, g1]
theorem x_lay7 (hs : SlO D sp l) (hS : SL l.1 l.2.1 l.2.2.1 l.2.2.2) {n : Nat} (hn : n ≤ 60) (hn1 : 1 ≤ n) : ∀ (j i : Nat) (XI : Nat → Int32) (XA : Nat → Nat → Int32), i + j = n → (∀ t, t < n → XA 7 t = iO (WN l t)) → (∀ a, a < n → XA 2 a = iO (nxt (ords l n) n a : Int)) → GX (gst l (gxf l n) (gyf l n) i) XI XA →
    ∃ XI' XA', b_X0_lay_7 sc (d + 5) 9 (iO (n : Int)) (iO (ords l n (n - 1) : Int)) (iO (i : Int)) (hp XI XA XP (.ref (sp + 51)) MI MA ML D) = some (none, hp XI' XA' XP (.ref (sp + 51)) MI MA ML D) ∧ GX (gsts l n) XI' XA' ∧ (∀ s, s ≠ 14 → XI' s = XI s) ∧ (∀ m, m ≠ 3 → m ≠ 4 → m ≠ 5 → XA' m = XA m) := by
  have hpm : perm (ords l n) n := ordr_perm (ah := ahd l) n
  intro j
  induction j with
  | zero =>
    intro i XI XA hi h7 h2 hG
    obtain rfl : i = n := by omega
    refine ⟨XI, XA, ?_, hG, fun _ _ => rfl, fun _ _ _ _ => rfl⟩
    rw [eb_X0_lay_7]
    clear h7 h2 hG hpm
    simp (disch := (first | assumption | (unfold i32; omega) | (unfold i64; omega) | omega)) only [↓reduceIte, ki_0, ki_1, ki_2, ki_3, ki_4, ki_5, ki_6, ki_7, ki_8, ki_9, ki_10, ki_11, ki_12, ki_13, ki_14, ki_15, ki_20, ki_21, ki_30, ki_31, ki_40, ki_41, ki_50, ki_51, ki_60, ki_63, ki_64, ki_65, ki_100, ki_158, ki_160, ki_200, ki_212, ki_1000, ki_2000, ki_2001, ki_5000, ki_10000, ki_10001, ki_100000, ki_200000, ki_1000000, ki_2000000, ki_3000000, iO_neg, iO_add, iO_sub, iO_mul, kn_4, kn_8, kn_10, kn_20, kn_24, kn_40, kn_41, kn_50, kn_60, kn_158, kn_160, kn_200, kn_212, kn_2001, tn_lt, fn_lt, tn_le, fn_le, tn_eq, fn_eq, x_lt, x_le, x_eq, x_ix, x_nat, t_lt, f_lt, t_le, f_le, t_eq, f_eq, eq_self, and_self, true_and, and_true, false_and, and_false, if_true, if_false, Int.toNat_natCast, bI_s, bL_s, bA_s, bA_n, bV_s, mq_s, mq_n, en_le, bl_0, bl_1, u_eq, u_ne, w_eq, w_ne, v_eq, v_ne]
  | succ j ih =>
    intro i XI XA hi h7 h2 hG
    obtain ⟨c1, c2, c3, c4, c5⟩ := gf_bd hS hn (a := i) (by omega)
    have hB := gst_bd (l := l) (gx := gxf l n) (gy := gyf l n) (n := n) (fun i hi => by obtain ⟨q1, q2, q3, q4, -⟩ := gf_bd hS hn hi; exact ⟨q1, q2, q3, q4⟩) i (by omega)
    obtain ⟨XI1, XA1, f1, f2, f3, f4⟩ := x_addGap (sc := sc) (d := d) (XP := XP) (MI := MI) (MA := MA) (ML := ML) hs c1 c2 c3 c4 hB (by omega) hG
    obtain ⟨XI', XA', k1, k2, k3, k4⟩ := ih (i + 1) XI1 XA1 (by omega) (fun t ht => by rw [f4 7 (by decide) (by decide) (by decide)]; exact h7 t ht) (fun t ht => by rw [f4 2 (by decide) (by decide) (by decide)]; exact h2 t ht) f2
    refine ⟨XI', XA', ?_, k2, fun s hs => by rw [k3 s hs, f3 s hs], fun m h3 h4 h5 => by rw [k4 m h3 h4 h5, f4 m h3 h4 h5]⟩
    have t7 := h7 i (by omega)
    have t7b := h7 (nxt (ords l n) n i) c5
    have t2 := h2 i (by omega)
    obtain ⟨q1, q2⟩ := inv_at (o := ords l n) (a := i) n (hpm.2.2 i (by omega))
    have hlast : (i = ords l n (n - 1)) ↔ inv (ords l n) i n + 1 = n := by
      constructor
      · intro e
        have := inv_of hpm (t := n - 1) (by omega)
        rw [← e] at this
        omega
      · intro e
        rw [← q2]
        congr 1
        omega
    have b1 := WN_bd hS (N := i) (by omega)
    have b2 := WN_bd hS (N := nxt (ords l n) n i) (by omega)
    have b3 := hpm.1 (n - 1) (by omega)
    rw [← k1, eb_X0_lay_7]
    have eX : gxf l n i = WN l i - WN l (nxt (ords l n) n i) + (if inv (ords l n) i n + 1 = n then 1 else 0) := rfl
    have eY : gyf l n i = (nxt (ords l n) n i : Int) - (i : Int) := rfl
    by_cases g : inv (ords l n) i n + 1 = n
    · rw [if_pos g] at eX
      have e0 := hlast.mpr g
      rw [eX, eY] at f1
      generalize WN l (nxt (ords l n) n i) = Q at *
      generalize nxt (ords l n) n i = N at *
      generalize ords l n (n - 1) = LL at *
      generalize WN l i = P at *
      clear k1 k2 k3 k4 f2 f3 f4 ih h7 h2 hG hB hpm hlast q1 q2 g eX eY c1 c2 c3 c4
      simp (disch := (first | assumption | (unfold i32; omega) | (unfold i64; omega) | omega)) only [↓reduceIte, ki_0, ki_1, ki_2, ki_3, ki_4, ki_5, ki_6, ki_7, ki_8, ki_9, ki_10, ki_11, ki_12, ki_13, ki_14, ki_15, ki_20, ki_21, ki_30, ki_31, ki_40, ki_41, ki_50, ki_51, ki_60, ki_63, ki_64, ki_65, ki_100, ki_158, ki_160, ki_200, ki_212, ki_1000, ki_2000, ki_2001, ki_5000, ki_10000, ki_10001, ki_100000, ki_200000, ki_1000000, ki_2000000, ki_3000000, iO_neg, iO_add, iO_sub, iO_mul, kn_4, kn_8, kn_10, kn_20, kn_24, kn_40, kn_41, kn_50, kn_60, kn_158, kn_160, kn_200, kn_212, kn_2001, tn_lt, fn_lt, tn_le, fn_le, tn_eq, fn_eq, x_lt, x_le, x_eq, x_ix, x_nat, t_lt, f_lt, t_le, f_le, t_eq, f_eq, eq_self, and_self, true_and, and_true, false_and, and_false, if_true, if_false, Int.toNat_natCast, bI_s, bL_s, bA_s, bA_n, bV_s, mq_s, mq_n, en_le, bl_0, bl_1, u_eq, u_ne, w_eq, w_ne, v_eq, v_ne, ↓hp_cc_9, ↓hp_g_9_0, ↓hp_g_9_1, ↓hp_g_9_2, ↓hp_g_9_3, ↓hp_g_9_4, ↓hp_p_9_4, ↓hp_g_9_5, ↓hp_g_9_6, ↓hp_p_9_7, ↓hp_g_9_7, ↓hp_a_10, ↓hp_s_10, ↓hp_l_10, ↓hp_a_11, ↓hp_s_11, ↓hp_l_11, ↓hp_a_12, ↓hp_s_12, ↓hp_l_12, ↓hp_a_13, ↓hp_s_13, ↓hp_l_13, ↓hp_a_14, ↓hp_s_14, ↓hp_l_14, ↓hp_a_15, ↓hp_s_15, ↓hp_l_15, t7, t2, t7b, eb_X0_lay_9, f1]
      try rfl
    · rw [if_neg g] at eX
      have e0 : i ≠ ords l n (n - 1) := fun q => g (hlast.mp q)
      rw [eX, eY] at f1
      generalize WN l (nxt (ords l n) n i) = Q at *
      generalize nxt (ords l n) n i = N at *
      generalize ords l n (n - 1) = LL at *
      generalize WN l i = P at *
      clear k1 k2 k3 k4 f2 f3 f4 ih h7 h2 hG hB hpm hlast q1 q2 g eX eY c1 c2 c3 c4
      simp (disch := (first | assumption | (unfold i32; omega) | (unfold i64; omega) | omega)) only [↓reduceIte, ki_0, ki_1, ki_2, ki_3, ki_4, ki_5, ki_6, ki_7, ki_8, ki_9, ki_10, ki_11, ki_12, ki_13, ki_14, ki_15, ki_20, ki_21, ki_30, ki_31, ki_40, ki_41, ki_50, ki_51, ki_60, ki_63, ki_64, ki_65, ki_100, ki_158, ki_160, ki_200, ki_212, ki_1000, ki_2000, ki_2001, ki_5000, ki_10000, ki_10001, ki_100000, ki_200000, ki_1000000, ki_2000000, ki_3000000, iO_neg, iO_add, iO_sub, iO_mul, kn_4, kn_8, kn_10, kn_20, kn_24, kn_40, kn_41, kn_50, kn_60, kn_158, kn_160, kn_200, kn_212, kn_2001, tn_lt, fn_lt, tn_le, fn_le, tn_eq, fn_eq, x_lt, x_le, x_eq, x_ix, x_nat, t_lt, f_lt, t_le, f_le, t_eq, f_eq, eq_self, and_self, true_and, and_true, false_and, and_false, if_true, if_false, Int.toNat_natCast, bI_s, bL_s, bA_s, bA_n, bV_s, mq_s, mq_n, en_le, bl_0, bl_1, u_eq, u_ne, w_eq, w_ne, v_eq, v_ne, ↓hp_cc_9, ↓hp_g_9_0, ↓hp_g_9_1, ↓hp_g_9_2, ↓hp_g_9_3, ↓hp_g_9_4, ↓hp_p_9_4, ↓hp_g_9_5, ↓hp_g_9_6, ↓hp_p_9_7, ↓hp_g_9_7, ↓hp_a_10, ↓hp_s_10, ↓hp_l_10, ↓hp_a_11, ↓hp_s_11, ↓hp_l_11, ↓hp_a_12, ↓hp_s_12, ↓hp_l_12, ↓hp_a_13, ↓hp_s_13, ↓hp_l_13, ↓hp_a_14, ↓hp_s_14, ↓hp_l_14, ↓hp_a_15, ↓hp_s_15, ↓hp_l_15, t7, t2, t7b, eb_X0_lay_9, f1]
      try rfl
theorem x_lay3 {XI : Nat → Int32} {n : Nat} (hn : n ≤ 60) (hn1 : 1 ≤ n) : ∀ (j i : Nat) (XA : Nat → Nat → Int32), i + j = n → (∀ t, t < n → XA 6 t = iO (ords l n t : Int)) → (∀ t, t < i → XA 2 (ords l n t) = iO (nxo (ords l n) n t : Int)) →
    ∃ XA', b_X0_lay_3 sc d 9 (iO (n : Int)) (iO (i : Int)) (hp XI XA XP (.ref (sp + 51)) MI MA ML D) = b_X0_lay_7 sc d 9 (iO (n : Int)) (iO (ords l n (n - 1) : Int)) (iO 0) (hp (va_up XI 14 (iO 0)) XA' XP (.ref (sp + 51)) MI MA ML D) ∧ (∀ m, m ≠ 2 → XA' m = XA m) ∧ (∀ t, t < n → XA' 2 (ords l n t) = iO (nxo (ords l n) n t : Int)) := by
  have hpm : perm (ords l n) n := ordr_perm (ah := ahd l) n
  intro j
  induction j with
  | zero =>
    intro i XA hi h6 h2
    obtain rfl : i = n := by omega
    have t6 := h6 (i - 1) (by omega)
    have e1 : ((i : Int) - 1).toNat = i - 1 := by omega
    refine ⟨XA, ?_, fun _ _ => rfl, h2⟩
    rw [eb_X0_lay_3]
    clear h6 h2 hpm
    simp (disch := (first | assumption | (unfold i32; omega) | (unfold i64; omega) | omega)) only [↓reduceIte, ki_0, ki_1, ki_2, ki_3, ki_4, ki_5, ki_6, ki_7, ki_8, ki_9, ki_10, ki_11, ki_12, ki_13, ki_14, ki_15, ki_20, ki_21, ki_30, ki_31, ki_40, ki_41, ki_50, ki_51, ki_60, ki_63, ki_64, ki_65, ki_100, ki_158, ki_160, ki_200, ki_212, ki_1000, ki_2000, ki_2001, ki_5000, ki_10000, ki_10001, ki_100000, ki_200000, ki_1000000, ki_2000000, ki_3000000, iO_neg, iO_add, iO_sub, iO_mul, kn_4, kn_8, kn_10, kn_20, kn_24, kn_40, kn_41, kn_50, kn_60, kn_158, kn_160, kn_200, kn_212, kn_2001, tn_lt, fn_lt, tn_le, fn_le, tn_eq, fn_eq, x_lt, x_le, x_eq, x_ix, x_nat, t_lt, f_lt, t_le, f_le, t_eq, f_eq, eq_self, and_self, true_and, and_true, false_and, and_false, if_true, if_false, Int.toNat_natCast, bI_s, bL_s, bA_s, bA_n, bV_s, mq_s, mq_n, en_le, bl_0, bl_1, u_eq, u_ne, w_eq, w_ne, v_eq, v_ne, ↓hp_cc_9, ↓hp_g_9_0, ↓hp_g_9_1, ↓hp_g_9_2, ↓hp_g_9_3, ↓hp_g_9_4, ↓hp_p_9_4, ↓hp_g_9_5, ↓hp_g_9_6, ↓hp_p_9_7, ↓hp_g_9_7, ↓hp_a_10, ↓hp_s_10, ↓hp_l_10, ↓hp_a_11, ↓hp_s_11, ↓hp_l_11, ↓hp_a_12, ↓hp_s_12, ↓hp_l_12, ↓hp_a_13, ↓hp_s_13, ↓hp_l_13, ↓hp_a_14, ↓hp_s_14, ↓hp_l_14, ↓hp_a_15, ↓hp_s_15, ↓hp_l_15, e1, t6]
  | succ j ih =>
    intro i XA hi h6 h2
    have t6 := h6 i (by omega)
    have b1 := hpm.1 i (by omega)
    obtain ⟨XA', f1, f2, f3⟩ := ih (i + 1) (va_up XA 2 (upd (XA 2) (ords l n i) (iO (nxo (ords l n) n i : Int)))) (by omega) h6 (by
      intro t ht
      rw [w_eq rfl]
      by_cases e : t = i
      · rw [e, u_eq rfl]
      · rw [u_ne (fun q => e (hpm.2.1 t i (by omega) (by omega) q))]
        exact h2 t (by omega))
    refine ⟨XA', ?_, fun m hm => by rw [f2 m hm, w_ne hm], f3⟩
    rw [← f1, eb_X0_lay_3]
    unfold nxo
    by_cases c : i + 1 < n
    · have t6b := h6 (i + 1) c
      have e1 : ((i : Int) + 1).toNat = i + 1 := by omega
      rw [if_pos c]
      generalize ords l n (i + 1) = N at *
      generalize ords l n i = O at *
      clear f1 f2 f3 ih h6 h2 hpm
      simp (disch := (first | assumption | (unfold i32; omega) | (unfold i64; omega) | omega)) only [↓reduceIte, ki_0, ki_1, ki_2, ki_3, ki_4, ki_5, ki_6, ki_7, ki_8, ki_9, ki_10, ki_11, ki_12, ki_13, ki_14, ki_15, ki_20, ki_21, ki_30, ki_31, ki_40, ki_41, ki_50, ki_51, ki_60, ki_63, ki_64, ki_65, ki_100, ki_158, ki_160, ki_200, ki_212, ki_1000, ki_2000, ki_2001, ki_5000, ki_10000, ki_10001, ki_100000, ki_200000, ki_1000000, ki_2000000, ki_3000000, iO_neg, iO_add, iO_sub, iO_mul, kn_4, kn_8, kn_10, kn_20, kn_24, kn_40, kn_41, kn_50, kn_60, kn_158, kn_160, kn_200, kn_212, kn_2001, tn_lt, fn_lt, tn_le, fn_le, tn_eq, fn_eq, x_lt, x_le, x_eq, x_ix, x_nat, t_lt, f_lt, t_le, f_le, t_eq, f_eq, eq_self, and_self, true_and, and_true, false_and, and_false, if_true, if_false, Int.toNat_natCast, bI_s, bL_s, bA_s, bA_n, bV_s, mq_s, mq_n, en_le, bl_0, bl_1, u_eq, u_ne, w_eq, w_ne, v_eq, v_ne, ↓hp_cc_9, ↓hp_g_9_0, ↓hp_g_9_1, ↓hp_g_9_2, ↓hp_g_9_3, ↓hp_g_9_4, ↓hp_p_9_4, ↓hp_g_9_5, ↓hp_g_9_6, ↓hp_p_9_7, ↓hp_g_9_7, ↓hp_a_10, ↓hp_s_10, ↓hp_l_10, ↓hp_a_11, ↓hp_s_11, ↓hp_l_11, ↓hp_a_12, ↓hp_s_12, ↓hp_l_12, ↓hp_a_13, ↓hp_s_13, ↓hp_l_13, ↓hp_a_14, ↓hp_s_14, ↓hp_l_14, ↓hp_a_15, ↓hp_s_15, ↓hp_l_15, t6, e1, t6b]
      try rfl
    · have t60 := h6 0 (by omega)
      rw [if_neg c]
      generalize ords l n 0 = N at *
      generalize ords l n i = O at *
      clear f1 f2 f3 ih h6 h2 hpm
      have e0 : (0 : Int).toNat = 0 := rfl
      simp (disch := (first | assumption | (unfold i32; omega) | (unfold i64; omega) | omega)) only [↓reduceIte, ki_0, ki_1, ki_2, ki_3, ki_4, ki_5, ki_6, ki_7, ki_8, ki_9, ki_10, ki_11, ki_12, ki_13, ki_14, ki_15, ki_20, ki_21, ki_30, ki_31, ki_40, ki_41, ki_50, ki_51, ki_60, ki_63, ki_64, ki_65, ki_100, ki_158, ki_160, ki_200, ki_212, ki_1000, ki_2000, ki_2001, ki_5000, ki_10000, ki_10001, ki_100000, ki_200000, ki_1000000, ki_2000000, ki_3000000, iO_neg, iO_add, iO_sub, iO_mul, kn_4, kn_8, kn_10, kn_20, kn_24, kn_40, kn_41, kn_50, kn_60, kn_158, kn_160, kn_200, kn_212, kn_2001, tn_lt, fn_lt, tn_le, fn_le, tn_eq, fn_eq, x_lt, x_le, x_eq, x_ix, x_nat, t_lt, f_lt, t_le, f_le, t_eq, f_eq, eq_self, and_self, true_and, and_true, false_and, and_false, if_true, if_false, Int.toNat_natCast, bI_s, bL_s, bA_s, bA_n, bV_s, mq_s, mq_n, en_le, bl_0, bl_1, u_eq, u_ne, w_eq, w_ne, v_eq, v_ne, ↓hp_cc_9, ↓hp_g_9_0, ↓hp_g_9_1, ↓hp_g_9_2, ↓hp_g_9_3, ↓hp_g_9_4, ↓hp_p_9_4, ↓hp_g_9_5, ↓hp_g_9_6, ↓hp_p_9_7, ↓hp_g_9_7, ↓hp_a_10, ↓hp_s_10, ↓hp_l_10, ↓hp_a_11, ↓hp_s_11, ↓hp_l_11, ↓hp_a_12, ↓hp_s_12, ↓hp_l_12, ↓hp_a_13, ↓hp_s_13, ↓hp_l_13, ↓hp_a_14, ↓hp_s_14, ↓hp_l_14, ↓hp_a_15, ↓hp_s_15, ↓hp_l_15, t6, e0, t60]
      try rfl
/-- the class lays the points -/
theorem x_lay (hs : SlO D sp l) (hS : SL l.1 l.2.1 l.2.2.1 l.2.2.2) {n : Nat} (hn : n ≤ 60) (hn1 : 1 ≤ n) (XI : Nat → Int32) (XA : Nat → Nat → Int32) (XC : Value) : ∃ XI' XA', f_X0_lay sc (d + 6) 9 (sp + 51) (iO (n : Int)) (hp XI XA XP XC MI MA ML D) = some (none, hp XI' XA' XP (.ref (sp + 51)) MI MA ML D) ∧ GX (gsts l n) XI' XA' ∧ (∀ a, a < n → XA' 2 a = iO (nxt (ords l n) n a : Int)) ∧ (∀ s, s ≠ 14 → XI' s = XI s) ∧ (∀ m, m = 0 ∨ m = 1 ∨ 8 ≤ m → XA' m = XA m) := by
  have hpm : perm (ords l n) n := ordr_perm (ah := ahd l) n
  obtain ⟨XA1, f1, f2, f3, f4⟩ := x_lay1 (sc := sc) (d := d + 1) (XI := XI) (XP := XP) (MI := MI) (MA := MA) (ML := ML) hs hS hn n 0 XA (by omega) (fun t ht => by omega) (fun t ht => by omega)
  obtain ⟨XA2, g1, g2, g3⟩ := x_lay3 (sc := sc) (d := d + 5) (XP := XP) (MI := MI) (MA := MA) (ML := ML) (D := D) (sp := sp) (l := l) (XI := XI) hn hn1 n 0 XA1 (by omega) f4 (fun t ht => by omega)
  have hnx : ∀ a, a < n → XA2 2 a = iO (nxt (ords l n) n a : Int) := by
    intro a ha
    obtain ⟨q1, q2⟩ := inv_at (o := ords l n) (a := a) n (hpm.2.2 a ha)
    have := g3 (inv (ords l n) a n) q1
    rw [q2] at this
    exact this
  obtain ⟨XI', XA', k1, k2, k3, k4⟩ := x_lay7 (sc := sc) (d := d) (XP := XP) (MI := MI) (MA := MA) (ML := ML) hs hS hn hn1 n 0 (va_up XI 14 (iO 0)) XA2 (by omega) (fun t ht => by rw [g2 7 (by decide)]; exact f3 t ht) hnx ⟨rfl, fun t ht => by have : t < 0 := ht; omega⟩
  refine ⟨XI', XA', ?_, k2, fun a ha => by rw [k4 2 (by decide) (by decide) (by decide)]; exact hnx a ha, fun s hs => by rw [k3 s hs, w_ne hs], fun m hm => by rw [k4 m (by omega) (by omega) (by omega), g2 m (by omega), f2 m (by omega) (by omega)]⟩
  rw [← k1]
  refine Eq.trans ?_ g1
  refine Eq.trans ?_ f1
  rw [e_X0_lay, hp_p_9_7]
  rfl
end GPX
-- FILE 99c
/-! THE GAPS: the model -/
section GPM
variable {sc : en_S} {d : Nat} {XI : Nat → Int32} {XA : Nat → Nat → Int32} {XP : Nat → Nat → Option Nat} {XC : Value} {ML : Nat → Nat → Int64} {D : en_H} {l : SL4} {k n : Nat}
/-- the model holds a state of sorts -/
def GMM (st : G4) (MI : Nat → Int32) (MA : Nat → Nat → Int32) : Prop := MI 7 = iO (st.1 : Int) ∧ ∀ t, t < st.1 → MA 19 t = iO (st.2.1 t) ∧ MA 17 t = iO (st.2.2.1 t) ∧ MA 18 t = iO (st.2.2.2 t)
theorem m_beside {MI : Nat → Int32} {MA : Nat → Nat → Int32} (hk : k < 8) (hM : MS MA k l.1 l.2.1 l.2.2.1 l.2.2.2) (hS : SL l.1 l.2.1 l.2.2.1 l.2.2.2) {gx gy x y : Int} (h1 : -1181 ≤ gx) (h2 : gx ≤ 1181) (h3 : -60 ≤ gy) (h4 : gy ≤ 60) (h5 : -1181 ≤ x) (h6 : x ≤ 1181) (h7 : -60 ≤ y) (h8 : y ≤ 60) : f_X12_against_ sc (d + 2) 26 (iO (k : Int)) (iO gx) (iO gy) (iO x) (iO y) (hp XI XA XP XC MI MA ML D) = some (some (.int (iO (sgn l (gx - x) (gy - y)))), hp XI XA XP XC MI MA ML D) := by
  obtain ⟨m0, m1, m2, m3⟩ := hM
  obtain ⟨a1, a2, c1, c2, e1, e2, d1, d2, -⟩ := id hS
  have t1 := mul_bd (x := gy - y) (y := l.1 + 1000) (a := 120) (b := 2000) (by omega) (by omega) (by omega) (by omega)
  have t2 := mul_bd (x := gy - y) (y := l.2.1 + 20) (a := 120) (b := 40) (by omega) (by omega) (by omega) (by omega)
  have t3 := mul_bd (x := gx - x) (y := l.2.2.1) (a := 2362) (b := 100) (by omega) (by omega) (by omega) (by omega)
  rw [Int.mul_add] at t1 t2
  have g1 : l.1 * (gy - y) = (gy - y) * l.1 := Int.mul_comm _ _
  have g2 : l.2.1 * (gy - y) = (gy - y) * l.2.1 := Int.mul_comm _ _
  have s1 := sq_bd (x := l.1 * (gy - y) + (gx - x) * l.2.2.1) (K := 1000000) (by omega) (by omega)
  have s2 := sq_bd (x := l.2.1 * (gy - y)) (K := 10000) (by omega) (by omega)
  have s3 := mul_bd (x := l.2.1 * (gy - y) * (l.2.1 * (gy - y))) (y := l.2.2.2) (a := 100000000) (b := 50) (by omega) (by omega) (by omega) d2
  have hsg := e_sign (sc := sc) (n := d) (x := l.1 * (gy - y) + (gx - x) * l.2.2.1) (y := l.2.1 * (gy - y)) (d := l.2.2.2) (z := hp XI XA XP XC MI MA ML D) (by unfold i64; omega) (by unfold i64; omega) (by unfold i64; omega) (by unfold i64; omega)
  have eq1 : sg (l.1 * (gy - y) + (gx - x) * l.2.2.1) (l.2.1 * (gy - y)) l.2.2.2 = sgn l (gx - x) (gy - y) := by
    unfold sgn
    rw [g1, g2]
  rw [eq1] at hsg
  clear t1 t2 t3 s1 s2 s3 eq1 g1 g2
  rw [e_X12_against_]
  generalize sgn l (gx - x) (gy - y) = s at *
  simp (disch := (first | assumption | (unfold i32; omega) | (unfold i64; omega) | omega)) only [↓reduceIte, ki_0, ki_1, ki_2, ki_3, ki_4, ki_5, ki_6, ki_7, ki_8, ki_9, ki_10, ki_11, ki_12, ki_13, ki_14, ki_15, ki_20, ki_21, ki_30, ki_31, ki_40, ki_41, ki_50, ki_51, ki_60, ki_63, ki_64, ki_65, ki_100, ki_158, ki_160, ki_200, ki_212, ki_1000, ki_2000, ki_2001, ki_5000, ki_10000, ki_10001, ki_100000, ki_200000, ki_1000000, ki_2000000, ki_3000000, iO_neg, iO_add, iO_sub, iO_mul, kn_4, kn_8, kn_10, kn_20, kn_24, kn_40, kn_41, kn_50, kn_60, kn_158, kn_160, kn_200, kn_212, kn_2001, tn_lt, fn_lt, tn_le, fn_le, tn_eq, fn_eq, x_lt, x_le, x_eq, x_ix, x_nat, t_lt, f_lt, t_le, f_le, t_eq, f_eq, eq_self, and_self, true_and, and_true, false_and, and_false, if_true, if_false, Int.toNat_natCast, bI_s, bL_s, bA_s, bA_n, bV_s, mq_s, mq_n, en_le, bl_0, bl_1, u_eq, u_ne, w_eq, w_ne, v_eq, v_ne, ↓hp_cc_26, ↓hp_g_26_0, ↓hp_p_26_0, ↓hp_g_26_1, ↓hp_p_26_1, ↓hp_g_26_2, ↓hp_p_26_2, ↓hp_g_26_3, ↓hp_g_26_4, ↓hp_g_26_5, ↓hp_g_26_6, ↓hp_g_26_7, ↓hp_g_26_8, ↓hp_g_26_9, ↓hp_g_26_10, ↓hp_g_26_11, ↓hp_g_26_12, ↓hp_g_26_13, ↓hp_g_26_14, ↓hp_g_26_15, ↓hp_p_26_15, ↓hp_g_26_16, ↓hp_g_26_17, ↓hp_g_26_18, ↓hp_p_26_18, ↓hp_g_26_19, ↓hp_p_26_19, ↓hp_g_26_20, ↓hp_g_26_21, ↓hp_p_26_21, ↓hp_g_26_22, ↓hp_g_26_23, ↓hp_g_26_24, ↓hp_g_26_25, ↓hp_g_26_26, ↓hp_g_26_27, ↓hp_g_26_28, ↓hp_g_26_29, ↓hp_g_26_30, ↓hp_p_26_30, ↓hp_g_26_31, ↓hp_g_26_32, ↓hp_p_26_32, ↓hp_a_27, ↓hp_s_27, ↓hp_l_27, ↓hp_a_28, ↓hp_s_28, ↓hp_l_28, ↓hp_a_29, ↓hp_s_29, ↓hp_l_29, ↓hp_a_30, ↓hp_s_30, ↓hp_l_30, ↓hp_a_31, ↓hp_s_31, ↓hp_l_31, ↓hp_a_32, ↓hp_s_32, ↓hp_l_32, ↓hp_a_33, ↓hp_s_33, ↓hp_l_33, ↓hp_a_34, ↓hp_s_34, ↓hp_l_34, ↓hp_a_35, ↓hp_s_35, ↓hp_l_35, ↓hp_a_36, ↓hp_s_36, ↓hp_l_36, ↓hp_a_37, ↓hp_s_37, ↓hp_l_37, ↓hp_a_38, ↓hp_s_38, ↓hp_l_38, ↓hp_a_39, ↓hp_s_39, ↓hp_a_40, ↓hp_s_40, ↓hp_a_41, ↓hp_s_41, ↓hp_l_41, ↓hp_a_42, ↓hp_s_42, ↓hp_l_42, ↓hp_a_43, ↓hp_s_43, ↓hp_l_43, ↓hp_a_44, ↓hp_s_44, ↓hp_l_44, ↓hp_a_45, ↓hp_s_45, ↓hp_l_45, ↓hp_a_46, ↓hp_s_46, ↓hp_l_46, ↓hp_a_47, ↓hp_s_47, ↓hp_l_47, ↓hp_a_48, ↓hp_s_48, ↓hp_l_48, ↓hp_a_49, ↓hp_s_49, ↓hp_l_49, ↓hp_a_50, ↓hp_s_50, ↓hp_l_50, m0, m1, m2, m3, iO_wide, lO_mul, lO_add, hsg]
theorem m_insert {gx gy : Int} {st : G4} {p a : Nat} (ha : a < 60) (hp0 : p ≤ st.1) (hk : st.1 < 60) {s0 : Int32} : ∀ (j q : Nat) (MI : Nat → Int32) (MA : Nat → Nat → Int32), p + j = q → q ≤ st.1 → MI 7 = iO (st.1 : Int) → MA 15 a = iO gx → MA 16 a = iO gy → (∀ t, t ≤ st.1 → (q < t → MA 19 t = iO (st.2.1 (t - 1)) ∧ MA 17 t = iO (st.2.2.1 (t - 1)) ∧ MA 18 t = iO (st.2.2.2 (t - 1))) ∧ (t < q → MA 19 t = iO (st.2.1 t) ∧ MA 17 t = iO (st.2.2.1 t) ∧ MA 18 t = iO (st.2.2.2 t))) →
    ∃ MI' MA', b_X12_gapsOf_11 sc d 26 (iO (n : Int)) s0 (iO (a : Int)) (iO (p : Int)) (iO (q : Int)) (hp XI XA XP XC MI MA ML D) = b_X12_gapsOf_7 sc d 26 (iO (n : Int)) s0 (iO ((a : Int) + 1)) (hp XI XA XP XC MI' MA' ML D) ∧ GMM (st.1 + 1, va_up (shf p st.1 st.2.1) p 1, va_up (shf p st.1 st.2.2.1) p gx, va_up (shf p st.1 st.2.2.2) p gy) MI' MA' ∧ (∀ s, s ≠ 7 → MI' s = MI s) ∧ (∀ m, m ≠ 17 → m ≠ 18 → m ≠ 19 → MA' m = MA m) := by
  intro j
  induction j with
  | zero =>
    intro q MI MA hq hq2 h14 hx hy hR
    obtain rfl : q = p := by omega
    refine ⟨va_up MI 7 (iO ((st.1 : Int) + 1)), va_up (va_up (va_up MA 17 (upd (MA 17) q (iO gx))) 18 (upd (MA 18) q (iO gy))) 19 (upd (MA 19) q (iO 1)), ?_, ⟨rfl, ?_⟩, fun s hs => w_ne hs, fun m h3 h4 h5 => by rw [w_ne h5, w_ne h4, w_ne h3]⟩
    · rw [eb_X12_gapsOf_11]
      clear hR
      simp (disch := (first | assumption | (unfold i32; omega) | (unfold i64; omega) | omega)) only [↓reduceIte, ki_0, ki_1, ki_2, ki_3, ki_4, ki_5, ki_6, ki_7, ki_8, ki_9, ki_10, ki_11, ki_12, ki_13, ki_14, ki_15, ki_20, ki_21, ki_30, ki_31, ki_40, ki_41, ki_50, ki_51, ki_60, ki_63, ki_64, ki_65, ki_100, ki_158, ki_160, ki_200, ki_212, ki_1000, ki_2000, ki_2001, ki_5000, ki_10000, ki_10001, ki_100000, ki_200000, ki_1000000, ki_2000000, ki_3000000, iO_neg, iO_add, iO_sub, iO_mul, kn_4, kn_8, kn_10, kn_20, kn_24, kn_40, kn_41, kn_50, kn_60, kn_158, kn_160, kn_200, kn_212, kn_2001, tn_lt, fn_lt, tn_le, fn_le, tn_eq, fn_eq, x_lt, x_le, x_eq, x_ix, x_nat, t_lt, f_lt, t_le, f_le, t_eq, f_eq, eq_self, and_self, true_and, and_true, false_and, and_false, if_true, if_false, Int.toNat_natCast, bI_s, bL_s, bA_s, bA_n, bV_s, mq_s, mq_n, en_le, bl_0, bl_1, u_eq, u_ne, w_eq, w_ne, v_eq, v_ne, ↓hp_cc_26, ↓hp_g_26_0, ↓hp_p_26_0, ↓hp_g_26_1, ↓hp_p_26_1, ↓hp_g_26_2, ↓hp_p_26_2, ↓hp_g_26_3, ↓hp_g_26_4, ↓hp_g_26_5, ↓hp_g_26_6, ↓hp_g_26_7, ↓hp_g_26_8, ↓hp_g_26_9, ↓hp_g_26_10, ↓hp_g_26_11, ↓hp_g_26_12, ↓hp_g_26_13, ↓hp_g_26_14, ↓hp_g_26_15, ↓hp_p_26_15, ↓hp_g_26_16, ↓hp_g_26_17, ↓hp_g_26_18, ↓hp_p_26_18, ↓hp_g_26_19, ↓hp_p_26_19, ↓hp_g_26_20, ↓hp_g_26_21, ↓hp_p_26_21, ↓hp_g_26_22, ↓hp_g_26_23, ↓hp_g_26_24, ↓hp_g_26_25, ↓hp_g_26_26, ↓hp_g_26_27, ↓hp_g_26_28, ↓hp_g_26_29, ↓hp_g_26_30, ↓hp_p_26_30, ↓hp_g_26_31, ↓hp_g_26_32, ↓hp_p_26_32, ↓hp_a_27, ↓hp_s_27, ↓hp_l_27, ↓hp_a_28, ↓hp_s_28, ↓hp_l_28, ↓hp_a_29, ↓hp_s_29, ↓hp_l_29, ↓hp_a_30, ↓hp_s_30, ↓hp_l_30, ↓hp_a_31, ↓hp_s_31, ↓hp_l_31, ↓hp_a_32, ↓hp_s_32, ↓hp_l_32, ↓hp_a_33, ↓hp_s_33, ↓hp_l_33, ↓hp_a_34, ↓hp_s_34, ↓hp_l_34, ↓hp_a_35, ↓hp_s_35, ↓hp_l_35, ↓hp_a_36, ↓hp_s_36, ↓hp_l_36, ↓hp_a_37, ↓hp_s_37, ↓hp_l_37, ↓hp_a_38, ↓hp_s_38, ↓hp_l_38, ↓hp_a_39, ↓hp_s_39, ↓hp_a_40, ↓hp_s_40, ↓hp_a_41, ↓hp_s_41, ↓hp_l_41, ↓hp_a_42, ↓hp_s_42, ↓hp_l_42, ↓hp_a_43, ↓hp_s_43, ↓hp_l_43, ↓hp_a_44, ↓hp_s_44, ↓hp_l_44, ↓hp_a_45, ↓hp_s_45, ↓hp_l_45, ↓hp_a_46, ↓hp_s_46, ↓hp_l_46, ↓hp_a_47, ↓hp_s_47, ↓hp_l_47, ↓hp_a_48, ↓hp_s_48, ↓hp_l_48, ↓hp_a_49, ↓hp_s_49, ↓hp_l_49, ↓hp_a_50, ↓hp_s_50, ↓hp_l_50, h14, hx, hy]
    · intro t ht
      have ht : t < st.1 + 1 := ht
      show upd (MA 19) q (iO 1) t = iO (va_up (shf q st.1 st.2.1) q 1 t) ∧ upd (MA 17) q (iO gx) t = iO (va_up (shf q st.1 st.2.2.1) q gx t) ∧ upd (MA 18) q (iO gy) t = iO (va_up (shf q st.1 st.2.2.2) q gy t)
      by_cases e : t = q
      · rw [u_eq e, u_eq e, u_eq e, w_eq e, w_eq e, w_eq e]
        exact ⟨rfl, rfl, rfl⟩
      · rw [u_ne e, u_ne e, u_ne e, w_ne e, w_ne e, w_ne e]
        unfold shf
        obtain ⟨r1, r2⟩ := hR t (by omega)
        by_cases c : q < t ∧ t ≤ st.1
        · rw [if_pos c, if_pos c, if_pos c]
          exact r1 c.1
        · rw [if_neg c, if_neg c, if_neg c]
          exact r2 (by omega)
  | succ j ih =>
    intro q MI MA hq hq2 h14 hx hy hR
    obtain ⟨q', rfl⟩ : ∃ q', q = q' + 1 := ⟨q - 1, by omega⟩
    obtain ⟨s1, s2, s3⟩ := (hR q' (by omega)).2 (by omega)
    obtain ⟨MI', MA', f1, f2, f3, f4⟩ := ih q' MI (va_up (va_up (va_up MA 17 (upd (MA 17) (q' + 1) (iO (st.2.2.1 q')))) 18 (upd (MA 18) (q' + 1) (iO (st.2.2.2 q')))) 19 (upd (MA 19) (q' + 1) (iO (st.2.1 q')))) (by omega) (by omega) h14 hx hy (by
      intro t ht
      obtain ⟨r1, r2⟩ := hR t ht
      show (q' < t → upd (MA 19) (q' + 1) (iO (st.2.1 q')) t = _ ∧ upd (MA 17) (q' + 1) (iO (st.2.2.1 q')) t = _ ∧ upd (MA 18) (q' + 1) (iO (st.2.2.2 q')) t = _) ∧ (t < q' → upd (MA 19) (q' + 1) (iO (st.2.1 q')) t = _ ∧ upd (MA 17) (q' + 1) (iO (st.2.2.1 q')) t = _ ∧ upd (MA 18) (q' + 1) (iO (st.2.2.2 q')) t = _)
      constructor
      · intro h
        by_cases e : t = q' + 1
        · rw [u_eq e, u_eq e, u_eq e, e]
          exact ⟨rfl, rfl, rfl⟩
        · rw [u_ne e, u_ne e, u_ne e]
          exact r1 (by omega)
      · intro h
        rw [u_ne (by omega), u_ne (by omega), u_ne (by omega)]
        exact r2 (by omega))
    refine ⟨MI', MA', ?_, f2, f3, fun m h3 h4 h5 => by rw [f4 m h3 h4 h5, w_ne h5, w_ne h4, w_ne h3]⟩
    rw [← f1, eb_X12_gapsOf_11]
    clear f1 f2 f3 f4 ih hR hx hy
    rw [show ((q' + 1 : Nat) : Int) = (q' : Int) + 1 by omega]
    have e1 : ((q' : Int) + 1 - 1).toNat = q' := by omega
    have e2 : ((q' : Int) + 1).toNat = q' + 1 := by omega
    simp (disch := (first | assumption | (unfold i32; omega) | (unfold i64; omega) | omega)) only [↓reduceIte, ki_0, ki_1, ki_2, ki_3, ki_4, ki_5, ki_6, ki_7, ki_8, ki_9, ki_10, ki_11, ki_12, ki_13, ki_14, ki_15, ki_20, ki_21, ki_30, ki_31, ki_40, ki_41, ki_50, ki_51, ki_60, ki_63, ki_64, ki_65, ki_100, ki_158, ki_160, ki_200, ki_212, ki_1000, ki_2000, ki_2001, ki_5000, ki_10000, ki_10001, ki_100000, ki_200000, ki_1000000, ki_2000000, ki_3000000, iO_neg, iO_add, iO_sub, iO_mul, kn_4, kn_8, kn_10, kn_20, kn_24, kn_40, kn_41, kn_50, kn_60, kn_158, kn_160, kn_200, kn_212, kn_2001, tn_lt, fn_lt, tn_le, fn_le, tn_eq, fn_eq, x_lt, x_le, x_eq, x_ix, x_nat, t_lt, f_lt, t_le, f_le, t_eq, f_eq, eq_self, and_self, true_and, and_true, false_and, and_false, if_true, if_false, Int.toNat_natCast, bI_s, bL_s, bA_s, bA_n, bV_s, mq_s, mq_n, en_le, bl_0, bl_1, u_eq, u_ne, w_eq, w_ne, v_eq, v_ne, ↓hp_cc_26, ↓hp_g_26_0, ↓hp_p_26_0, ↓hp_g_26_1, ↓hp_p_26_1, ↓hp_g_26_2, ↓hp_p_26_2, ↓hp_g_26_3, ↓hp_g_26_4, ↓hp_g_26_5, ↓hp_g_26_6, ↓hp_g_26_7, ↓hp_g_26_8, ↓hp_g_26_9, ↓hp_g_26_10, ↓hp_g_26_11, ↓hp_g_26_12, ↓hp_g_26_13, ↓hp_g_26_14, ↓hp_g_26_15, ↓hp_p_26_15, ↓hp_g_26_16, ↓hp_g_26_17, ↓hp_g_26_18, ↓hp_p_26_18, ↓hp_g_26_19, ↓hp_p_26_19, ↓hp_g_26_20, ↓hp_g_26_21, ↓hp_p_26_21, ↓hp_g_26_22, ↓hp_g_26_23, ↓hp_g_26_24, ↓hp_g_26_25, ↓hp_g_26_26, ↓hp_g_26_27, ↓hp_g_26_28, ↓hp_g_26_29, ↓hp_g_26_30, ↓hp_p_26_30, ↓hp_g_26_31, ↓hp_g_26_32, ↓hp_p_26_32, ↓hp_a_27, ↓hp_s_27, ↓hp_l_27, ↓hp_a_28, ↓hp_s_28, ↓hp_l_28, ↓hp_a_29, ↓hp_s_29, ↓hp_l_29, ↓hp_a_30, ↓hp_s_30, ↓hp_l_30, ↓hp_a_31, ↓hp_s_31, ↓hp_l_31, ↓hp_a_32, ↓hp_s_32, ↓hp_l_32, ↓hp_a_33, ↓hp_s_33, ↓hp_l_33, ↓hp_a_34, ↓hp_s_34, ↓hp_l_34, ↓hp_a_35, ↓hp_s_35, ↓hp_l_35, ↓hp_a_36, ↓hp_s_36, ↓hp_l_36, ↓hp_a_37, ↓hp_s_37, ↓hp_l_37, ↓hp_a_38, ↓hp_s_38, ↓hp_l_38, ↓hp_a_39, ↓hp_s_39, ↓hp_a_40, ↓hp_s_40, ↓hp_a_41, ↓hp_s_41, ↓hp_l_41, ↓hp_a_42, ↓hp_s_42, ↓hp_l_42, ↓hp_a_43, ↓hp_s_43, ↓hp_l_43, ↓hp_a_44, ↓hp_s_44, ↓hp_l_44, ↓hp_a_45, ↓hp_s_45, ↓hp_l_45, ↓hp_a_46, ↓hp_s_46, ↓hp_l_46, ↓hp_a_47, ↓hp_s_47, ↓hp_l_47, ↓hp_a_48, ↓hp_s_48, ↓hp_l_48, ↓hp_a_49, ↓hp_s_49, ↓hp_l_49, ↓hp_a_50, ↓hp_s_50, ↓hp_l_50, e1, e2, s1, s2, s3]
    rw [show (q' : Int) + 1 + -1 = (q' : Int) by omega]
theorem m_addGap (hk : k < 8) (hS : SL l.1 l.2.1 l.2.2.1 l.2.2.2) {gx gy : Int} (h1 : -1181 ≤ gx) (h2 : gx ≤ 1181) (h3 : -60 ≤ gy) (h4 : gy ≤ 60) {st : G4} {a : Nat} (hB : GB st a) (ha : a < 60) {MI : Nat → Int32} {MA : Nat → Nat → Int32} (hM : MS MA k l.1 l.2.1 l.2.2.1 l.2.2.2) (hx : MA 15 a = iO gx) (hy : MA 16 a = iO gy) (hG : GMM st MI MA) : ∃ MI' MA', b_X12_gapsOf_8 sc (d + 2) 26 (iO (n : Int)) (iO (k : Int)) (iO (a : Int)) (iO 0) (hp XI XA XP XC MI MA ML D) = b_X12_gapsOf_7 sc (d + 2) 26 (iO (n : Int)) (iO (k : Int)) (iO ((a : Int) + 1)) (hp XI XA XP XC MI' MA' ML D) ∧ GMM (gadd l gx gy st) MI' MA' ∧ (∀ s, s ≠ 7 → MI' s = MI s) ∧ (∀ m, m ≠ 17 → m ≠ 18 → m ≠ 19 → MA' m = MA m) := by
  obtain ⟨b1, b2⟩ := hB
  obtain ⟨g1, g2⟩ := hG
  have hbs : ∀ p, p < st.1 → f_X12_against_ sc (d + 2) 26 (iO (k : Int)) (iO gx) (iO gy) (iO (st.2.2.1 p)) (iO (st.2.2.2 p)) (hp XI XA XP XC MI MA ML D) = some (some (.int (iO (sgn l (gx - st.2.2.1 p) (gy - st.2.2.2 p)))), hp XI XA XP XC MI MA ML D) := by
    intro p hpk
    obtain ⟨-, -, c1, c2, c3, c4⟩ := b2 p hpk
    exact m_beside hk hM hS h1 h2 h3 h4 c1 c2 c3 c4
  have hrs : ∀ p, sgn l (gx - st.2.2.1 p) (gy - st.2.2.2 p) = -1 ∨ sgn l (gx - st.2.2.1 p) (gy - st.2.2.2 p) = 0 ∨ sgn l (gx - st.2.2.1 p) (gy - st.2.2.2 p) = 1 := fun p => sg_range _ _ _
  have find : ∀ (j p : Nat), p + j = st.1 → b_X12_gapsOf_8 sc (d + 2) 26 (iO (n : Int)) (iO (k : Int)) (iO (a : Int)) (iO (p : Int)) (hp XI XA XP XC MI MA ML D) = b_X12_gapsOf_9 sc (d + 2) 26 (iO (n : Int)) (iO (k : Int)) (iO (a : Int)) (iO ((gfnd (fun t => sgn l (gx - st.2.2.1 t) (gy - st.2.2.2 t)) j p : Nat) : Int)) (hp XI XA XP XC MI MA ML D) := by
    intro j
    induction j with
    | zero =>
      intro p hpk
      rw [eb_X12_gapsOf_8, gfnd]
      clear g2 b2 hbs hrs hM
      simp (disch := (first | assumption | (unfold i32; omega) | (unfold i64; omega) | omega)) only [↓reduceIte, ki_0, ki_1, ki_2, ki_3, ki_4, ki_5, ki_6, ki_7, ki_8, ki_9, ki_10, ki_11, ki_12, ki_13, ki_14, ki_15, ki_20, ki_21, ki_30, ki_31, ki_40, ki_41, ki_50, ki_51, ki_60, ki_63, ki_64, ki_65, ki_100, ki_158, ki_160, ki_200, ki_212, ki_1000, ki_2000, ki_2001, ki_5000, ki_10000, ki_10001, ki_100000, ki_200000, ki_1000000, ki_2000000, ki_3000000, iO_neg, iO_add, iO_sub, iO_mul, kn_4, kn_8, kn_10, kn_20, kn_24, kn_40, kn_41, kn_50, kn_60, kn_158, kn_160, kn_200, kn_212, kn_2001, tn_lt, fn_lt, tn_le, fn_le, tn_eq, fn_eq, x_lt, x_le, x_eq, x_ix, x_nat, t_lt, f_lt, t_le, f_le, t_eq, f_eq, eq_self, and_self, true_and, and_true, false_and, and_false, if_true, if_false, Int.toNat_natCast, bI_s, bL_s, bA_s, bA_n, bV_s, mq_s, mq_n, en_le, bl_0, bl_1, u_eq, u_ne, w_eq, w_ne, v_eq, v_ne, ↓hp_cc_26, ↓hp_g_26_0, ↓hp_p_26_0, ↓hp_g_26_1, ↓hp_p_26_1, ↓hp_g_26_2, ↓hp_p_26_2, ↓hp_g_26_3, ↓hp_g_26_4, ↓hp_g_26_5, ↓hp_g_26_6, ↓hp_g_26_7, ↓hp_g_26_8, ↓hp_g_26_9, ↓hp_g_26_10, ↓hp_g_26_11, ↓hp_g_26_12, ↓hp_g_26_13, ↓hp_g_26_14, ↓hp_g_26_15, ↓hp_p_26_15, ↓hp_g_26_16, ↓hp_g_26_17, ↓hp_g_26_18, ↓hp_p_26_18, ↓hp_g_26_19, ↓hp_p_26_19, ↓hp_g_26_20, ↓hp_g_26_21, ↓hp_p_26_21, ↓hp_g_26_22, ↓hp_g_26_23, ↓hp_g_26_24, ↓hp_g_26_25, ↓hp_g_26_26, ↓hp_g_26_27, ↓hp_g_26_28, ↓hp_g_26_29, ↓hp_g_26_30, ↓hp_p_26_30, ↓hp_g_26_31, ↓hp_g_26_32, ↓hp_p_26_32, ↓hp_a_27, ↓hp_s_27, ↓hp_l_27, ↓hp_a_28, ↓hp_s_28, ↓hp_l_28, ↓hp_a_29, ↓hp_s_29, ↓hp_l_29, ↓hp_a_30, ↓hp_s_30, ↓hp_l_30, ↓hp_a_31, ↓hp_s_31, ↓hp_l_31, ↓hp_a_32, ↓hp_s_32, ↓hp_l_32, ↓hp_a_33, ↓hp_s_33, ↓hp_l_33, ↓hp_a_34, ↓hp_s_34, ↓hp_l_34, ↓hp_a_35, ↓hp_s_35, ↓hp_l_35, ↓hp_a_36, ↓hp_s_36, ↓hp_l_36, ↓hp_a_37, ↓hp_s_37, ↓hp_l_37, ↓hp_a_38, ↓hp_s_38, ↓hp_l_38, ↓hp_a_39, ↓hp_s_39, ↓hp_a_40, ↓hp_s_40, ↓hp_a_41, ↓hp_s_41, ↓hp_l_41, ↓hp_a_42, ↓hp_s_42, ↓hp_l_42, ↓hp_a_43, ↓hp_s_43, ↓hp_l_43, ↓hp_a_44, ↓hp_s_44, ↓hp_l_44, ↓hp_a_45, ↓hp_s_45, ↓hp_l_45, ↓hp_a_46, ↓hp_s_46, ↓hp_l_46, ↓hp_a_47, ↓hp_s_47, ↓hp_l_47, ↓hp_a_48, ↓hp_s_48, ↓hp_l_48, ↓hp_a_49, ↓hp_s_49, ↓hp_l_49, ↓hp_a_50, ↓hp_s_50, ↓hp_l_50, g1]
    | succ j ih =>
      intro p hpk
      have hb := hbs p (by omega)
      have hr := hrs p
      obtain ⟨-, t4, t5⟩ := g2 p (by omega)
      have ih' := ih (p + 1) (by omega)
      rw [eb_X12_gapsOf_8, gfnd]
      show _ = b_X12_gapsOf_9 sc (d + 2) 26 (iO (n : Int)) (iO (k : Int)) (iO (a : Int)) (iO ((if sgn l (gx - st.2.2.1 p) (gy - st.2.2.2 p) < 0 then gfnd (fun t => sgn l (gx - st.2.2.1 t) (gy - st.2.2.2 t)) j (p + 1) else p : Nat) : Int)) _
      generalize sgn l (gx - st.2.2.1 p) (gy - st.2.2.2 p) = s at *
      by_cases c : s < 0
      · rw [if_pos c, ← ih']
        have : i32 s := by unfold i32; omega
        clear g2 b2 hbs hrs ih ih' hM hr
        simp (disch := (first | assumption | (unfold i32; omega) | (unfold i64; omega) | omega)) only [↓reduceIte, ki_0, ki_1, ki_2, ki_3, ki_4, ki_5, ki_6, ki_7, ki_8, ki_9, ki_10, ki_11, ki_12, ki_13, ki_14, ki_15, ki_20, ki_21, ki_30, ki_31, ki_40, ki_41, ki_50, ki_51, ki_60, ki_63, ki_64, ki_65, ki_100, ki_158, ki_160, ki_200, ki_212, ki_1000, ki_2000, ki_2001, ki_5000, ki_10000, ki_10001, ki_100000, ki_200000, ki_1000000, ki_2000000, ki_3000000, iO_neg, iO_add, iO_sub, iO_mul, kn_4, kn_8, kn_10, kn_20, kn_24, kn_40, kn_41, kn_50, kn_60, kn_158, kn_160, kn_200, kn_212, kn_2001, tn_lt, fn_lt, tn_le, fn_le, tn_eq, fn_eq, x_lt, x_le, x_eq, x_ix, x_nat, t_lt, f_lt, t_le, f_le, t_eq, f_eq, eq_self, and_self, true_and, and_true, false_and, and_false, if_true, if_false, Int.toNat_natCast, bI_s, bL_s, bA_s, bA_n, bV_s, mq_s, mq_n, en_le, bl_0, bl_1, u_eq, u_ne, w_eq, w_ne, v_eq, v_ne, ↓hp_cc_26, ↓hp_g_26_0, ↓hp_p_26_0, ↓hp_g_26_1, ↓hp_p_26_1, ↓hp_g_26_2, ↓hp_p_26_2, ↓hp_g_26_3, ↓hp_g_26_4, ↓hp_g_26_5, ↓hp_g_26_6, ↓hp_g_26_7, ↓hp_g_26_8, ↓hp_g_26_9, ↓hp_g_26_10, ↓hp_g_26_11, ↓hp_g_26_12, ↓hp_g_26_13, ↓hp_g_26_14, ↓hp_g_26_15, ↓hp_p_26_15, ↓hp_g_26_16, ↓hp_g_26_17, ↓hp_g_26_18, ↓hp_p_26_18, ↓hp_g_26_19, ↓hp_p_26_19, ↓hp_g_26_20, ↓hp_g_26_21, ↓hp_p_26_21, ↓hp_g_26_22, ↓hp_g_26_23, ↓hp_g_26_24, ↓hp_g_26_25, ↓hp_g_26_26, ↓hp_g_26_27, ↓hp_g_26_28, ↓hp_g_26_29, ↓hp_g_26_30, ↓hp_p_26_30, ↓hp_g_26_31, ↓hp_g_26_32, ↓hp_p_26_32, ↓hp_a_27, ↓hp_s_27, ↓hp_l_27, ↓hp_a_28, ↓hp_s_28, ↓hp_l_28, ↓hp_a_29, ↓hp_s_29, ↓hp_l_29, ↓hp_a_30, ↓hp_s_30, ↓hp_l_30, ↓hp_a_31, ↓hp_s_31, ↓hp_l_31, ↓hp_a_32, ↓hp_s_32, ↓hp_l_32, ↓hp_a_33, ↓hp_s_33, ↓hp_l_33, ↓hp_a_34, ↓hp_s_34, ↓hp_l_34, ↓hp_a_35, ↓hp_s_35, ↓hp_l_35, ↓hp_a_36, ↓hp_s_36, ↓hp_l_36, ↓hp_a_37, ↓hp_s_37, ↓hp_l_37, ↓hp_a_38, ↓hp_s_38, ↓hp_l_38, ↓hp_a_39, ↓hp_s_39, ↓hp_a_40, ↓hp_s_40, ↓hp_a_41, ↓hp_s_41, ↓hp_l_41, ↓hp_a_42, ↓hp_s_42, ↓hp_l_42, ↓hp_a_43, ↓hp_s_43, ↓hp_l_43, ↓hp_a_44, ↓hp_s_44, ↓hp_l_44, ↓hp_a_45, ↓hp_s_45, ↓hp_l_45, ↓hp_a_46, ↓hp_s_46, ↓hp_l_46, ↓hp_a_47, ↓hp_s_47, ↓hp_l_47, ↓hp_a_48, ↓hp_s_48, ↓hp_l_48, ↓hp_a_49, ↓hp_s_49, ↓hp_l_49, ↓hp_a_50, ↓hp_s_50, ↓hp_l_50, g1, hx, hy, t4, t5, hb]
        try rfl
      · rw [if_neg c]
        have c : 0 ≤ s := by omega
        have : i32 s := by unfold i32; omega
        clear g2 b2 hbs hrs ih ih' hM hr
        simp (disch := (first | assumption | (unfold i32; omega) | (unfold i64; omega) | omega)) only [↓reduceIte, ki_0, ki_1, ki_2, ki_3, ki_4, ki_5, ki_6, ki_7, ki_8, ki_9, ki_10, ki_11, ki_12, ki_13, ki_14, ki_15, ki_20, ki_21, ki_30, ki_31, ki_40, ki_41, ki_50, ki_51, ki_60, ki_63, ki_64, ki_65, ki_100, ki_158, ki_160, ki_200, ki_212, ki_1000, ki_2000, ki_2001, ki_5000, ki_10000, ki_10001, ki_100000, ki_200000, ki_1000000, ki_2000000, ki_3000000, iO_neg, iO_add, iO_sub, iO_mul, kn_4, kn_8, kn_10, kn_20, kn_24, kn_40, kn_41, kn_50, kn_60, kn_158, kn_160, kn_200, kn_212, kn_2001, tn_lt, fn_lt, tn_le, fn_le, tn_eq, fn_eq, x_lt, x_le, x_eq, x_ix, x_nat, t_lt, f_lt, t_le, f_le, t_eq, f_eq, eq_self, and_self, true_and, and_true, false_and, and_false, if_true, if_false, Int.toNat_natCast, bI_s, bL_s, bA_s, bA_n, bV_s, mq_s, mq_n, en_le, bl_0, bl_1, u_eq, u_ne, w_eq, w_ne, v_eq, v_ne, ↓hp_cc_26, ↓hp_g_26_0, ↓hp_p_26_0, ↓hp_g_26_1, ↓hp_p_26_1, ↓hp_g_26_2, ↓hp_p_26_2, ↓hp_g_26_3, ↓hp_g_26_4, ↓hp_g_26_5, ↓hp_g_26_6, ↓hp_g_26_7, ↓hp_g_26_8, ↓hp_g_26_9, ↓hp_g_26_10, ↓hp_g_26_11, ↓hp_g_26_12, ↓hp_g_26_13, ↓hp_g_26_14, ↓hp_g_26_15, ↓hp_p_26_15, ↓hp_g_26_16, ↓hp_g_26_17, ↓hp_g_26_18, ↓hp_p_26_18, ↓hp_g_26_19, ↓hp_p_26_19, ↓hp_g_26_20, ↓hp_g_26_21, ↓hp_p_26_21, ↓hp_g_26_22, ↓hp_g_26_23, ↓hp_g_26_24, ↓hp_g_26_25, ↓hp_g_26_26, ↓hp_g_26_27, ↓hp_g_26_28, ↓hp_g_26_29, ↓hp_g_26_30, ↓hp_p_26_30, ↓hp_g_26_31, ↓hp_g_26_32, ↓hp_p_26_32, ↓hp_a_27, ↓hp_s_27, ↓hp_l_27, ↓hp_a_28, ↓hp_s_28, ↓hp_l_28, ↓hp_a_29, ↓hp_s_29, ↓hp_l_29, ↓hp_a_30, ↓hp_s_30, ↓hp_l_30, ↓hp_a_31, ↓hp_s_31, ↓hp_l_31, ↓hp_a_32, ↓hp_s_32, ↓hp_l_32, ↓hp_a_33, ↓hp_s_33, ↓hp_l_33, ↓hp_a_34, ↓hp_s_34, ↓hp_l_34, ↓hp_a_35, ↓hp_s_35, ↓hp_l_35, ↓hp_a_36, ↓hp_s_36, ↓hp_l_36, ↓hp_a_37, ↓hp_s_37, ↓hp_l_37, ↓hp_a_38, ↓hp_s_38, ↓hp_l_38, ↓hp_a_39, ↓hp_s_39, ↓hp_a_40, ↓hp_s_40, ↓hp_a_41, ↓hp_s_41, ↓hp_l_41, ↓hp_a_42, ↓hp_s_42, ↓hp_l_42, ↓hp_a_43, ↓hp_s_43, ↓hp_l_43, ↓hp_a_44, ↓hp_s_44, ↓hp_l_44, ↓hp_a_45, ↓hp_s_45, ↓hp_l_45, ↓hp_a_46, ↓hp_s_46, ↓hp_l_46, ↓hp_a_47, ↓hp_s_47, ↓hp_l_47, ↓hp_a_48, ↓hp_s_48, ↓hp_l_48, ↓hp_a_49, ↓hp_s_49, ↓hp_l_49, ↓hp_a_50, ↓hp_s_50, ↓hp_l_50, g1, hx, hy, t4, t5, hb]
  have hf := find st.1 0 (by omega)
  have hf : b_X12_gapsOf_8 sc (d + 2) 26 (iO (n : Int)) (iO (k : Int)) (iO (a : Int)) (iO 0) (hp XI XA XP XC MI MA ML D) = b_X12_gapsOf_9 sc (d + 2) 26 (iO (n : Int)) (iO (k : Int)) (iO (a : Int)) (iO ((gpl l gx gy st : Nat) : Int)) (hp XI XA XP XC MI MA ML D) := hf
  have hpl : gpl l gx gy st ≤ st.1 := by
    have := gfnd_bd (s := fun t => sgn l (gx - st.2.2.1 t) (gy - st.2.2.2 t)) st.1 0
    unfold gpl
    omega
  rw [hf]
  unfold gadd
  generalize gpl l gx gy st = p at *
  have new : ∃ MI' MA', b_X12_gapsOf_11 sc (d + 2) 26 (iO (n : Int)) (iO (k : Int)) (iO (a : Int)) (iO (p : Int)) (iO (st.1 : Int)) (hp XI XA XP XC MI MA ML D) = b_X12_gapsOf_7 sc (d + 2) 26 (iO (n : Int)) (iO (k : Int)) (iO ((a : Int) + 1)) (hp XI XA XP XC MI' MA' ML D) ∧ GMM (st.1 + 1, va_up (shf p st.1 st.2.1) p 1, va_up (shf p st.1 st.2.2.1) p gx, va_up (shf p st.1 st.2.2.2) p gy) MI' MA' ∧ (∀ s, s ≠ 7 → MI' s = MI s) ∧ (∀ m, m ≠ 17 → m ≠ 18 → m ≠ 19 → MA' m = MA m) :=
    m_insert (sc := sc) (d := d + 2) (XI := XI) (XA := XA) (XP := XP) (XC := XC) (ML := ML) (D := D) (n := n) ha hpl (by omega) (st.1 - p) st.1 MI MA (by omega) (Nat.le_refl _) g1 hx hy (fun t ht => ⟨fun h => by omega, fun h => g2 t h⟩)
  by_cases c1 : p < st.1
  · have hb := hbs p c1
    have hr := hrs p
    obtain ⟨t3, t4, t5⟩ := g2 p c1
    by_cases c2 : sgn l (gx - st.2.2.1 p) (gy - st.2.2.2 p) = 0
    · rw [if_pos ⟨c1, c2⟩]
      refine ⟨MI, va_up MA 19 (upd (MA 19) p (iO (st.2.1 p + 1))), ?_, ⟨g1, ?_⟩, fun _ _ => rfl, fun m _ _ h3 => w_ne h3⟩
      · rw [eb_X12_gapsOf_9]
        rw [c2] at hb
        clear g2 b2 hbs hrs find hf new hr hM
        simp (disch := (first | assumption | (unfold i32; omega) | (unfold i64; omega) | omega)) only [↓reduceIte, ki_0, ki_1, ki_2, ki_3, ki_4, ki_5, ki_6, ki_7, ki_8, ki_9, ki_10, ki_11, ki_12, ki_13, ki_14, ki_15, ki_20, ki_21, ki_30, ki_31, ki_40, ki_41, ki_50, ki_51, ki_60, ki_63, ki_64, ki_65, ki_100, ki_158, ki_160, ki_200, ki_212, ki_1000, ki_2000, ki_2001, ki_5000, ki_10000, ki_10001, ki_100000, ki_200000, ki_1000000, ki_2000000, ki_3000000, iO_neg, iO_add, iO_sub, iO_mul, kn_4, kn_8, kn_10, kn_20, kn_24, kn_40, kn_41, kn_50, kn_60, kn_158, kn_160, kn_200, kn_212, kn_2001, tn_lt, fn_lt, tn_le, fn_le, tn_eq, fn_eq, x_lt, x_le, x_eq, x_ix, x_nat, t_lt, f_lt, t_le, f_le, t_eq, f_eq, eq_self, and_self, true_and, and_true, false_and, and_false, if_true, if_false, Int.toNat_natCast, bI_s, bL_s, bA_s, bA_n, bV_s, mq_s, mq_n, en_le, bl_0, bl_1, u_eq, u_ne, w_eq, w_ne, v_eq, v_ne, ↓hp_cc_26, ↓hp_g_26_0, ↓hp_p_26_0, ↓hp_g_26_1, ↓hp_p_26_1, ↓hp_g_26_2, ↓hp_p_26_2, ↓hp_g_26_3, ↓hp_g_26_4, ↓hp_g_26_5, ↓hp_g_26_6, ↓hp_g_26_7, ↓hp_g_26_8, ↓hp_g_26_9, ↓hp_g_26_10, ↓hp_g_26_11, ↓hp_g_26_12, ↓hp_g_26_13, ↓hp_g_26_14, ↓hp_g_26_15, ↓hp_p_26_15, ↓hp_g_26_16, ↓hp_g_26_17, ↓hp_g_26_18, ↓hp_p_26_18, ↓hp_g_26_19, ↓hp_p_26_19, ↓hp_g_26_20, ↓hp_g_26_21, ↓hp_p_26_21, ↓hp_g_26_22, ↓hp_g_26_23, ↓hp_g_26_24, ↓hp_g_26_25, ↓hp_g_26_26, ↓hp_g_26_27, ↓hp_g_26_28, ↓hp_g_26_29, ↓hp_g_26_30, ↓hp_p_26_30, ↓hp_g_26_31, ↓hp_g_26_32, ↓hp_p_26_32, ↓hp_a_27, ↓hp_s_27, ↓hp_l_27, ↓hp_a_28, ↓hp_s_28, ↓hp_l_28, ↓hp_a_29, ↓hp_s_29, ↓hp_l_29, ↓hp_a_30, ↓hp_s_30, ↓hp_l_30, ↓hp_a_31, ↓hp_s_31, ↓hp_l_31, ↓hp_a_32, ↓hp_s_32, ↓hp_l_32, ↓hp_a_33, ↓hp_s_33, ↓hp_l_33, ↓hp_a_34, ↓hp_s_34, ↓hp_l_34, ↓hp_a_35, ↓hp_s_35, ↓hp_l_35, ↓hp_a_36, ↓hp_s_36, ↓hp_l_36, ↓hp_a_37, ↓hp_s_37, ↓hp_l_37, ↓hp_a_38, ↓hp_s_38, ↓hp_l_38, ↓hp_a_39, ↓hp_s_39, ↓hp_a_40, ↓hp_s_40, ↓hp_a_41, ↓hp_s_41, ↓hp_l_41, ↓hp_a_42, ↓hp_s_42, ↓hp_l_42, ↓hp_a_43, ↓hp_s_43, ↓hp_l_43, ↓hp_a_44, ↓hp_s_44, ↓hp_l_44, ↓hp_a_45, ↓hp_s_45, ↓hp_l_45, ↓hp_a_46, ↓hp_s_46, ↓hp_l_46, ↓hp_a_47, ↓hp_s_47, ↓hp_l_47, ↓hp_a_48, ↓hp_s_48, ↓hp_l_48, ↓hp_a_49, ↓hp_s_49, ↓hp_l_49, ↓hp_a_50, ↓hp_s_50, ↓hp_l_50, g1, hx, hy, t4, t5, hb, t3]
      · intro t ht
        have ht : t < st.1 := ht
        obtain ⟨r3, r4, r5⟩ := g2 t ht
        refine ⟨?_, r4, r5⟩
        show upd (MA 19) p (iO (st.2.1 p + 1)) t = iO (va_up st.2.1 p (st.2.1 p + 1) t)
        by_cases e : t = p
        · rw [u_eq e, w_eq e]
        · rw [u_ne e, w_ne e]; exact r3
    · rw [if_neg (fun q => c2 q.2)]
      obtain ⟨MI', MA', f1, f2⟩ := new
      refine ⟨MI', MA', ?_, f2⟩
      rw [← f1, eb_X12_gapsOf_9]
      generalize sgn l (gx - st.2.2.1 p) (gy - st.2.2.2 p) = s at *
      have : i32 s := by unfold i32; omega
      clear g2 b2 hbs hrs find hf f1 f2 hM hr
      simp (disch := (first | assumption | (unfold i32; omega) | (unfold i64; omega) | omega)) only [↓reduceIte, ki_0, ki_1, ki_2, ki_3, ki_4, ki_5, ki_6, ki_7, ki_8, ki_9, ki_10, ki_11, ki_12, ki_13, ki_14, ki_15, ki_20, ki_21, ki_30, ki_31, ki_40, ki_41, ki_50, ki_51, ki_60, ki_63, ki_64, ki_65, ki_100, ki_158, ki_160, ki_200, ki_212, ki_1000, ki_2000, ki_2001, ki_5000, ki_10000, ki_10001, ki_100000, ki_200000, ki_1000000, ki_2000000, ki_3000000, iO_neg, iO_add, iO_sub, iO_mul, kn_4, kn_8, kn_10, kn_20, kn_24, kn_40, kn_41, kn_50, kn_60, kn_158, kn_160, kn_200, kn_212, kn_2001, tn_lt, fn_lt, tn_le, fn_le, tn_eq, fn_eq, x_lt, x_le, x_eq, x_ix, x_nat, t_lt, f_lt, t_le, f_le, t_eq, f_eq, eq_self, and_self, true_and, and_true, false_and, and_false, if_true, if_false, Int.toNat_natCast, bI_s, bL_s, bA_s, bA_n, bV_s, mq_s, mq_n, en_le, bl_0, bl_1, u_eq, u_ne, w_eq, w_ne, v_eq, v_ne, ↓hp_cc_26, ↓hp_g_26_0, ↓hp_p_26_0, ↓hp_g_26_1, ↓hp_p_26_1, ↓hp_g_26_2, ↓hp_p_26_2, ↓hp_g_26_3, ↓hp_g_26_4, ↓hp_g_26_5, ↓hp_g_26_6, ↓hp_g_26_7, ↓hp_g_26_8, ↓hp_g_26_9, ↓hp_g_26_10, ↓hp_g_26_11, ↓hp_g_26_12, ↓hp_g_26_13, ↓hp_g_26_14, ↓hp_g_26_15, ↓hp_p_26_15, ↓hp_g_26_16, ↓hp_g_26_17, ↓hp_g_26_18, ↓hp_p_26_18, ↓hp_g_26_19, ↓hp_p_26_19, ↓hp_g_26_20, ↓hp_g_26_21, ↓hp_p_26_21, ↓hp_g_26_22, ↓hp_g_26_23, ↓hp_g_26_24, ↓hp_g_26_25, ↓hp_g_26_26, ↓hp_g_26_27, ↓hp_g_26_28, ↓hp_g_26_29, ↓hp_g_26_30, ↓hp_p_26_30, ↓hp_g_26_31, ↓hp_g_26_32, ↓hp_p_26_32, ↓hp_a_27, ↓hp_s_27, ↓hp_l_27, ↓hp_a_28, ↓hp_s_28, ↓hp_l_28, ↓hp_a_29, ↓hp_s_29, ↓hp_l_29, ↓hp_a_30, ↓hp_s_30, ↓hp_l_30, ↓hp_a_31, ↓hp_s_31, ↓hp_l_31, ↓hp_a_32, ↓hp_s_32, ↓hp_l_32, ↓hp_a_33, ↓hp_s_33, ↓hp_l_33, ↓hp_a_34, ↓hp_s_34, ↓hp_l_34, ↓hp_a_35, ↓hp_s_35, ↓hp_l_35, ↓hp_a_36, ↓hp_s_36, ↓hp_l_36, ↓hp_a_37, ↓hp_s_37, ↓hp_l_37, ↓hp_a_38, ↓hp_s_38, ↓hp_l_38, ↓hp_a_39, ↓hp_s_39, ↓hp_a_40, ↓hp_s_40, ↓hp_a_41, ↓hp_s_41, ↓hp_l_41, ↓hp_a_42, ↓hp_s_42, ↓hp_l_42, ↓hp_a_43, ↓hp_s_43, ↓hp_l_43, ↓hp_a_44, ↓hp_s_44, ↓hp_l_44, ↓hp_a_45, ↓hp_s_45, ↓hp_l_45, ↓hp_a_46, ↓hp_s_46, ↓hp_l_46, ↓hp_a_47, ↓hp_s_47, ↓hp_l_47, ↓hp_a_48, ↓hp_s_48, ↓hp_l_48, ↓hp_a_49, ↓hp_s_49, ↓hp_l_49, ↓hp_a_50, ↓hp_s_50, ↓hp_l_50, g1, hx, hy, t4, t5, hb]
  · rw [if_neg (fun q => c1 q.1)]
    obtain ⟨MI', MA', f1, f2⟩ := new
    refine ⟨MI', MA', ?_, f2⟩
    rw [← f1, eb_X12_gapsOf_9]
    clear g2 b2 hbs hrs find hf f1 f2 hM
    simp (disch := (first | assumption | (unfold i32; omega) | (unfold i64; omega) | omega)) only [↓reduceIte, ki_0, ki_1, ki_2, ki_3, ki_4, ki_5, ki_6, ki_7, ki_8, ki_9, ki_10, ki_11, ki_12, ki_13, ki_14, ki_15, ki_20, ki_21, ki_30, ki_31, ki_40, ki_41, ki_50, ki_51, ki_60, ki_63, ki_64, ki_65, ki_100, ki_158, ki_160, ki_200, ki_212, ki_1000, ki_2000, ki_2001, ki_5000, ki_10000, ki_10001, ki_100000, ki_200000, ki_1000000, ki_2000000, ki_3000000, iO_neg, iO_add, iO_sub, iO_mul, kn_4, kn_8, kn_10, kn_20, kn_24, kn_40, kn_41, kn_50, kn_60, kn_158, kn_160, kn_200, kn_212, kn_2001, tn_lt, fn_lt, tn_le, fn_le, tn_eq, fn_eq, x_lt, x_le, x_eq, x_ix, x_nat, t_lt, f_lt, t_le, f_le, t_eq, f_eq, eq_self, and_self, true_and, and_true, false_and, and_false, if_true, if_false, Int.toNat_natCast, bI_s, bL_s, bA_s, bA_n, bV_s, mq_s, mq_n, en_le, bl_0, bl_1, u_eq, u_ne, w_eq, w_ne, v_eq, v_ne, ↓hp_cc_26, ↓hp_g_26_0, ↓hp_p_26_0, ↓hp_g_26_1, ↓hp_p_26_1, ↓hp_g_26_2, ↓hp_p_26_2, ↓hp_g_26_3, ↓hp_g_26_4, ↓hp_g_26_5, ↓hp_g_26_6, ↓hp_g_26_7, ↓hp_g_26_8, ↓hp_g_26_9, ↓hp_g_26_10, ↓hp_g_26_11, ↓hp_g_26_12, ↓hp_g_26_13, ↓hp_g_26_14, ↓hp_g_26_15, ↓hp_p_26_15, ↓hp_g_26_16, ↓hp_g_26_17, ↓hp_g_26_18, ↓hp_p_26_18, ↓hp_g_26_19, ↓hp_p_26_19, ↓hp_g_26_20, ↓hp_g_26_21, ↓hp_p_26_21, ↓hp_g_26_22, ↓hp_g_26_23, ↓hp_g_26_24, ↓hp_g_26_25, ↓hp_g_26_26, ↓hp_g_26_27, ↓hp_g_26_28, ↓hp_g_26_29, ↓hp_g_26_30, ↓hp_p_26_30, ↓hp_g_26_31, ↓hp_g_26_32, ↓hp_p_26_32, ↓hp_a_27, ↓hp_s_27, ↓hp_l_27, ↓hp_a_28, ↓hp_s_28, ↓hp_l_28, ↓hp_a_29, ↓hp_s_29, ↓hp_l_29, ↓hp_a_30, ↓hp_s_30, ↓hp_l_30, ↓hp_a_31, ↓hp_s_31, ↓hp_l_31, ↓hp_a_32, ↓hp_s_32, ↓hp_l_32, ↓hp_a_33, ↓hp_s_33, ↓hp_l_33, ↓hp_a_34, ↓hp_s_34, ↓hp_l_34, ↓hp_a_35, ↓hp_s_35, ↓hp_l_35, ↓hp_a_36, ↓hp_s_36, ↓hp_l_36, ↓hp_a_37, ↓hp_s_37, ↓hp_l_37, ↓hp_a_38, ↓hp_s_38, ↓hp_l_38, ↓hp_a_39, ↓hp_s_39, ↓hp_a_40, ↓hp_s_40, ↓hp_a_41, ↓hp_s_41, ↓hp_l_41, ↓hp_a_42, ↓hp_s_42, ↓hp_l_42, ↓hp_a_43, ↓hp_s_43, ↓hp_l_43, ↓hp_a_44, ↓hp_s_44, ↓hp_l_44, ↓hp_a_45, ↓hp_s_45, ↓hp_l_45, ↓hp_a_46, ↓hp_s_46, ↓hp_l_46, ↓hp_a_47, ↓hp_s_47, ↓hp_l_47, ↓hp_a_48, ↓hp_s_48, ↓hp_l_48, ↓hp_a_49, ↓hp_s_49, ↓hp_l_49, ↓hp_a_50, ↓hp_s_50, ↓hp_l_50, g1]
theorem m_gaps7 (hk : k < 8) (hS : SL l.1 l.2.1 l.2.2.1 l.2.2.2) (hn : n ≤ 60) : ∀ (j a : Nat) (MI : Nat → Int32) (MA : Nat → Nat → Int32), a + j = n → MS MA k l.1 l.2.1 l.2.2.1 l.2.2.2 → (∀ t, t < n → MA 15 t = iO (gxf l n t) ∧ MA 16 t = iO (gyf l n t)) → GMM (gst l (gxf l n) (gyf l n) a) MI MA →
    ∃ MI' MA', b_X12_gapsOf_7 sc (d + 2) 26 (iO (n : Int)) (iO (k : Int)) (iO (a : Int)) (hp XI XA XP XC MI MA ML D) = some (none, hp XI XA XP XC MI' MA' ML D) ∧ GMM (gsts l n) MI' MA' ∧ (∀ s, s ≠ 7 → MI' s = MI s) ∧ (∀ m, m ≠ 17 → m ≠ 18 → m ≠ 19 → MA' m = MA m) := by
  intro j
  induction j with
  | zero =>
    intro a MI MA ha hM hxy hG
    obtain rfl : a = n := by omega
    refine ⟨MI, MA, ?_, hG, fun _ _ => rfl, fun _ _ _ _ => rfl⟩
    rw [eb_X12_gapsOf_7]
    clear hxy hG hM
    simp (disch := (first | assumption | (unfold i32; omega) | (unfold i64; omega) | omega)) only [↓reduceIte, ki_0, ki_1, ki_2, ki_3, ki_4, ki_5, ki_6, ki_7, ki_8, ki_9, ki_10, ki_11, ki_12, ki_13, ki_14, ki_15, ki_20, ki_21, ki_30, ki_31, ki_40, ki_41, ki_50, ki_51, ki_60, ki_63, ki_64, ki_65, ki_100, ki_158, ki_160, ki_200, ki_212, ki_1000, ki_2000, ki_2001, ki_5000, ki_10000, ki_10001, ki_100000, ki_200000, ki_1000000, ki_2000000, ki_3000000, iO_neg, iO_add, iO_sub, iO_mul, kn_4, kn_8, kn_10, kn_20, kn_24, kn_40, kn_41, kn_50, kn_60, kn_158, kn_160, kn_200, kn_212, kn_2001, tn_lt, fn_lt, tn_le, fn_le, tn_eq, fn_eq, x_lt, x_le, x_eq, x_ix, x_nat, t_lt, f_lt, t_le, f_le, t_eq, f_eq, eq_self, and_self, true_and, and_true, false_and, and_false, if_true, if_false, Int.toNat_natCast, bI_s, bL_s, bA_s, bA_n, bV_s, mq_s, mq_n, en_le, bl_0, bl_1, u_eq, u_ne, w_eq, w_ne, v_eq, v_ne]
  | succ j ih =>
    intro a MI MA ha hM hxy hG
    obtain ⟨c1, c2, c3, c4, c5⟩ := gf_bd hS hn (a := a) (by omega)
    obtain ⟨hx, hy⟩ := hxy a (by omega)
    have hB := gst_bd (l := l) (gx := gxf l n) (gy := gyf l n) (n := n) (fun i hi => by obtain ⟨q1, q2, q3, q4, -⟩ := gf_bd hS hn hi; exact ⟨q1, q2, q3, q4⟩) a (by omega)
    obtain ⟨MI1, MA1, f1, f2, f3, f4⟩ := m_addGap (sc := sc) (d := d) (XI := XI) (XA := XA) (XP := XP) (XC := XC) (ML := ML) (D := D) (n := n) hk hS c1 c2 c3 c4 hB (by omega) hM hx hy hG
    obtain ⟨q0, q1, q2, q3⟩ := hM
    obtain ⟨MI', MA', k1, k2, k3, k4⟩ := ih (a + 1) MI1 MA1 (by omega) ⟨by rw [f4 0 (by decide) (by decide) (by decide)]; exact q0, by rw [f4 1 (by decide) (by decide) (by decide)]; exact q1, by rw [f4 2 (by decide) (by decide) (by decide)]; exact q2, by rw [f4 3 (by decide) (by decide) (by decide)]; exact q3⟩ (fun t ht => by rw [f4 15 (by decide) (by decide) (by decide), f4 16 (by decide) (by decide) (by decide)]; exact hxy t ht) f2
    refine ⟨MI', MA', ?_, k2, fun s hs => by rw [k3 s hs, f3 s hs], fun m h3 h4 h5 => by rw [k4 m h3 h4 h5, f4 m h3 h4 h5]⟩
    rw [← k1]
    refine Eq.trans ?_ f1
    rw [eb_X12_gapsOf_7, if_neg (nle (a := (n : Int)) (b := (a : Int)) (by unfold i32; omega) (by unfold i32; omega) (by omega))]
    rfl
theorem m_gaps1 (hS : SL l.1 l.2.1 l.2.2.1 l.2.2.2) (hn : n ≤ 60) {MI : Nat → Int32} : ∀ (j i : Nat) (MA : Nat → Nat → Int32), i + j = n → (∀ t, t < n → MA 14 t = iO (WN l t)) → (∀ t, t < n → MA 13 t = iO (ords l n t : Int)) → (∀ t, t < i → MA 15 (ords l n t) = iO (gxf l n (ords l n t)) ∧ MA 16 (ords l n t) = iO (gyf l n (ords l n t))) →
    ∃ MA', b_X12_gapsOf_1 sc d 26 (iO (n : Int)) (iO (k : Int)) (iO (i : Int)) (hp XI XA XP XC MI MA ML D) = b_X12_gapsOf_7 sc d 26 (iO (n : Int)) (iO (k : Int)) (iO 0) (hp XI XA XP XC MI MA' ML D) ∧ (∀ m, m ≠ 15 → m ≠ 16 → MA' m = MA m) ∧ (∀ t, t < n → MA' 15 (ords l n t) = iO (gxf l n (ords l n t)) ∧ MA' 16 (ords l n t) = iO (gyf l n (ords l n t))) := by
  have hpm : perm (ords l n) n := ordr_perm (ah := ahd l) n
  intro j
  induction j with
  | zero =>
    intro i MA hi h14 h13 hxy
    obtain rfl : i = n := by omega
    refine ⟨MA, ?_, fun _ _ _ => rfl, hxy⟩
    rw [eb_X12_gapsOf_1]
    clear h14 h13 hxy hpm
    simp (disch := (first | assumption | (unfold i32; omega) | (unfold i64; omega) | omega)) only [↓reduceIte, ki_0, ki_1, ki_2, ki_3, ki_4, ki_5, ki_6, ki_7, ki_8, ki_9, ki_10, ki_11, ki_12, ki_13, ki_14, ki_15, ki_20, ki_21, ki_30, ki_31, ki_40, ki_41, ki_50, ki_51, ki_60, ki_63, ki_64, ki_65, ki_100, ki_158, ki_160, ki_200, ki_212, ki_1000, ki_2000, ki_2001, ki_5000, ki_10000, ki_10001, ki_100000, ki_200000, ki_1000000, ki_2000000, ki_3000000, iO_neg, iO_add, iO_sub, iO_mul, kn_4, kn_8, kn_10, kn_20, kn_24, kn_40, kn_41, kn_50, kn_60, kn_158, kn_160, kn_200, kn_212, kn_2001, tn_lt, fn_lt, tn_le, fn_le, tn_eq, fn_eq, x_lt, x_le, x_eq, x_ix, x_nat, t_lt, f_lt, t_le, f_le, t_eq, f_eq, eq_self, and_self, true_and, and_true, false_and, and_false, if_true, if_false, Int.toNat_natCast, bI_s, bL_s, bA_s, bA_n, bV_s, mq_s, mq_n, en_le, bl_0, bl_1, u_eq, u_ne, w_eq, w_ne, v_eq, v_ne]
  | succ j ih =>
    intro i MA hi h14 h13 hxy
    have t13 := h13 i (by omega)
    have b1 := hpm.1 i (by omega)
    have hin := inv_of hpm (t := i) (by omega)
    have hnx : nxt (ords l n) n (ords l n i) = nxo (ords l n) n i := by unfold nxt; rw [hin]
    have b2 := nxt_lt hpm (t := i) (by omega)
    have t14 := h14 (ords l n i) b1
    have t14b := h14 (nxo (ords l n) n i) b2
    have w1 := WN_bd hS (N := ords l n i) (by omega)
    have w2 := WN_bd hS (N := nxo (ords l n) n i) (by omega)
    obtain ⟨MA', f1, f2, f3⟩ := ih (i + 1) (va_up (va_up MA 15 (upd (MA 15) (ords l n i) (iO (gxf l n (ords l n i))))) 16 (upd (MA 16) (ords l n i) (iO (gyf l n (ords l n i))))) (by omega) h14 h13 (by
      intro t ht
      show upd (MA 15) (ords l n i) (iO (gxf l n (ords l n i))) (ords l n t) = _ ∧ upd (MA 16) (ords l n i) (iO (gyf l n (ords l n i))) (ords l n t) = _
      by_cases e : t = i
      · rw [e, u_eq rfl, u_eq rfl]
        exact ⟨rfl, rfl⟩
      · rw [u_ne (fun q => e (hpm.2.1 t i (by omega) (by omega) q)), u_ne (fun q => e (hpm.2.1 t i (by omega) (by omega) q))]
        exact hxy t (by omega))
    refine ⟨MA', ?_, fun m h1 h2 => by rw [f2 m h1 h2, w_ne h2, w_ne h1], f3⟩
    have eX : gxf l n (ords l n i) = WN l (ords l n i) - WN l (nxo (ords l n) n i) + (if i + 1 = n then 1 else 0) := by
      unfold gxf
      rw [hnx, hin]
    have eY : gyf l n (ords l n i) = (nxo (ords l n) n i : Int) - (ords l n i : Int) := by
      unfold gyf
      rw [hnx]
    rw [eX, eY] at f1
    rw [← f1, eb_X12_gapsOf_1]
    by_cases c : i + 1 < n
    · have enx : nxo (ords l n) n i = ords l n (i + 1) := if_pos c
      have t13b := h13 (i + 1) c
      rw [← enx] at t13b
      rw [if_neg (show ¬ i + 1 = n by omega)]
      have e1 : ((i : Int) + 1).toNat = i + 1 := by omega
      generalize WN l (nxo (ords l n) n i) = Q at *
      generalize nxo (ords l n) n i = N at *
      generalize WN l (ords l n i) = P at *
      generalize ords l n i = O at *
      clear f1 f2 f3 ih h14 h13 hxy hpm eX eY enx hin hnx
      simp (disch := (first | assumption | (unfold i32; omega) | (unfold i64; omega) | omega)) only [↓reduceIte, ki_0, ki_1, ki_2, ki_3, ki_4, ki_5, ki_6, ki_7, ki_8, ki_9, ki_10, ki_11, ki_12, ki_13, ki_14, ki_15, ki_20, ki_21, ki_30, ki_31, ki_40, ki_41, ki_50, ki_51, ki_60, ki_63, ki_64, ki_65, ki_100, ki_158, ki_160, ki_200, ki_212, ki_1000, ki_2000, ki_2001, ki_5000, ki_10000, ki_10001, ki_100000, ki_200000, ki_1000000, ki_2000000, ki_3000000, iO_neg, iO_add, iO_sub, iO_mul, kn_4, kn_8, kn_10, kn_20, kn_24, kn_40, kn_41, kn_50, kn_60, kn_158, kn_160, kn_200, kn_212, kn_2001, tn_lt, fn_lt, tn_le, fn_le, tn_eq, fn_eq, x_lt, x_le, x_eq, x_ix, x_nat, t_lt, f_lt, t_le, f_le, t_eq, f_eq, eq_self, and_self, true_and, and_true, false_and, and_false, if_true, if_false, Int.toNat_natCast, bI_s, bL_s, bA_s, bA_n, bV_s, mq_s, mq_n, en_le, bl_0, bl_1, u_eq, u_ne, w_eq, w_ne, v_eq, v_ne, ↓hp_cc_26, ↓hp_g_26_0, ↓hp_p_26_0, ↓hp_g_26_1, ↓hp_p_26_1, ↓hp_g_26_2, ↓hp_p_26_2, ↓hp_g_26_3, ↓hp_g_26_4, ↓hp_g_26_5, ↓hp_g_26_6, ↓hp_g_26_7, ↓hp_g_26_8, ↓hp_g_26_9, ↓hp_g_26_10, ↓hp_g_26_11, ↓hp_g_26_12, ↓hp_g_26_13, ↓hp_g_26_14, ↓hp_g_26_15, ↓hp_p_26_15, ↓hp_g_26_16, ↓hp_g_26_17, ↓hp_g_26_18, ↓hp_p_26_18, ↓hp_g_26_19, ↓hp_p_26_19, ↓hp_g_26_20, ↓hp_g_26_21, ↓hp_p_26_21, ↓hp_g_26_22, ↓hp_g_26_23, ↓hp_g_26_24, ↓hp_g_26_25, ↓hp_g_26_26, ↓hp_g_26_27, ↓hp_g_26_28, ↓hp_g_26_29, ↓hp_g_26_30, ↓hp_p_26_30, ↓hp_g_26_31, ↓hp_g_26_32, ↓hp_p_26_32, ↓hp_a_27, ↓hp_s_27, ↓hp_l_27, ↓hp_a_28, ↓hp_s_28, ↓hp_l_28, ↓hp_a_29, ↓hp_s_29, ↓hp_l_29, ↓hp_a_30, ↓hp_s_30, ↓hp_l_30, ↓hp_a_31, ↓hp_s_31, ↓hp_l_31, ↓hp_a_32, ↓hp_s_32, ↓hp_l_32, ↓hp_a_33, ↓hp_s_33, ↓hp_l_33, ↓hp_a_34, ↓hp_s_34, ↓hp_l_34, ↓hp_a_35, ↓hp_s_35, ↓hp_l_35, ↓hp_a_36, ↓hp_s_36, ↓hp_l_36, ↓hp_a_37, ↓hp_s_37, ↓hp_l_37, ↓hp_a_38, ↓hp_s_38, ↓hp_l_38, ↓hp_a_39, ↓hp_s_39, ↓hp_a_40, ↓hp_s_40, ↓hp_a_41, ↓hp_s_41, ↓hp_l_41, ↓hp_a_42, ↓hp_s_42, ↓hp_l_42, ↓hp_a_43, ↓hp_s_43, ↓hp_l_43, ↓hp_a_44, ↓hp_s_44, ↓hp_l_44, ↓hp_a_45, ↓hp_s_45, ↓hp_l_45, ↓hp_a_46, ↓hp_s_46, ↓hp_l_46, ↓hp_a_47, ↓hp_s_47, ↓hp_l_47, ↓hp_a_48, ↓hp_s_48, ↓hp_l_48, ↓hp_a_49, ↓hp_s_49, ↓hp_l_49, ↓hp_a_50, ↓hp_s_50, ↓hp_l_50, t13, eb_X12_gapsOf_3_1, eb_X12_gapsOf_5_1, e1, t13b, t14, t14b]
      try rfl
    · have enx : nxo (ords l n) n i = ords l n 0 := if_neg c
      have t13b := h13 0 (by omega)
      rw [← enx] at t13b
      rw [if_pos (show i + 1 = n by omega)]
      have e0 : (0 : Int).toNat = 0 := rfl
      generalize WN l (nxo (ords l n) n i) = Q at *
      generalize nxo (ords l n) n i = N at *
      generalize WN l (ords l n i) = P at *
      generalize ords l n i = O at *
      clear f1 f2 f3 ih h14 h13 hxy hpm eX eY enx hin hnx
      simp (disch := (first | assumption | (unfold i32; omega) | (unfold i64; omega) | omega)) only [↓reduceIte, ki_0, ki_1, ki_2, ki_3, ki_4, ki_5, ki_6, ki_7, ki_8, ki_9, ki_10, ki_11, ki_12, ki_13, ki_14, ki_15, ki_20, ki_21, ki_30, ki_31, ki_40, ki_41, ki_50, ki_51, ki_60, ki_63, ki_64, ki_65, ki_100, ki_158, ki_160, ki_200, ki_212, ki_1000, ki_2000, ki_2001, ki_5000, ki_10000, ki_10001, ki_100000, ki_200000, ki_1000000, ki_2000000, ki_3000000, iO_neg, iO_add, iO_sub, iO_mul, kn_4, kn_8, kn_10, kn_20, kn_24, kn_40, kn_41, kn_50, kn_60, kn_158, kn_160, kn_200, kn_212, kn_2001, tn_lt, fn_lt, tn_le, fn_le, tn_eq, fn_eq, x_lt, x_le, x_eq, x_ix, x_nat, t_lt, f_lt, t_le, f_le, t_eq, f_eq, eq_self, and_self, true_and, and_true, false_and, and_false, if_true, if_false, Int.toNat_natCast, bI_s, bL_s, bA_s, bA_n, bV_s, mq_s, mq_n, en_le, bl_0, bl_1, u_eq, u_ne, w_eq, w_ne, v_eq, v_ne, ↓hp_cc_26, ↓hp_g_26_0, ↓hp_p_26_0, ↓hp_g_26_1, ↓hp_p_26_1, ↓hp_g_26_2, ↓hp_p_26_2, ↓hp_g_26_3, ↓hp_g_26_4, ↓hp_g_26_5, ↓hp_g_26_6, ↓hp_g_26_7, ↓hp_g_26_8, ↓hp_g_26_9, ↓hp_g_26_10, ↓hp_g_26_11, ↓hp_g_26_12, ↓hp_g_26_13, ↓hp_g_26_14, ↓hp_g_26_15, ↓hp_p_26_15, ↓hp_g_26_16, ↓hp_g_26_17, ↓hp_g_26_18, ↓hp_p_26_18, ↓hp_g_26_19, ↓hp_p_26_19, ↓hp_g_26_20, ↓hp_g_26_21, ↓hp_p_26_21, ↓hp_g_26_22, ↓hp_g_26_23, ↓hp_g_26_24, ↓hp_g_26_25, ↓hp_g_26_26, ↓hp_g_26_27, ↓hp_g_26_28, ↓hp_g_26_29, ↓hp_g_26_30, ↓hp_p_26_30, ↓hp_g_26_31, ↓hp_g_26_32, ↓hp_p_26_32, ↓hp_a_27, ↓hp_s_27, ↓hp_l_27, ↓hp_a_28, ↓hp_s_28, ↓hp_l_28, ↓hp_a_29, ↓hp_s_29, ↓hp_l_29, ↓hp_a_30, ↓hp_s_30, ↓hp_l_30, ↓hp_a_31, ↓hp_s_31, ↓hp_l_31, ↓hp_a_32, ↓hp_s_32, ↓hp_l_32, ↓hp_a_33, ↓hp_s_33, ↓hp_l_33, ↓hp_a_34, ↓hp_s_34, ↓hp_l_34, ↓hp_a_35, ↓hp_s_35, ↓hp_l_35, ↓hp_a_36, ↓hp_s_36, ↓hp_l_36, ↓hp_a_37, ↓hp_s_37, ↓hp_l_37, ↓hp_a_38, ↓hp_s_38, ↓hp_l_38, ↓hp_a_39, ↓hp_s_39, ↓hp_a_40, ↓hp_s_40, ↓hp_a_41, ↓hp_s_41, ↓hp_l_41, ↓hp_a_42, ↓hp_s_42, ↓hp_l_42, ↓hp_a_43, ↓hp_s_43, ↓hp_l_43, ↓hp_a_44, ↓hp_s_44, ↓hp_l_44, ↓hp_a_45, ↓hp_s_45, ↓hp_l_45, ↓hp_a_46, ↓hp_s_46, ↓hp_l_46, ↓hp_a_47, ↓hp_s_47, ↓hp_l_47, ↓hp_a_48, ↓hp_s_48, ↓hp_l_48, ↓hp_a_49, ↓hp_s_49, ↓hp_l_49, ↓hp_a_50, ↓hp_s_50, ↓hp_l_50, t13, eb_X12_gapsOf_3_1, eb_X12_gapsOf_5_1, e0, t13b, t14, t14b]
      try rfl
theorem m_gapsOf {MI : Nat → Int32} {MA : Nat → Nat → Int32} {r : Nat} (hr : r < 10) (h6 : MA 6 r = iO (k : Int)) (hk : k < 8) (hM : MS MA k l.1 l.2.1 l.2.2.1 l.2.2.2) (hS : SL l.1 l.2.1 l.2.2.1 l.2.2.2) (hn : n ≤ 60) : ∃ MI' MA', f_X12_gapsOf sc (d + 6) 26 (iO (r : Int)) (iO (n : Int)) (hp XI XA XP XC MI MA ML D) = some (none, hp XI XA XP XC MI' MA' ML D) ∧ GMM (gsts l n) MI' MA' ∧ (∀ s, s ≠ 7 → MI' s = MI s) ∧ (∀ m, m < 13 ∨ 20 ≤ m → MA' m = MA m) := by
  have hpm : perm (ords l n) n := ordr_perm (ah := ahd l) n
  obtain ⟨MA1, f1, f2, f3, f4⟩ := m_rings (sc := sc) (d := d) (XI := XI) (XA := XA) (XP := XP) (XC := XC) (MI := MI) (ML := ML) (D := D) (n := n) hk hS hn n 0 MA (by omega) hM (fun t ht => by omega) (fun t ht => by omega)
  have f1' : f_X12_rings sc (d + 5) 26 (iO (k : Int)) (iO (n : Int)) (hp XI XA XP XC MI MA ML D) = some (none, hp XI XA XP XC MI MA1 ML D) := (e_X12_rings _ _ _ _ _ _).trans f1
  obtain ⟨MA2, g1, g2, g3⟩ := m_gaps1 (sc := sc) (d := d + 5) (XI := XI) (XA := XA) (XP := XP) (XC := XC) (ML := ML) (D := D) (k := k) (n := n) hS hn (MI := va_up MI 7 (iO 0)) n 0 MA1 (by omega) f3 f4 (fun t ht => by omega)
  have hxy : ∀ a, a < n → MA2 15 a = iO (gxf l n a) ∧ MA2 16 a = iO (gyf l n a) := by
    intro a ha
    obtain ⟨t, t1, t2⟩ := hpm.2.2 a ha
    have := g3 t t1
    rw [t2] at this
    exact this
  have hM2 : MS MA2 k l.1 l.2.1 l.2.2.1 l.2.2.2 := by
    obtain ⟨q0, q1, q2, q3⟩ := hM
    exact ⟨by rw [g2 0 (by decide) (by decide), f2 0 (by decide) (by decide)]; exact q0, by rw [g2 1 (by decide) (by decide), f2 1 (by decide) (by decide)]; exact q1, by rw [g2 2 (by decide) (by decide), f2 2 (by decide) (by decide)]; exact q2, by rw [g2 3 (by decide) (by decide), f2 3 (by decide) (by decide)]; exact q3⟩
  obtain ⟨MI', MA', k1, k2, k3, k4⟩ := m_gaps7 (sc := sc) (d := d + 3) (XI := XI) (XA := XA) (XP := XP) (XC := XC) (ML := ML) (D := D) (n := n) hk hS hn n 0 (va_up MI 7 (iO 0)) MA2 (by omega) hM2 hxy ⟨rfl, fun t ht => by have : t < 0 := ht; omega⟩
  refine ⟨MI', MA', ?_, k2, fun s hs => by rw [k3 s hs, w_ne hs], fun m hm => by rw [k4 m (by omega) (by omega) (by omega), g2 m (by omega) (by omega), f2 m (by omega) (by omega)]⟩
  rw [← k1]
  refine Eq.trans ?_ g1
  rw [e_X12_gapsOf]
  clear f1 f2 f3 f4 g1 g2 g3 hxy hM2 hM k1 k2 k3 k4 hpm
  simp (disch := (first | assumption | (unfold i32; omega) | (unfold i64; omega) | omega)) only [↓reduceIte, ki_0, ki_1, ki_2, ki_3, ki_4, ki_5, ki_6, ki_7, ki_8, ki_9, ki_10, ki_11, ki_12, ki_13, ki_14, ki_15, ki_20, ki_21, ki_30, ki_31, ki_40, ki_41, ki_50, ki_51, ki_60, ki_63, ki_64, ki_65, ki_100, ki_158, ki_160, ki_200, ki_212, ki_1000, ki_2000, ki_2001, ki_5000, ki_10000, ki_10001, ki_100000, ki_200000, ki_1000000, ki_2000000, ki_3000000, iO_neg, iO_add, iO_sub, iO_mul, kn_4, kn_8, kn_10, kn_20, kn_24, kn_40, kn_41, kn_50, kn_60, kn_158, kn_160, kn_200, kn_212, kn_2001, tn_lt, fn_lt, tn_le, fn_le, tn_eq, fn_eq, x_lt, x_le, x_eq, x_ix, x_nat, t_lt, f_lt, t_le, f_le, t_eq, f_eq, eq_self, and_self, true_and, and_true, false_and, and_false, if_true, if_false, Int.toNat_natCast, bI_s, bL_s, bA_s, bA_n, bV_s, mq_s, mq_n, en_le, bl_0, bl_1, u_eq, u_ne, w_eq, w_ne, v_eq, v_ne, ↓hp_cc_26, ↓hp_g_26_0, ↓hp_p_26_0, ↓hp_g_26_1, ↓hp_p_26_1, ↓hp_g_26_2, ↓hp_p_26_2, ↓hp_g_26_3, ↓hp_g_26_4, ↓hp_g_26_5, ↓hp_g_26_6, ↓hp_g_26_7, ↓hp_g_26_8, ↓hp_g_26_9, ↓hp_g_26_10, ↓hp_g_26_11, ↓hp_g_26_12, ↓hp_g_26_13, ↓hp_g_26_14, ↓hp_g_26_15, ↓hp_p_26_15, ↓hp_g_26_16, ↓hp_g_26_17, ↓hp_g_26_18, ↓hp_p_26_18, ↓hp_g_26_19, ↓hp_p_26_19, ↓hp_g_26_20, ↓hp_g_26_21, ↓hp_p_26_21, ↓hp_g_26_22, ↓hp_g_26_23, ↓hp_g_26_24, ↓hp_g_26_25, ↓hp_g_26_26, ↓hp_g_26_27, ↓hp_g_26_28, ↓hp_g_26_29, ↓hp_g_26_30, ↓hp_p_26_30, ↓hp_g_26_31, ↓hp_g_26_32, ↓hp_p_26_32, ↓hp_a_27, ↓hp_s_27, ↓hp_l_27, ↓hp_a_28, ↓hp_s_28, ↓hp_l_28, ↓hp_a_29, ↓hp_s_29, ↓hp_l_29, ↓hp_a_30, ↓hp_s_30, ↓hp_l_30, ↓hp_a_31, ↓hp_s_31, ↓hp_l_31, ↓hp_a_32, ↓hp_s_32, ↓hp_l_32, ↓hp_a_33, ↓hp_s_33, ↓hp_l_33, ↓hp_a_34, ↓hp_s_34, ↓hp_l_34, ↓hp_a_35, ↓hp_s_35, ↓hp_l_35, ↓hp_a_36, ↓hp_s_36, ↓hp_l_36, ↓hp_a_37, ↓hp_s_37, ↓hp_l_37, ↓hp_a_38, ↓hp_s_38, ↓hp_l_38, ↓hp_a_39, ↓hp_s_39, ↓hp_a_40, ↓hp_s_40, ↓hp_a_41, ↓hp_s_41, ↓hp_l_41, ↓hp_a_42, ↓hp_s_42, ↓hp_l_42, ↓hp_a_43, ↓hp_s_43, ↓hp_l_43, ↓hp_a_44, ↓hp_s_44, ↓hp_l_44, ↓hp_a_45, ↓hp_s_45, ↓hp_l_45, ↓hp_a_46, ↓hp_s_46, ↓hp_l_46, ↓hp_a_47, ↓hp_s_47, ↓hp_l_47, ↓hp_a_48, ↓hp_s_48, ↓hp_l_48, ↓hp_a_49, ↓hp_s_49, ↓hp_l_49, ↓hp_a_50, ↓hp_s_50, ↓hp_l_50, h6, f1']
  try rfl
theorem m_follows3 {MI : Nat → Int32} {MA : Nat → Nat → Int32} (hn : n ≤ 60) (h13 : ∀ t, t < n → MA 13 t = iO (ords l n t : Int)) {a : Nat} (ha : a < n) : ∀ (j i : Nat), i + j = inv (ords l n) a n → b_X12_follows_3 sc d 26 (iO (n : Int)) (iO (a : Int)) (iO (i : Int)) (hp XI XA XP XC MI MA ML D) = some (some (.int (iO (nxt (ords l n) n a : Int))), hp XI XA XP XC MI MA ML D) := by
  have hpm : perm (ords l n) n := ordr_perm (ah := ahd l) n
  obtain ⟨q1, q2⟩ := inv_at (o := ords l n) (a := a) n (hpm.2.2 a ha)
  intro j
  induction j with
  | zero =>
    intro i hi
    have hi : i = inv (ords l n) a n := by omega
    have t13 := h13 i (by omega)
    rw [hi, q2] at t13
    rw [← hi] at t13
    have hnx : nxt (ords l n) n a = nxo (ords l n) n i := by unfold nxt; rw [← hi]
    rw [hnx, eb_X12_follows_3]
    have hin : i < n := by omega
    by_cases c : i + 1 < n
    · have enx : nxo (ords l n) n i = ords l n (i + 1) := if_pos c
      have t13b := h13 (i + 1) c
      have e1 : ((i : Int) + 1).toNat = i + 1 := by omega
      rw [enx]
      generalize ords l n (i + 1) = N at *
      clear h13 hpm q1 q2 hi hnx enx
      simp (disch := (first | assumption | (unfold i32; omega) | (unfold i64; omega) | omega)) only [↓reduceIte, ki_0, ki_1, ki_2, ki_3, ki_4, ki_5, ki_6, ki_7, ki_8, ki_9, ki_10, ki_11, ki_12, ki_13, ki_14, ki_15, ki_20, ki_21, ki_30, ki_31, ki_40, ki_41, ki_50, ki_51, ki_60, ki_63, ki_64, ki_65, ki_100, ki_158, ki_160, ki_200, ki_212, ki_1000, ki_2000, ki_2001, ki_5000, ki_10000, ki_10001, ki_100000, ki_200000, ki_1000000, ki_2000000, ki_3000000, iO_neg, iO_add, iO_sub, iO_mul, kn_4, kn_8, kn_10, kn_20, kn_24, kn_40, kn_41, kn_50, kn_60, kn_158, kn_160, kn_200, kn_212, kn_2001, tn_lt, fn_lt, tn_le, fn_le, tn_eq, fn_eq, x_lt, x_le, x_eq, x_ix, x_nat, t_lt, f_lt, t_le, f_le, t_eq, f_eq, eq_self, and_self, true_and, and_true, false_and, and_false, if_true, if_false, Int.toNat_natCast, bI_s, bL_s, bA_s, bA_n, bV_s, mq_s, mq_n, en_le, bl_0, bl_1, u_eq, u_ne, w_eq, w_ne, v_eq, v_ne, ↓hp_cc_26, ↓hp_g_26_0, ↓hp_p_26_0, ↓hp_g_26_1, ↓hp_p_26_1, ↓hp_g_26_2, ↓hp_p_26_2, ↓hp_g_26_3, ↓hp_g_26_4, ↓hp_g_26_5, ↓hp_g_26_6, ↓hp_g_26_7, ↓hp_g_26_8, ↓hp_g_26_9, ↓hp_g_26_10, ↓hp_g_26_11, ↓hp_g_26_12, ↓hp_g_26_13, ↓hp_g_26_14, ↓hp_g_26_15, ↓hp_p_26_15, ↓hp_g_26_16, ↓hp_g_26_17, ↓hp_g_26_18, ↓hp_p_26_18, ↓hp_g_26_19, ↓hp_p_26_19, ↓hp_g_26_20, ↓hp_g_26_21, ↓hp_p_26_21, ↓hp_g_26_22, ↓hp_g_26_23, ↓hp_g_26_24, ↓hp_g_26_25, ↓hp_g_26_26, ↓hp_g_26_27, ↓hp_g_26_28, ↓hp_g_26_29, ↓hp_g_26_30, ↓hp_p_26_30, ↓hp_g_26_31, ↓hp_g_26_32, ↓hp_p_26_32, ↓hp_a_27, ↓hp_s_27, ↓hp_l_27, ↓hp_a_28, ↓hp_s_28, ↓hp_l_28, ↓hp_a_29, ↓hp_s_29, ↓hp_l_29, ↓hp_a_30, ↓hp_s_30, ↓hp_l_30, ↓hp_a_31, ↓hp_s_31, ↓hp_l_31, ↓hp_a_32, ↓hp_s_32, ↓hp_l_32, ↓hp_a_33, ↓hp_s_33, ↓hp_l_33, ↓hp_a_34, ↓hp_s_34, ↓hp_l_34, ↓hp_a_35, ↓hp_s_35, ↓hp_l_35, ↓hp_a_36, ↓hp_s_36, ↓hp_l_36, ↓hp_a_37, ↓hp_s_37, ↓hp_l_37, ↓hp_a_38, ↓hp_s_38, ↓hp_l_38, ↓hp_a_39, ↓hp_s_39, ↓hp_a_40, ↓hp_s_40, ↓hp_a_41, ↓hp_s_41, ↓hp_l_41, ↓hp_a_42, ↓hp_s_42, ↓hp_l_42, ↓hp_a_43, ↓hp_s_43, ↓hp_l_43, ↓hp_a_44, ↓hp_s_44, ↓hp_l_44, ↓hp_a_45, ↓hp_s_45, ↓hp_l_45, ↓hp_a_46, ↓hp_s_46, ↓hp_l_46, ↓hp_a_47, ↓hp_s_47, ↓hp_l_47, ↓hp_a_48, ↓hp_s_48, ↓hp_l_48, ↓hp_a_49, ↓hp_s_49, ↓hp_l_49, ↓hp_a_50, ↓hp_s_50, ↓hp_l_50, t13, e1, t13b]
    · have enx : nxo (ords l n) n i = ords l n 0 := if_neg c
      have t13b := h13 0 (by omega)
      have e0 : (0 : Int).toNat = 0 := rfl
      rw [enx]
      generalize ords l n 0 = N at *
      clear h13 hpm q1 q2 hi hnx enx
      simp (disch := (first | assumption | (unfold i32; omega) | (unfold i64; omega) | omega)) only [↓reduceIte, ki_0, ki_1, ki_2, ki_3, ki_4, ki_5, ki_6, ki_7, ki_8, ki_9, ki_10, ki_11, ki_12, ki_13, ki_14, ki_15, ki_20, ki_21, ki_30, ki_31, ki_40, ki_41, ki_50, ki_51, ki_60, ki_63, ki_64, ki_65, ki_100, ki_158, ki_160, ki_200, ki_212, ki_1000, ki_2000, ki_2001, ki_5000, ki_10000, ki_10001, ki_100000, ki_200000, ki_1000000, ki_2000000, ki_3000000, iO_neg, iO_add, iO_sub, iO_mul, kn_4, kn_8, kn_10, kn_20, kn_24, kn_40, kn_41, kn_50, kn_60, kn_158, kn_160, kn_200, kn_212, kn_2001, tn_lt, fn_lt, tn_le, fn_le, tn_eq, fn_eq, x_lt, x_le, x_eq, x_ix, x_nat, t_lt, f_lt, t_le, f_le, t_eq, f_eq, eq_self, and_self, true_and, and_true, false_and, and_false, if_true, if_false, Int.toNat_natCast, bI_s, bL_s, bA_s, bA_n, bV_s, mq_s, mq_n, en_le, bl_0, bl_1, u_eq, u_ne, w_eq, w_ne, v_eq, v_ne, ↓hp_cc_26, ↓hp_g_26_0, ↓hp_p_26_0, ↓hp_g_26_1, ↓hp_p_26_1, ↓hp_g_26_2, ↓hp_p_26_2, ↓hp_g_26_3, ↓hp_g_26_4, ↓hp_g_26_5, ↓hp_g_26_6, ↓hp_g_26_7, ↓hp_g_26_8, ↓hp_g_26_9, ↓hp_g_26_10, ↓hp_g_26_11, ↓hp_g_26_12, ↓hp_g_26_13, ↓hp_g_26_14, ↓hp_g_26_15, ↓hp_p_26_15, ↓hp_g_26_16, ↓hp_g_26_17, ↓hp_g_26_18, ↓hp_p_26_18, ↓hp_g_26_19, ↓hp_p_26_19, ↓hp_g_26_20, ↓hp_g_26_21, ↓hp_p_26_21, ↓hp_g_26_22, ↓hp_g_26_23, ↓hp_g_26_24, ↓hp_g_26_25, ↓hp_g_26_26, ↓hp_g_26_27, ↓hp_g_26_28, ↓hp_g_26_29, ↓hp_g_26_30, ↓hp_p_26_30, ↓hp_g_26_31, ↓hp_g_26_32, ↓hp_p_26_32, ↓hp_a_27, ↓hp_s_27, ↓hp_l_27, ↓hp_a_28, ↓hp_s_28, ↓hp_l_28, ↓hp_a_29, ↓hp_s_29, ↓hp_l_29, ↓hp_a_30, ↓hp_s_30, ↓hp_l_30, ↓hp_a_31, ↓hp_s_31, ↓hp_l_31, ↓hp_a_32, ↓hp_s_32, ↓hp_l_32, ↓hp_a_33, ↓hp_s_33, ↓hp_l_33, ↓hp_a_34, ↓hp_s_34, ↓hp_l_34, ↓hp_a_35, ↓hp_s_35, ↓hp_l_35, ↓hp_a_36, ↓hp_s_36, ↓hp_l_36, ↓hp_a_37, ↓hp_s_37, ↓hp_l_37, ↓hp_a_38, ↓hp_s_38, ↓hp_l_38, ↓hp_a_39, ↓hp_s_39, ↓hp_a_40, ↓hp_s_40, ↓hp_a_41, ↓hp_s_41, ↓hp_l_41, ↓hp_a_42, ↓hp_s_42, ↓hp_l_42, ↓hp_a_43, ↓hp_s_43, ↓hp_l_43, ↓hp_a_44, ↓hp_s_44, ↓hp_l_44, ↓hp_a_45, ↓hp_s_45, ↓hp_l_45, ↓hp_a_46, ↓hp_s_46, ↓hp_l_46, ↓hp_a_47, ↓hp_s_47, ↓hp_l_47, ↓hp_a_48, ↓hp_s_48, ↓hp_l_48, ↓hp_a_49, ↓hp_s_49, ↓hp_l_49, ↓hp_a_50, ↓hp_s_50, ↓hp_l_50, t13, e0, t13b]
  | succ j ih =>
    intro i hi
    have t13 := h13 i (by omega)
    have hne : ords l n i ≠ a := fun e => by
      have := hpm.2.1 i (inv (ords l n) a n) (by omega) q1 (by rw [q2]; exact e)
      omega
    have b1 := hpm.1 i (by omega)
    rw [← ih (i + 1) (by omega), eb_X12_follows_3]
    generalize ords l n i = N at *
    clear h13 hpm q2 ih
    simp (disch := (first | assumption | (unfold i32; omega) | (unfold i64; omega) | omega)) only [↓reduceIte, ki_0, ki_1, ki_2, ki_3, ki_4, ki_5, ki_6, ki_7, ki_8, ki_9, ki_10, ki_11, ki_12, ki_13, ki_14, ki_15, ki_20, ki_21, ki_30, ki_31, ki_40, ki_41, ki_50, ki_51, ki_60, ki_63, ki_64, ki_65, ki_100, ki_158, ki_160, ki_200, ki_212, ki_1000, ki_2000, ki_2001, ki_5000, ki_10000, ki_10001, ki_100000, ki_200000, ki_1000000, ki_2000000, ki_3000000, iO_neg, iO_add, iO_sub, iO_mul, kn_4, kn_8, kn_10, kn_20, kn_24, kn_40, kn_41, kn_50, kn_60, kn_158, kn_160, kn_200, kn_212, kn_2001, tn_lt, fn_lt, tn_le, fn_le, tn_eq, fn_eq, x_lt, x_le, x_eq, x_ix, x_nat, t_lt, f_lt, t_le, f_le, t_eq, f_eq, eq_self, and_self, true_and, and_true, false_and, and_false, if_true, if_false, Int.toNat_natCast, bI_s, bL_s, bA_s, bA_n, bV_s, mq_s, mq_n, en_le, bl_0, bl_1, u_eq, u_ne, w_eq, w_ne, v_eq, v_ne, ↓hp_cc_26, ↓hp_g_26_0, ↓hp_p_26_0, ↓hp_g_26_1, ↓hp_p_26_1, ↓hp_g_26_2, ↓hp_p_26_2, ↓hp_g_26_3, ↓hp_g_26_4, ↓hp_g_26_5, ↓hp_g_26_6, ↓hp_g_26_7, ↓hp_g_26_8, ↓hp_g_26_9, ↓hp_g_26_10, ↓hp_g_26_11, ↓hp_g_26_12, ↓hp_g_26_13, ↓hp_g_26_14, ↓hp_g_26_15, ↓hp_p_26_15, ↓hp_g_26_16, ↓hp_g_26_17, ↓hp_g_26_18, ↓hp_p_26_18, ↓hp_g_26_19, ↓hp_p_26_19, ↓hp_g_26_20, ↓hp_g_26_21, ↓hp_p_26_21, ↓hp_g_26_22, ↓hp_g_26_23, ↓hp_g_26_24, ↓hp_g_26_25, ↓hp_g_26_26, ↓hp_g_26_27, ↓hp_g_26_28, ↓hp_g_26_29, ↓hp_g_26_30, ↓hp_p_26_30, ↓hp_g_26_31, ↓hp_g_26_32, ↓hp_p_26_32, ↓hp_a_27, ↓hp_s_27, ↓hp_l_27, ↓hp_a_28, ↓hp_s_28, ↓hp_l_28, ↓hp_a_29, ↓hp_s_29, ↓hp_l_29, ↓hp_a_30, ↓hp_s_30, ↓hp_l_30, ↓hp_a_31, ↓hp_s_31, ↓hp_l_31, ↓hp_a_32, ↓hp_s_32, ↓hp_l_32, ↓hp_a_33, ↓hp_s_33, ↓hp_l_33, ↓hp_a_34, ↓hp_s_34, ↓hp_l_34, ↓hp_a_35, ↓hp_s_35, ↓hp_l_35, ↓hp_a_36, ↓hp_s_36, ↓hp_l_36, ↓hp_a_37, ↓hp_s_37, ↓hp_l_37, ↓hp_a_38, ↓hp_s_38, ↓hp_l_38, ↓hp_a_39, ↓hp_s_39, ↓hp_a_40, ↓hp_s_40, ↓hp_a_41, ↓hp_s_41, ↓hp_l_41, ↓hp_a_42, ↓hp_s_42, ↓hp_l_42, ↓hp_a_43, ↓hp_s_43, ↓hp_l_43, ↓hp_a_44, ↓hp_s_44, ↓hp_l_44, ↓hp_a_45, ↓hp_s_45, ↓hp_l_45, ↓hp_a_46, ↓hp_s_46, ↓hp_l_46, ↓hp_a_47, ↓hp_s_47, ↓hp_l_47, ↓hp_a_48, ↓hp_s_48, ↓hp_l_48, ↓hp_a_49, ↓hp_s_49, ↓hp_l_49, ↓hp_a_50, ↓hp_s_50, ↓hp_l_50, t13]
    try rfl
end GPM
-- FILE 99d
/-! gaps, gap, follows: both sides -/
noncomputable def ptq (S : ST5) (r n : Int) : Option SL4 := match rowq S r with
  | none => none
  | some q => if q.1 = 4 ∧ 1 ≤ n ∧ n ≤ 60 then (match S.1[q.2.1.toNat]? with
    | none => none
    | some l => if l.2.1 ≠ 0 ∨ n ≤ l.2.2.1 / (Int.gcd l.1 l.2.2.1 : Nat) then some l else none) else none
noncomputable def p_gaps (S : ST5) (r n : Int) : Int := match ptq S r n with
  | none => -1
  | some l => ((gsts l n.toNat).1 : Int)
noncomputable def p_gap (S : ST5) (r n i w : Int) : Int := match ptq S r n with
  | none => -1000000
  | some l => if 0 ≤ w ∧ w ≤ 2 ∧ 0 ≤ i ∧ i < ((gsts l n.toNat).1 : Int) then (if w = 0 then (gsts l n.toNat).2.1 i.toNat else if w = 1 then (gsts l n.toNat).2.2.1 i.toNat else (gsts l n.toNat).2.2.2 i.toNat) else -1000000
noncomputable def p_follows (S : ST5) (r n i : Int) : Int := match ptq S r n with
  | none => -1
  | some l => if 0 ≤ i ∧ i < n then (nxt (ords l n.toNat) n.toNat i.toNat : Int) else -1
theorem ptq_some {S : ST5} {r n : Int} {l : SL4} (h : ptq S r n = some l) : ∃ q, rowq S r = some q ∧ q.1 = 4 ∧ 1 ≤ n ∧ n ≤ 60 ∧ S.1[q.2.1.toNat]? = some l ∧ (l.2.1 ≠ 0 ∨ n ≤ l.2.2.1 / (Int.gcd l.1 l.2.2.1 : Nat)) := by
  unfold ptq at h
  cases hq : rowq S r with
  | none => rw [hq] at h; cases h
  | some q =>
    rw [hq] at h
    dsimp only at h
    split at h
    · rename_i g
      cases hl : S.1[q.2.1.toNat]? with
      | none => rw [hl] at h; cases h
      | some l' =>
        rw [hl] at h
        dsimp only at h
        split at h
        · rename_i g2
          cases h
          exact ⟨q, rfl, g.1, g.2.1, g.2.2, hl, g2⟩
        · cases h
    · cases h
section PTS
variable {sc : en_S} {n : Nat} {S : ST5}
theorem m_arePoints {XI : Nat → Int32} {XA : Nat → Nat → Int32} {XP : Nat → Nat → Option Nat} {XC : Value} {MI : Nat → Int32} {MA : Nat → Nat → Int32} {ML : Nat → Nat → Int64} {D : en_H} (hV : MV S MI MA) (hS : OK5 S) {r m : Int} (hr : i32 r) (hm : i32 m) : f_X12_arePoints sc (n + 4) 26 (iO r) (iO m) (hp XI XA XP XC MI MA ML D) = some (some (.int (iO (if (ptq S r m).isSome = true then 1 else 0))), hp XI XA XP XC MI MA ML D) := by
  obtain ⟨m1, m2⟩ := id hm
  have h10 := hS.2.1
  have h8 := hS.1
  cases hq : rowq S r with
  | none =>
    have := rowq_none hq
    have hpt : ptq S r m = none := by unfold ptq; rw [hq]
    rw [hpt, Option.isSome_none, if_neg Bool.false_ne_true, e_X12_arePoints, hp_cc_26, if_pos rfl, e_misRow (n := n + 1) hV hS hr, if_neg (by omega)]
    rfl
  | some q =>
    obtain ⟨k, rfl, hk, hq2⟩ := rowq_some hq
    obtain ⟨c1, c2, c3, c4⟩ := hV.2.2.2.2.2.1 k q hq2
    have hR := hS.2.2.2.1 q (List.mem_of_getElem? hq2)
    have hrow := e_misRow (sc := sc) (n := n + 1) (XI := XI) (XA := XA) (XP := XP) (XC := XC) (ML := ML) (D0 := D) hV hS hr
    rw [if_pos (by omega)] at hrow
    have hq0 := hR.1
    have hq4 := hR.2.1
    by_cases g1 : q.1 = 4
    · have hs0 : 0 ≤ q.2.1 := (hR.2.2.2.2.2.2.1 g1).2
      have hs1 : q.2.1 < S.1.length := hR.2.2.2.1
      by_cases g2 : 1 ≤ m ∧ m ≤ 60
      · obtain ⟨l, hl⟩ : ∃ l, S.1[q.2.1.toNat]? = some l := ⟨_, List.getElem?_eq_getElem (by omega)⟩
        have hpt : ptq S (k : Int) m = if l.2.1 ≠ 0 ∨ m ≤ l.2.2.1 / (Int.gcd l.1 l.2.2.1 : Nat) then some l else none := by
          unfold ptq
          rw [hq]
          dsimp only
          rw [if_pos (show q.1 = 4 ∧ 1 ≤ m ∧ m ≤ 60 from ⟨g1, g2.1, g2.2⟩), hl]
        obtain ⟨m0, mb, mc, md⟩ := hV.2.2.2.2.1 _ l hl
        have hSL := hS.2.2.1 l (List.mem_of_getElem? hl)
        obtain ⟨a1, a2, b1, b2, e1, e2, d1, d2, -⟩ := id hSL
        obtain ⟨s, hs⟩ : ∃ s : Nat, q.2.1 = s := ⟨q.2.1.toNat, by omega⟩
        have hss : q.2.1.toNat = s := by omega
        rw [hs] at c3 hs1 hs0
        rw [hss] at m0 mb mc md
        obtain ⟨g3, g4⟩ := g2
        have hcm := m_common (sc := sc) (n := n + 2) (a := l.1) (b := l.2.2.1) (z := hp XI XA XP XC MI MA ML D) (by omega) (by omega) (by omega) (by omega)
        have hg0 : 0 < Int.gcd l.1 l.2.2.1 := Int.gcd_pos_of_ne_zero_right _ (by omega)
        have hg1 : Int.gcd l.1 l.2.2.1 ≤ l.2.2.1.natAbs := Nat.gcd_le_right _ (by omega)
        have hdv := lO_dvd (u := l.2.2.1) (g := Int.gcd l.1 l.2.2.1) (by omega) (by omega) hg0 (by omega) (Int.gcd_dvd_right _ _)
        have hrg := ed_rng (a := l.2.2.1) (b := ((Int.gcd l.1 l.2.2.1 : Nat) : Int)) (k := 100) (by omega) (by omega) (by omega) (by omega)
        generalize Int.gcd l.1 l.2.2.1 = G at *
        generalize l.2.2.1 / ((G : Nat) : Int) = V at *
        by_cases g5 : l.2.1 = 0
        · by_cases g6 : m ≤ V
          · rw [if_pos (Or.inr g6)] at hpt
            rw [hpt, Option.isSome_some, if_pos rfl, e_X12_arePoints]
            clear hV c4 hR hpt
            simp (disch := (first | assumption | (unfold i32; omega) | (unfold i64; omega) | omega)) only [↓reduceIte, ki_0, ki_1, ki_2, ki_3, ki_4, ki_5, ki_6, ki_7, ki_8, ki_9, ki_10, ki_11, ki_12, ki_13, ki_14, ki_15, ki_20, ki_21, ki_30, ki_31, ki_40, ki_41, ki_50, ki_51, ki_60, ki_63, ki_64, ki_65, ki_100, ki_158, ki_160, ki_200, ki_212, ki_1000, ki_2000, ki_2001, ki_5000, ki_10000, ki_10001, ki_100000, ki_200000, ki_1000000, ki_2000000, ki_3000000, iO_neg, iO_add, iO_sub, iO_mul, kn_4, kn_8, kn_10, kn_20, kn_24, kn_40, kn_41, kn_50, kn_60, kn_158, kn_160, kn_200, kn_212, kn_2001, tn_lt, fn_lt, tn_le, fn_le, tn_eq, fn_eq, x_lt, x_le, x_eq, x_ix, x_nat, t_lt, f_lt, t_le, f_le, t_eq, f_eq, eq_self, and_self, true_and, and_true, false_and, and_false, if_true, if_false, Int.toNat_natCast, bI_s, bL_s, bA_s, bA_n, bV_s, mq_s, mq_n, en_le, bl_0, bl_1, u_eq, u_ne, w_eq, w_ne, v_eq, v_ne, ↓hp_cc_26, ↓hp_g_26_0, ↓hp_p_26_0, ↓hp_g_26_1, ↓hp_p_26_1, ↓hp_g_26_2, ↓hp_p_26_2, ↓hp_g_26_3, ↓hp_g_26_4, ↓hp_g_26_5, ↓hp_g_26_6, ↓hp_g_26_7, ↓hp_g_26_8, ↓hp_g_26_9, ↓hp_g_26_10, ↓hp_g_26_11, ↓hp_g_26_12, ↓hp_g_26_13, ↓hp_g_26_14, ↓hp_g_26_15, ↓hp_p_26_15, ↓hp_g_26_16, ↓hp_g_26_17, ↓hp_g_26_18, ↓hp_p_26_18, ↓hp_g_26_19, ↓hp_p_26_19, ↓hp_g_26_20, ↓hp_g_26_21, ↓hp_p_26_21, ↓hp_g_26_22, ↓hp_g_26_23, ↓hp_g_26_24, ↓hp_g_26_25, ↓hp_g_26_26, ↓hp_g_26_27, ↓hp_g_26_28, ↓hp_g_26_29, ↓hp_g_26_30, ↓hp_p_26_30, ↓hp_g_26_31, ↓hp_g_26_32, ↓hp_p_26_32, ↓hp_a_27, ↓hp_s_27, ↓hp_l_27, ↓hp_a_28, ↓hp_s_28, ↓hp_l_28, ↓hp_a_29, ↓hp_s_29, ↓hp_l_29, ↓hp_a_30, ↓hp_s_30, ↓hp_l_30, ↓hp_a_31, ↓hp_s_31, ↓hp_l_31, ↓hp_a_32, ↓hp_s_32, ↓hp_l_32, ↓hp_a_33, ↓hp_s_33, ↓hp_l_33, ↓hp_a_34, ↓hp_s_34, ↓hp_l_34, ↓hp_a_35, ↓hp_s_35, ↓hp_l_35, ↓hp_a_36, ↓hp_s_36, ↓hp_l_36, ↓hp_a_37, ↓hp_s_37, ↓hp_l_37, ↓hp_a_38, ↓hp_s_38, ↓hp_l_38, ↓hp_a_39, ↓hp_s_39, ↓hp_a_40, ↓hp_s_40, ↓hp_a_41, ↓hp_s_41, ↓hp_l_41, ↓hp_a_42, ↓hp_s_42, ↓hp_l_42, ↓hp_a_43, ↓hp_s_43, ↓hp_l_43, ↓hp_a_44, ↓hp_s_44, ↓hp_l_44, ↓hp_a_45, ↓hp_s_45, ↓hp_l_45, ↓hp_a_46, ↓hp_s_46, ↓hp_l_46, ↓hp_a_47, ↓hp_s_47, ↓hp_l_47, ↓hp_a_48, ↓hp_s_48, ↓hp_l_48, ↓hp_a_49, ↓hp_s_49, ↓hp_l_49, ↓hp_a_50, ↓hp_s_50, ↓hp_l_50, hrow, e_X12_in, c1, c3, m0, mb, mc, iO_wide, hcm, kl_0, lc_lt, lc_le, lc_gt, lc_ge, lc_eq, y_lt, y_le, y_eq, hdv]
          · rw [if_neg (by omega)] at hpt
            rw [hpt, Option.isSome_none, if_neg Bool.false_ne_true, e_X12_arePoints]
            clear hV c4 hR hpt
            simp (disch := (first | assumption | (unfold i32; omega) | (unfold i64; omega) | omega)) only [↓reduceIte, ki_0, ki_1, ki_2, ki_3, ki_4, ki_5, ki_6, ki_7, ki_8, ki_9, ki_10, ki_11, ki_12, ki_13, ki_14, ki_15, ki_20, ki_21, ki_30, ki_31, ki_40, ki_41, ki_50, ki_51, ki_60, ki_63, ki_64, ki_65, ki_100, ki_158, ki_160, ki_200, ki_212, ki_1000, ki_2000, ki_2001, ki_5000, ki_10000, ki_10001, ki_100000, ki_200000, ki_1000000, ki_2000000, ki_3000000, iO_neg, iO_add, iO_sub, iO_mul, kn_4, kn_8, kn_10, kn_20, kn_24, kn_40, kn_41, kn_50, kn_60, kn_158, kn_160, kn_200, kn_212, kn_2001, tn_lt, fn_lt, tn_le, fn_le, tn_eq, fn_eq, x_lt, x_le, x_eq, x_ix, x_nat, t_lt, f_lt, t_le, f_le, t_eq, f_eq, eq_self, and_self, true_and, and_true, false_and, and_false, if_true, if_false, Int.toNat_natCast, bI_s, bL_s, bA_s, bA_n, bV_s, mq_s, mq_n, en_le, bl_0, bl_1, u_eq, u_ne, w_eq, w_ne, v_eq, v_ne, ↓hp_cc_26, ↓hp_g_26_0, ↓hp_p_26_0, ↓hp_g_26_1, ↓hp_p_26_1, ↓hp_g_26_2, ↓hp_p_26_2, ↓hp_g_26_3, ↓hp_g_26_4, ↓hp_g_26_5, ↓hp_g_26_6, ↓hp_g_26_7, ↓hp_g_26_8, ↓hp_g_26_9, ↓hp_g_26_10, ↓hp_g_26_11, ↓hp_g_26_12, ↓hp_g_26_13, ↓hp_g_26_14, ↓hp_g_26_15, ↓hp_p_26_15, ↓hp_g_26_16, ↓hp_g_26_17, ↓hp_g_26_18, ↓hp_p_26_18, ↓hp_g_26_19, ↓hp_p_26_19, ↓hp_g_26_20, ↓hp_g_26_21, ↓hp_p_26_21, ↓hp_g_26_22, ↓hp_g_26_23, ↓hp_g_26_24, ↓hp_g_26_25, ↓hp_g_26_26, ↓hp_g_26_27, ↓hp_g_26_28, ↓hp_g_26_29, ↓hp_g_26_30, ↓hp_p_26_30, ↓hp_g_26_31, ↓hp_g_26_32, ↓hp_p_26_32, ↓hp_a_27, ↓hp_s_27, ↓hp_l_27, ↓hp_a_28, ↓hp_s_28, ↓hp_l_28, ↓hp_a_29, ↓hp_s_29, ↓hp_l_29, ↓hp_a_30, ↓hp_s_30, ↓hp_l_30, ↓hp_a_31, ↓hp_s_31, ↓hp_l_31, ↓hp_a_32, ↓hp_s_32, ↓hp_l_32, ↓hp_a_33, ↓hp_s_33, ↓hp_l_33, ↓hp_a_34, ↓hp_s_34, ↓hp_l_34, ↓hp_a_35, ↓hp_s_35, ↓hp_l_35, ↓hp_a_36, ↓hp_s_36, ↓hp_l_36, ↓hp_a_37, ↓hp_s_37, ↓hp_l_37, ↓hp_a_38, ↓hp_s_38, ↓hp_l_38, ↓hp_a_39, ↓hp_s_39, ↓hp_a_40, ↓hp_s_40, ↓hp_a_41, ↓hp_s_41, ↓hp_l_41, ↓hp_a_42, ↓hp_s_42, ↓hp_l_42, ↓hp_a_43, ↓hp_s_43, ↓hp_l_43, ↓hp_a_44, ↓hp_s_44, ↓hp_l_44, ↓hp_a_45, ↓hp_s_45, ↓hp_l_45, ↓hp_a_46, ↓hp_s_46, ↓hp_l_46, ↓hp_a_47, ↓hp_s_47, ↓hp_l_47, ↓hp_a_48, ↓hp_s_48, ↓hp_l_48, ↓hp_a_49, ↓hp_s_49, ↓hp_l_49, ↓hp_a_50, ↓hp_s_50, ↓hp_l_50, hrow, e_X12_in, c1, c3, m0, mb, mc, iO_wide, hcm, kl_0, lc_lt, lc_le, lc_gt, lc_ge, lc_eq, y_lt, y_le, y_eq, hdv]
        · rw [if_pos (Or.inl g5)] at hpt
          rw [hpt, Option.isSome_some, if_pos rfl, e_X12_arePoints]
          clear hV c4 hR hpt
          simp (disch := (first | assumption | (unfold i32; omega) | (unfold i64; omega) | omega)) only [↓reduceIte, ki_0, ki_1, ki_2, ki_3, ki_4, ki_5, ki_6, ki_7, ki_8, ki_9, ki_10, ki_11, ki_12, ki_13, ki_14, ki_15, ki_20, ki_21, ki_30, ki_31, ki_40, ki_41, ki_50, ki_51, ki_60, ki_63, ki_64, ki_65, ki_100, ki_158, ki_160, ki_200, ki_212, ki_1000, ki_2000, ki_2001, ki_5000, ki_10000, ki_10001, ki_100000, ki_200000, ki_1000000, ki_2000000, ki_3000000, iO_neg, iO_add, iO_sub, iO_mul, kn_4, kn_8, kn_10, kn_20, kn_24, kn_40, kn_41, kn_50, kn_60, kn_158, kn_160, kn_200, kn_212, kn_2001, tn_lt, fn_lt, tn_le, fn_le, tn_eq, fn_eq, x_lt, x_le, x_eq, x_ix, x_nat, t_lt, f_lt, t_le, f_le, t_eq, f_eq, eq_self, and_self, true_and, and_true, false_and, and_false, if_true, if_false, Int.toNat_natCast, bI_s, bL_s, bA_s, bA_n, bV_s, mq_s, mq_n, en_le, bl_0, bl_1, u_eq, u_ne, w_eq, w_ne, v_eq, v_ne, ↓hp_cc_26, ↓hp_g_26_0, ↓hp_p_26_0, ↓hp_g_26_1, ↓hp_p_26_1, ↓hp_g_26_2, ↓hp_p_26_2, ↓hp_g_26_3, ↓hp_g_26_4, ↓hp_g_26_5, ↓hp_g_26_6, ↓hp_g_26_7, ↓hp_g_26_8, ↓hp_g_26_9, ↓hp_g_26_10, ↓hp_g_26_11, ↓hp_g_26_12, ↓hp_g_26_13, ↓hp_g_26_14, ↓hp_g_26_15, ↓hp_p_26_15, ↓hp_g_26_16, ↓hp_g_26_17, ↓hp_g_26_18, ↓hp_p_26_18, ↓hp_g_26_19, ↓hp_p_26_19, ↓hp_g_26_20, ↓hp_g_26_21, ↓hp_p_26_21, ↓hp_g_26_22, ↓hp_g_26_23, ↓hp_g_26_24, ↓hp_g_26_25, ↓hp_g_26_26, ↓hp_g_26_27, ↓hp_g_26_28, ↓hp_g_26_29, ↓hp_g_26_30, ↓hp_p_26_30, ↓hp_g_26_31, ↓hp_g_26_32, ↓hp_p_26_32, ↓hp_a_27, ↓hp_s_27, ↓hp_l_27, ↓hp_a_28, ↓hp_s_28, ↓hp_l_28, ↓hp_a_29, ↓hp_s_29, ↓hp_l_29, ↓hp_a_30, ↓hp_s_30, ↓hp_l_30, ↓hp_a_31, ↓hp_s_31, ↓hp_l_31, ↓hp_a_32, ↓hp_s_32, ↓hp_l_32, ↓hp_a_33, ↓hp_s_33, ↓hp_l_33, ↓hp_a_34, ↓hp_s_34, ↓hp_l_34, ↓hp_a_35, ↓hp_s_35, ↓hp_l_35, ↓hp_a_36, ↓hp_s_36, ↓hp_l_36, ↓hp_a_37, ↓hp_s_37, ↓hp_l_37, ↓hp_a_38, ↓hp_s_38, ↓hp_l_38, ↓hp_a_39, ↓hp_s_39, ↓hp_a_40, ↓hp_s_40, ↓hp_a_41, ↓hp_s_41, ↓hp_l_41, ↓hp_a_42, ↓hp_s_42, ↓hp_l_42, ↓hp_a_43, ↓hp_s_43, ↓hp_l_43, ↓hp_a_44, ↓hp_s_44, ↓hp_l_44, ↓hp_a_45, ↓hp_s_45, ↓hp_l_45, ↓hp_a_46, ↓hp_s_46, ↓hp_l_46, ↓hp_a_47, ↓hp_s_47, ↓hp_l_47, ↓hp_a_48, ↓hp_s_48, ↓hp_l_48, ↓hp_a_49, ↓hp_s_49, ↓hp_l_49, ↓hp_a_50, ↓hp_s_50, ↓hp_l_50, hrow, e_X12_in, c1, c3, mb]
      · have hpt : ptq S (k : Int) m = none := by
          unfold ptq
          rw [hq]
          dsimp only
          rw [if_neg (show ¬ (q.1 = 4 ∧ 1 ≤ m ∧ m ≤ 60) from fun h => g2 h.2)]
        rw [hpt, Option.isSome_none, if_neg Bool.false_ne_true, e_X12_arePoints]
        clear hV c4 hR hpt
        by_cases t1 : m < 1
        · clear g2; simp (disch := (first | assumption | (unfold i32; omega) | (unfold i64; omega) | omega)) only [↓reduceIte, ki_0, ki_1, ki_2, ki_3, ki_4, ki_5, ki_6, ki_7, ki_8, ki_9, ki_10, ki_11, ki_12, ki_13, ki_14, ki_15, ki_20, ki_21, ki_30, ki_31, ki_40, ki_41, ki_50, ki_51, ki_60, ki_63, ki_64, ki_65, ki_100, ki_158, ki_160, ki_200, ki_212, ki_1000, ki_2000, ki_2001, ki_5000, ki_10000, ki_10001, ki_100000, ki_200000, ki_1000000, ki_2000000, ki_3000000, iO_neg, iO_add, iO_sub, iO_mul, kn_4, kn_8, kn_10, kn_20, kn_24, kn_40, kn_41, kn_50, kn_60, kn_158, kn_160, kn_200, kn_212, kn_2001, tn_lt, fn_lt, tn_le, fn_le, tn_eq, fn_eq, x_lt, x_le, x_eq, x_ix, x_nat, t_lt, f_lt, t_le, f_le, t_eq, f_eq, eq_self, and_self, true_and, and_true, false_and, and_false, if_true, if_false, Int.toNat_natCast, bI_s, bL_s, bA_s, bA_n, bV_s, mq_s, mq_n, en_le, bl_0, bl_1, u_eq, u_ne, w_eq, w_ne, v_eq, v_ne, ↓hp_cc_26, ↓hp_g_26_0, ↓hp_p_26_0, ↓hp_g_26_1, ↓hp_p_26_1, ↓hp_g_26_2, ↓hp_p_26_2, ↓hp_g_26_3, ↓hp_g_26_4, ↓hp_g_26_5, ↓hp_g_26_6, ↓hp_g_26_7, ↓hp_g_26_8, ↓hp_g_26_9, ↓hp_g_26_10, ↓hp_g_26_11, ↓hp_g_26_12, ↓hp_g_26_13, ↓hp_g_26_14, ↓hp_g_26_15, ↓hp_p_26_15, ↓hp_g_26_16, ↓hp_g_26_17, ↓hp_g_26_18, ↓hp_p_26_18, ↓hp_g_26_19, ↓hp_p_26_19, ↓hp_g_26_20, ↓hp_g_26_21, ↓hp_p_26_21, ↓hp_g_26_22, ↓hp_g_26_23, ↓hp_g_26_24, ↓hp_g_26_25, ↓hp_g_26_26, ↓hp_g_26_27, ↓hp_g_26_28, ↓hp_g_26_29, ↓hp_g_26_30, ↓hp_p_26_30, ↓hp_g_26_31, ↓hp_g_26_32, ↓hp_p_26_32, ↓hp_a_27, ↓hp_s_27, ↓hp_l_27, ↓hp_a_28, ↓hp_s_28, ↓hp_l_28, ↓hp_a_29, ↓hp_s_29, ↓hp_l_29, ↓hp_a_30, ↓hp_s_30, ↓hp_l_30, ↓hp_a_31, ↓hp_s_31, ↓hp_l_31, ↓hp_a_32, ↓hp_s_32, ↓hp_l_32, ↓hp_a_33, ↓hp_s_33, ↓hp_l_33, ↓hp_a_34, ↓hp_s_34, ↓hp_l_34, ↓hp_a_35, ↓hp_s_35, ↓hp_l_35, ↓hp_a_36, ↓hp_s_36, ↓hp_l_36, ↓hp_a_37, ↓hp_s_37, ↓hp_l_37, ↓hp_a_38, ↓hp_s_38, ↓hp_l_38, ↓hp_a_39, ↓hp_s_39, ↓hp_a_40, ↓hp_s_40, ↓hp_a_41, ↓hp_s_41, ↓hp_l_41, ↓hp_a_42, ↓hp_s_42, ↓hp_l_42, ↓hp_a_43, ↓hp_s_43, ↓hp_l_43, ↓hp_a_44, ↓hp_s_44, ↓hp_l_44, ↓hp_a_45, ↓hp_s_45, ↓hp_l_45, ↓hp_a_46, ↓hp_s_46, ↓hp_l_46, ↓hp_a_47, ↓hp_s_47, ↓hp_l_47, ↓hp_a_48, ↓hp_s_48, ↓hp_l_48, ↓hp_a_49, ↓hp_s_49, ↓hp_l_49, ↓hp_a_50, ↓hp_s_50, ↓hp_l_50, hrow, e_X12_in, c1]
        · have t2 : 60 < m := by omega
          clear g2; simp (disch := (first | assumption | (unfold i32; omega) | (unfold i64; omega) | omega)) only [↓reduceIte, ki_0, ki_1, ki_2, ki_3, ki_4, ki_5, ki_6, ki_7, ki_8, ki_9, ki_10, ki_11, ki_12, ki_13, ki_14, ki_15, ki_20, ki_21, ki_30, ki_31, ki_40, ki_41, ki_50, ki_51, ki_60, ki_63, ki_64, ki_65, ki_100, ki_158, ki_160, ki_200, ki_212, ki_1000, ki_2000, ki_2001, ki_5000, ki_10000, ki_10001, ki_100000, ki_200000, ki_1000000, ki_2000000, ki_3000000, iO_neg, iO_add, iO_sub, iO_mul, kn_4, kn_8, kn_10, kn_20, kn_24, kn_40, kn_41, kn_50, kn_60, kn_158, kn_160, kn_200, kn_212, kn_2001, tn_lt, fn_lt, tn_le, fn_le, tn_eq, fn_eq, x_lt, x_le, x_eq, x_ix, x_nat, t_lt, f_lt, t_le, f_le, t_eq, f_eq, eq_self, and_self, true_and, and_true, false_and, and_false, if_true, if_false, Int.toNat_natCast, bI_s, bL_s, bA_s, bA_n, bV_s, mq_s, mq_n, en_le, bl_0, bl_1, u_eq, u_ne, w_eq, w_ne, v_eq, v_ne, ↓hp_cc_26, ↓hp_g_26_0, ↓hp_p_26_0, ↓hp_g_26_1, ↓hp_p_26_1, ↓hp_g_26_2, ↓hp_p_26_2, ↓hp_g_26_3, ↓hp_g_26_4, ↓hp_g_26_5, ↓hp_g_26_6, ↓hp_g_26_7, ↓hp_g_26_8, ↓hp_g_26_9, ↓hp_g_26_10, ↓hp_g_26_11, ↓hp_g_26_12, ↓hp_g_26_13, ↓hp_g_26_14, ↓hp_g_26_15, ↓hp_p_26_15, ↓hp_g_26_16, ↓hp_g_26_17, ↓hp_g_26_18, ↓hp_p_26_18, ↓hp_g_26_19, ↓hp_p_26_19, ↓hp_g_26_20, ↓hp_g_26_21, ↓hp_p_26_21, ↓hp_g_26_22, ↓hp_g_26_23, ↓hp_g_26_24, ↓hp_g_26_25, ↓hp_g_26_26, ↓hp_g_26_27, ↓hp_g_26_28, ↓hp_g_26_29, ↓hp_g_26_30, ↓hp_p_26_30, ↓hp_g_26_31, ↓hp_g_26_32, ↓hp_p_26_32, ↓hp_a_27, ↓hp_s_27, ↓hp_l_27, ↓hp_a_28, ↓hp_s_28, ↓hp_l_28, ↓hp_a_29, ↓hp_s_29, ↓hp_l_29, ↓hp_a_30, ↓hp_s_30, ↓hp_l_30, ↓hp_a_31, ↓hp_s_31, ↓hp_l_31, ↓hp_a_32, ↓hp_s_32, ↓hp_l_32, ↓hp_a_33, ↓hp_s_33, ↓hp_l_33, ↓hp_a_34, ↓hp_s_34, ↓hp_l_34, ↓hp_a_35, ↓hp_s_35, ↓hp_l_35, ↓hp_a_36, ↓hp_s_36, ↓hp_l_36, ↓hp_a_37, ↓hp_s_37, ↓hp_l_37, ↓hp_a_38, ↓hp_s_38, ↓hp_l_38, ↓hp_a_39, ↓hp_s_39, ↓hp_a_40, ↓hp_s_40, ↓hp_a_41, ↓hp_s_41, ↓hp_l_41, ↓hp_a_42, ↓hp_s_42, ↓hp_l_42, ↓hp_a_43, ↓hp_s_43, ↓hp_l_43, ↓hp_a_44, ↓hp_s_44, ↓hp_l_44, ↓hp_a_45, ↓hp_s_45, ↓hp_l_45, ↓hp_a_46, ↓hp_s_46, ↓hp_l_46, ↓hp_a_47, ↓hp_s_47, ↓hp_l_47, ↓hp_a_48, ↓hp_s_48, ↓hp_l_48, ↓hp_a_49, ↓hp_s_49, ↓hp_l_49, ↓hp_a_50, ↓hp_s_50, ↓hp_l_50, hrow, e_X12_in, c1]
    · have hpt : ptq S (k : Int) m = none := by
        unfold ptq
        rw [hq]
        dsimp only
        rw [if_neg (show ¬ (q.1 = 4 ∧ 1 ≤ m ∧ m ≤ 60) from fun h => g1 h.1)]
      rw [hpt, Option.isSome_none, if_neg Bool.false_ne_true, e_X12_arePoints]
      clear hV c4 hR hpt
      simp (disch := (first | assumption | (unfold i32; omega) | (unfold i64; omega) | omega)) only [↓reduceIte, ki_0, ki_1, ki_2, ki_3, ki_4, ki_5, ki_6, ki_7, ki_8, ki_9, ki_10, ki_11, ki_12, ki_13, ki_14, ki_15, ki_20, ki_21, ki_30, ki_31, ki_40, ki_41, ki_50, ki_51, ki_60, ki_63, ki_64, ki_65, ki_100, ki_158, ki_160, ki_200, ki_212, ki_1000, ki_2000, ki_2001, ki_5000, ki_10000, ki_10001, ki_100000, ki_200000, ki_1000000, ki_2000000, ki_3000000, iO_neg, iO_add, iO_sub, iO_mul, kn_4, kn_8, kn_10, kn_20, kn_24, kn_40, kn_41, kn_50, kn_60, kn_158, kn_160, kn_200, kn_212, kn_2001, tn_lt, fn_lt, tn_le, fn_le, tn_eq, fn_eq, x_lt, x_le, x_eq, x_ix, x_nat, t_lt, f_lt, t_le, f_le, t_eq, f_eq, eq_self, and_self, true_and, and_true, false_and, and_false, if_true, if_false, Int.toNat_natCast, bI_s, bL_s, bA_s, bA_n, bV_s, mq_s, mq_n, en_le, bl_0, bl_1, u_eq, u_ne, w_eq, w_ne, v_eq, v_ne, ↓hp_cc_26, ↓hp_g_26_0, ↓hp_p_26_0, ↓hp_g_26_1, ↓hp_p_26_1, ↓hp_g_26_2, ↓hp_p_26_2, ↓hp_g_26_3, ↓hp_g_26_4, ↓hp_g_26_5, ↓hp_g_26_6, ↓hp_g_26_7, ↓hp_g_26_8, ↓hp_g_26_9, ↓hp_g_26_10, ↓hp_g_26_11, ↓hp_g_26_12, ↓hp_g_26_13, ↓hp_g_26_14, ↓hp_g_26_15, ↓hp_p_26_15, ↓hp_g_26_16, ↓hp_g_26_17, ↓hp_g_26_18, ↓hp_p_26_18, ↓hp_g_26_19, ↓hp_p_26_19, ↓hp_g_26_20, ↓hp_g_26_21, ↓hp_p_26_21, ↓hp_g_26_22, ↓hp_g_26_23, ↓hp_g_26_24, ↓hp_g_26_25, ↓hp_g_26_26, ↓hp_g_26_27, ↓hp_g_26_28, ↓hp_g_26_29, ↓hp_g_26_30, ↓hp_p_26_30, ↓hp_g_26_31, ↓hp_g_26_32, ↓hp_p_26_32, ↓hp_a_27, ↓hp_s_27, ↓hp_l_27, ↓hp_a_28, ↓hp_s_28, ↓hp_l_28, ↓hp_a_29, ↓hp_s_29, ↓hp_l_29, ↓hp_a_30, ↓hp_s_30, ↓hp_l_30, ↓hp_a_31, ↓hp_s_31, ↓hp_l_31, ↓hp_a_32, ↓hp_s_32, ↓hp_l_32, ↓hp_a_33, ↓hp_s_33, ↓hp_l_33, ↓hp_a_34, ↓hp_s_34, ↓hp_l_34, ↓hp_a_35, ↓hp_s_35, ↓hp_l_35, ↓hp_a_36, ↓hp_s_36, ↓hp_l_36, ↓hp_a_37, ↓hp_s_37, ↓hp_l_37, ↓hp_a_38, ↓hp_s_38, ↓hp_l_38, ↓hp_a_39, ↓hp_s_39, ↓hp_a_40, ↓hp_s_40, ↓hp_a_41, ↓hp_s_41, ↓hp_l_41, ↓hp_a_42, ↓hp_s_42, ↓hp_l_42, ↓hp_a_43, ↓hp_s_43, ↓hp_l_43, ↓hp_a_44, ↓hp_s_44, ↓hp_l_44, ↓hp_a_45, ↓hp_s_45, ↓hp_l_45, ↓hp_a_46, ↓hp_s_46, ↓hp_l_46, ↓hp_a_47, ↓hp_s_47, ↓hp_l_47, ↓hp_a_48, ↓hp_s_48, ↓hp_l_48, ↓hp_a_49, ↓hp_s_49, ↓hp_l_49, ↓hp_a_50, ↓hp_s_50, ↓hp_l_50, hrow, c1]
theorem mc_gaps (hS : OK5 S) {r m : Int} (hr : i32 r) (hm : i32 m) : MC S S (p_gaps S r m) (fun z => f_X12_gaps sc (n + 40) 26 (iO r) (iO m) z) := by
  intro XI XA XP XC MI MA ML D hV hP
  have hap := m_arePoints (sc := sc) (n := n + 35) (XI := XI) (XA := XA) (XP := XP) (XC := XC) (ML := ML) (D := D) hV hS hr hm
  have h8 := hS.1
  have h10 := hS.2.1
  unfold p_gaps
  cases hq : ptq S r m with
  | none =>
    rw [hq, Option.isSome_none, if_neg Bool.false_ne_true] at hap
    refine ⟨MI, MA, ML, ?_, hV, hP⟩
    show f_X12_gaps sc (n + 40) 26 (iO r) (iO m) _ = _
    rw [e_X12_gaps]
    clear hV
    simp (disch := (first | assumption | (unfold i32; omega) | (unfold i64; omega) | omega)) only [↓reduceIte, ki_0, ki_1, ki_2, ki_3, ki_4, ki_5, ki_6, ki_7, ki_8, ki_9, ki_10, ki_11, ki_12, ki_13, ki_14, ki_15, ki_20, ki_21, ki_30, ki_31, ki_40, ki_41, ki_50, ki_51, ki_60, ki_63, ki_64, ki_65, ki_100, ki_158, ki_160, ki_200, ki_212, ki_1000, ki_2000, ki_2001, ki_5000, ki_10000, ki_10001, ki_100000, ki_200000, ki_1000000, ki_2000000, ki_3000000, iO_neg, iO_add, iO_sub, iO_mul, kn_4, kn_8, kn_10, kn_20, kn_24, kn_40, kn_41, kn_50, kn_60, kn_158, kn_160, kn_200, kn_212, kn_2001, tn_lt, fn_lt, tn_le, fn_le, tn_eq, fn_eq, x_lt, x_le, x_eq, x_ix, x_nat, t_lt, f_lt, t_le, f_le, t_eq, f_eq, eq_self, and_self, true_and, and_true, false_and, and_false, if_true, if_false, Int.toNat_natCast, bI_s, bL_s, bA_s, bA_n, bV_s, mq_s, mq_n, en_le, bl_0, bl_1, u_eq, u_ne, w_eq, w_ne, v_eq, v_ne, ↓hp_cc_26, ↓hp_g_26_0, ↓hp_p_26_0, ↓hp_g_26_1, ↓hp_p_26_1, ↓hp_g_26_2, ↓hp_p_26_2, ↓hp_g_26_3, ↓hp_g_26_4, ↓hp_g_26_5, ↓hp_g_26_6, ↓hp_g_26_7, ↓hp_g_26_8, ↓hp_g_26_9, ↓hp_g_26_10, ↓hp_g_26_11, ↓hp_g_26_12, ↓hp_g_26_13, ↓hp_g_26_14, ↓hp_g_26_15, ↓hp_p_26_15, ↓hp_g_26_16, ↓hp_g_26_17, ↓hp_g_26_18, ↓hp_p_26_18, ↓hp_g_26_19, ↓hp_p_26_19, ↓hp_g_26_20, ↓hp_g_26_21, ↓hp_p_26_21, ↓hp_g_26_22, ↓hp_g_26_23, ↓hp_g_26_24, ↓hp_g_26_25, ↓hp_g_26_26, ↓hp_g_26_27, ↓hp_g_26_28, ↓hp_g_26_29, ↓hp_g_26_30, ↓hp_p_26_30, ↓hp_g_26_31, ↓hp_g_26_32, ↓hp_p_26_32, ↓hp_a_27, ↓hp_s_27, ↓hp_l_27, ↓hp_a_28, ↓hp_s_28, ↓hp_l_28, ↓hp_a_29, ↓hp_s_29, ↓hp_l_29, ↓hp_a_30, ↓hp_s_30, ↓hp_l_30, ↓hp_a_31, ↓hp_s_31, ↓hp_l_31, ↓hp_a_32, ↓hp_s_32, ↓hp_l_32, ↓hp_a_33, ↓hp_s_33, ↓hp_l_33, ↓hp_a_34, ↓hp_s_34, ↓hp_l_34, ↓hp_a_35, ↓hp_s_35, ↓hp_l_35, ↓hp_a_36, ↓hp_s_36, ↓hp_l_36, ↓hp_a_37, ↓hp_s_37, ↓hp_l_37, ↓hp_a_38, ↓hp_s_38, ↓hp_l_38, ↓hp_a_39, ↓hp_s_39, ↓hp_a_40, ↓hp_s_40, ↓hp_a_41, ↓hp_s_41, ↓hp_l_41, ↓hp_a_42, ↓hp_s_42, ↓hp_l_42, ↓hp_a_43, ↓hp_s_43, ↓hp_l_43, ↓hp_a_44, ↓hp_s_44, ↓hp_l_44, ↓hp_a_45, ↓hp_s_45, ↓hp_l_45, ↓hp_a_46, ↓hp_s_46, ↓hp_l_46, ↓hp_a_47, ↓hp_s_47, ↓hp_l_47, ↓hp_a_48, ↓hp_s_48, ↓hp_l_48, ↓hp_a_49, ↓hp_s_49, ↓hp_l_49, ↓hp_a_50, ↓hp_s_50, ↓hp_l_50, hap]
  | some l =>
    rw [hq, Option.isSome_some, if_pos rfl] at hap
    obtain ⟨q, q1, q2, q3, q4, q5, q6⟩ := ptq_some hq
    obtain ⟨k, rfl, hk, hq2⟩ := rowq_some q1
    obtain ⟨c1, c2, c3, c4⟩ := hV.2.2.2.2.2.1 k q hq2
    have hR := hS.2.2.2.1 q (List.mem_of_getElem? hq2)
    have hs0 : 0 ≤ q.2.1 := (hR.2.2.2.2.2.2.1 q2).2
    have hs1 : q.2.1 < S.1.length := hR.2.2.2.1
    obtain ⟨s, hs⟩ : ∃ s : Nat, q.2.1 = s := ⟨q.2.1.toNat, by omega⟩
    have hss : q.2.1.toNat = s := by omega
    rw [hs] at c3
    rw [hss] at q5
    obtain ⟨y, rfl⟩ : ∃ y : Nat, m = y := ⟨m.toNat, by omega⟩
    dsimp only
    rw [Int.toNat_natCast]
    obtain ⟨MI', MA', f1, f2, f3, f4⟩ := m_gapsOf (sc := sc) (d := n + 33) (XI := XI) (XA := XA) (XP := XP) (XC := XC) (ML := ML) (D := D) (r := k) (n := y) (by omega) c3 (by omega) (hV.2.2.2.2.1 s l q5) (hS.2.2.1 l (List.mem_of_getElem? q5)) (by omega)
    refine ⟨MI', MA', ML, ?_, hV.scr (fun i hi => f3 i (by omega)) (fun i hi => f4 i (by omega)), pv_of hP (f3 8 (by decide)) (f4 21 (by omega))⟩
    show f_X12_gaps sc (n + 40) 26 (iO (k : Int)) (iO (y : Int)) _ = _
    obtain ⟨g1, g2⟩ := f2
    rw [e_X12_gaps]
    clear hV c4 f3 f4 g2 hR
    simp (disch := (first | assumption | (unfold i32; omega) | (unfold i64; omega) | omega)) only [↓reduceIte, ki_0, ki_1, ki_2, ki_3, ki_4, ki_5, ki_6, ki_7, ki_8, ki_9, ki_10, ki_11, ki_12, ki_13, ki_14, ki_15, ki_20, ki_21, ki_30, ki_31, ki_40, ki_41, ki_50, ki_51, ki_60, ki_63, ki_64, ki_65, ki_100, ki_158, ki_160, ki_200, ki_212, ki_1000, ki_2000, ki_2001, ki_5000, ki_10000, ki_10001, ki_100000, ki_200000, ki_1000000, ki_2000000, ki_3000000, iO_neg, iO_add, iO_sub, iO_mul, kn_4, kn_8, kn_10, kn_20, kn_24, kn_40, kn_41, kn_50, kn_60, kn_158, kn_160, kn_200, kn_212, kn_2001, tn_lt, fn_lt, tn_le, fn_le, tn_eq, fn_eq, x_lt, x_le, x_eq, x_ix, x_nat, t_lt, f_lt, t_le, f_le, t_eq, f_eq, eq_self, and_self, true_and, and_true, false_and, and_false, if_true, if_false, Int.toNat_natCast, bI_s, bL_s, bA_s, bA_n, bV_s, mq_s, mq_n, en_le, bl_0, bl_1, u_eq, u_ne, w_eq, w_ne, v_eq, v_ne, ↓hp_cc_26, ↓hp_g_26_0, ↓hp_p_26_0, ↓hp_g_26_1, ↓hp_p_26_1, ↓hp_g_26_2, ↓hp_p_26_2, ↓hp_g_26_3, ↓hp_g_26_4, ↓hp_g_26_5, ↓hp_g_26_6, ↓hp_g_26_7, ↓hp_g_26_8, ↓hp_g_26_9, ↓hp_g_26_10, ↓hp_g_26_11, ↓hp_g_26_12, ↓hp_g_26_13, ↓hp_g_26_14, ↓hp_g_26_15, ↓hp_p_26_15, ↓hp_g_26_16, ↓hp_g_26_17, ↓hp_g_26_18, ↓hp_p_26_18, ↓hp_g_26_19, ↓hp_p_26_19, ↓hp_g_26_20, ↓hp_g_26_21, ↓hp_p_26_21, ↓hp_g_26_22, ↓hp_g_26_23, ↓hp_g_26_24, ↓hp_g_26_25, ↓hp_g_26_26, ↓hp_g_26_27, ↓hp_g_26_28, ↓hp_g_26_29, ↓hp_g_26_30, ↓hp_p_26_30, ↓hp_g_26_31, ↓hp_g_26_32, ↓hp_p_26_32, ↓hp_a_27, ↓hp_s_27, ↓hp_l_27, ↓hp_a_28, ↓hp_s_28, ↓hp_l_28, ↓hp_a_29, ↓hp_s_29, ↓hp_l_29, ↓hp_a_30, ↓hp_s_30, ↓hp_l_30, ↓hp_a_31, ↓hp_s_31, ↓hp_l_31, ↓hp_a_32, ↓hp_s_32, ↓hp_l_32, ↓hp_a_33, ↓hp_s_33, ↓hp_l_33, ↓hp_a_34, ↓hp_s_34, ↓hp_l_34, ↓hp_a_35, ↓hp_s_35, ↓hp_l_35, ↓hp_a_36, ↓hp_s_36, ↓hp_l_36, ↓hp_a_37, ↓hp_s_37, ↓hp_l_37, ↓hp_a_38, ↓hp_s_38, ↓hp_l_38, ↓hp_a_39, ↓hp_s_39, ↓hp_a_40, ↓hp_s_40, ↓hp_a_41, ↓hp_s_41, ↓hp_l_41, ↓hp_a_42, ↓hp_s_42, ↓hp_l_42, ↓hp_a_43, ↓hp_s_43, ↓hp_l_43, ↓hp_a_44, ↓hp_s_44, ↓hp_l_44, ↓hp_a_45, ↓hp_s_45, ↓hp_l_45, ↓hp_a_46, ↓hp_s_46, ↓hp_l_46, ↓hp_a_47, ↓hp_s_47, ↓hp_l_47, ↓hp_a_48, ↓hp_s_48, ↓hp_l_48, ↓hp_a_49, ↓hp_s_49, ↓hp_l_49, ↓hp_a_50, ↓hp_s_50, ↓hp_l_50, hap, f1, g1]
theorem mc_gap (hS : OK5 S) {r m i w : Int} (hr : i32 r) (hm : i32 m) (hi : i32 i) (hw : i32 w) : MC S S (p_gap S r m i w) (fun z => f_X12_gap sc (n + 40) 26 (iO r) (iO m) (iO i) (iO w) z) := by
  intro XI XA XP XC MI MA ML D hV hP
  have hap := m_arePoints (sc := sc) (n := n + 35) (XI := XI) (XA := XA) (XP := XP) (XC := XC) (ML := ML) (D := D) hV hS hr hm
  have h8 := hS.1
  have h10 := hS.2.1
  obtain ⟨i1, i2⟩ := id hi
  obtain ⟨w1, w2⟩ := id hw
  unfold p_gap
  cases hq : ptq S r m with
  | none =>
    rw [hq, Option.isSome_none, if_neg Bool.false_ne_true] at hap
    refine ⟨MI, MA, ML, ?_, hV, hP⟩
    show f_X12_gap sc (n + 40) 26 (iO r) (iO m) (iO i) (iO w) _ = _
    rw [e_X12_gap]
    clear hV
    simp (disch := (first | assumption | (unfold i32; omega) | (unfold i64; omega) | omega)) only [↓reduceIte, ki_0, ki_1, ki_2, ki_3, ki_4, ki_5, ki_6, ki_7, ki_8, ki_9, ki_10, ki_11, ki_12, ki_13, ki_14, ki_15, ki_20, ki_21, ki_30, ki_31, ki_40, ki_41, ki_50, ki_51, ki_60, ki_63, ki_64, ki_65, ki_100, ki_158, ki_160, ki_200, ki_212, ki_1000, ki_2000, ki_2001, ki_5000, ki_10000, ki_10001, ki_100000, ki_200000, ki_1000000, ki_2000000, ki_3000000, iO_neg, iO_add, iO_sub, iO_mul, kn_4, kn_8, kn_10, kn_20, kn_24, kn_40, kn_41, kn_50, kn_60, kn_158, kn_160, kn_200, kn_212, kn_2001, tn_lt, fn_lt, tn_le, fn_le, tn_eq, fn_eq, x_lt, x_le, x_eq, x_ix, x_nat, t_lt, f_lt, t_le, f_le, t_eq, f_eq, eq_self, and_self, true_and, and_true, false_and, and_false, if_true, if_false, Int.toNat_natCast, bI_s, bL_s, bA_s, bA_n, bV_s, mq_s, mq_n, en_le, bl_0, bl_1, u_eq, u_ne, w_eq, w_ne, v_eq, v_ne, ↓hp_cc_26, ↓hp_g_26_0, ↓hp_p_26_0, ↓hp_g_26_1, ↓hp_p_26_1, ↓hp_g_26_2, ↓hp_p_26_2, ↓hp_g_26_3, ↓hp_g_26_4, ↓hp_g_26_5, ↓hp_g_26_6, ↓hp_g_26_7, ↓hp_g_26_8, ↓hp_g_26_9, ↓hp_g_26_10, ↓hp_g_26_11, ↓hp_g_26_12, ↓hp_g_26_13, ↓hp_g_26_14, ↓hp_g_26_15, ↓hp_p_26_15, ↓hp_g_26_16, ↓hp_g_26_17, ↓hp_g_26_18, ↓hp_p_26_18, ↓hp_g_26_19, ↓hp_p_26_19, ↓hp_g_26_20, ↓hp_g_26_21, ↓hp_p_26_21, ↓hp_g_26_22, ↓hp_g_26_23, ↓hp_g_26_24, ↓hp_g_26_25, ↓hp_g_26_26, ↓hp_g_26_27, ↓hp_g_26_28, ↓hp_g_26_29, ↓hp_g_26_30, ↓hp_p_26_30, ↓hp_g_26_31, ↓hp_g_26_32, ↓hp_p_26_32, ↓hp_a_27, ↓hp_s_27, ↓hp_l_27, ↓hp_a_28, ↓hp_s_28, ↓hp_l_28, ↓hp_a_29, ↓hp_s_29, ↓hp_l_29, ↓hp_a_30, ↓hp_s_30, ↓hp_l_30, ↓hp_a_31, ↓hp_s_31, ↓hp_l_31, ↓hp_a_32, ↓hp_s_32, ↓hp_l_32, ↓hp_a_33, ↓hp_s_33, ↓hp_l_33, ↓hp_a_34, ↓hp_s_34, ↓hp_l_34, ↓hp_a_35, ↓hp_s_35, ↓hp_l_35, ↓hp_a_36, ↓hp_s_36, ↓hp_l_36, ↓hp_a_37, ↓hp_s_37, ↓hp_l_37, ↓hp_a_38, ↓hp_s_38, ↓hp_l_38, ↓hp_a_39, ↓hp_s_39, ↓hp_a_40, ↓hp_s_40, ↓hp_a_41, ↓hp_s_41, ↓hp_l_41, ↓hp_a_42, ↓hp_s_42, ↓hp_l_42, ↓hp_a_43, ↓hp_s_43, ↓hp_l_43, ↓hp_a_44, ↓hp_s_44, ↓hp_l_44, ↓hp_a_45, ↓hp_s_45, ↓hp_l_45, ↓hp_a_46, ↓hp_s_46, ↓hp_l_46, ↓hp_a_47, ↓hp_s_47, ↓hp_l_47, ↓hp_a_48, ↓hp_s_48, ↓hp_l_48, ↓hp_a_49, ↓hp_s_49, ↓hp_l_49, ↓hp_a_50, ↓hp_s_50, ↓hp_l_50, hap]
  | some l =>
    rw [hq, Option.isSome_some, if_pos rfl] at hap
    obtain ⟨q, q1, q2, q3, q4, q5, q6⟩ := ptq_some hq
    obtain ⟨k, rfl, hk, hq2⟩ := rowq_some q1
    obtain ⟨c1, c2, c3, c4⟩ := hV.2.2.2.2.2.1 k q hq2
    have hR := hS.2.2.2.1 q (List.mem_of_getElem? hq2)
    have hs0 : 0 ≤ q.2.1 := (hR.2.2.2.2.2.2.1 q2).2
    have hs1 : q.2.1 < S.1.length := hR.2.2.2.1
    obtain ⟨s, hs⟩ : ∃ s : Nat, q.2.1 = s := ⟨q.2.1.toNat, by omega⟩
    have hss : q.2.1.toNat = s := by omega
    rw [hs] at c3
    rw [hss] at q5
    obtain ⟨y, rfl⟩ : ∃ y : Nat, m = y := ⟨m.toNat, by omega⟩
    dsimp only
    rw [Int.toNat_natCast]
    have hSL := hS.2.2.1 l (List.mem_of_getElem? q5)
    by_cases gw : 0 ≤ w ∧ w ≤ 2
    · obtain ⟨MI', MA', f1, f2, f3, f4⟩ := m_gapsOf (sc := sc) (d := n + 33) (XI := XI) (XA := XA) (XP := XP) (XC := XC) (ML := ML) (D := D) (r := k) (n := y) (by omega) c3 (by omega) (hV.2.2.2.2.1 s l q5) hSL (by omega)
      refine ⟨MI', MA', ML, ?_, hV.scr (fun i hi => f3 i (by omega)) (fun i hi => f4 i (by omega)), pv_of hP (f3 8 (by decide)) (f4 21 (by omega))⟩
      show f_X12_gap sc (n + 40) 26 (iO (k : Int)) (iO (y : Int)) (iO i) (iO w) _ = _
      obtain ⟨g1, g2⟩ := f2
      have hB := gst_bd (l := l) (gx := gxf l y) (gy := gyf l y) (n := y) (fun i hi => by obtain ⟨q1, q2, q3, q4, -⟩ := gf_bd hSL (by omega) hi; exact ⟨q1, q2, q3, q4⟩) y (Nat.le_refl _)
      have hB : GB (gsts l y) y := hB
      have hk60 : (gsts l y).1 ≤ 60 := by have := hB.1; omega
      generalize gsts l y = st at *
      obtain ⟨gw1, gw2⟩ := gw
      rw [e_X12_gap]
      by_cases gi : 0 ≤ i ∧ i < (st.1 : Int)
      · rw [if_pos ⟨gw1, gw2, gi.1, gi.2⟩]
        obtain ⟨gi1, gi2⟩ := gi
        obtain ⟨v, rfl⟩ : ∃ v : Nat, i = v := ⟨i.toNat, by omega⟩
        rw [Int.toNat_natCast]
        obtain ⟨t1, t2, t3⟩ := g2 v (by omega)
        clear hV c4 f3 f4 g2 hR hB
        rcases (show w = 0 ∨ w = 1 ∨ w = 2 by omega) with rfl | rfl | rfl
        · simp (disch := (first | assumption | (unfold i32; omega) | (unfold i64; omega) | omega)) only [↓reduceIte, ki_0, ki_1, ki_2, ki_3, ki_4, ki_5, ki_6, ki_7, ki_8, ki_9, ki_10, ki_11, ki_12, ki_13, ki_14, ki_15, ki_20, ki_21, ki_30, ki_31, ki_40, ki_41, ki_50, ki_51, ki_60, ki_63, ki_64, ki_65, ki_100, ki_158, ki_160, ki_200, ki_212, ki_1000, ki_2000, ki_2001, ki_5000, ki_10000, ki_10001, ki_100000, ki_200000, ki_1000000, ki_2000000, ki_3000000, iO_neg, iO_add, iO_sub, iO_mul, kn_4, kn_8, kn_10, kn_20, kn_24, kn_40, kn_41, kn_50, kn_60, kn_158, kn_160, kn_200, kn_212, kn_2001, tn_lt, fn_lt, tn_le, fn_le, tn_eq, fn_eq, x_lt, x_le, x_eq, x_ix, x_nat, t_lt, f_lt, t_le, f_le, t_eq, f_eq, eq_self, and_self, true_and, and_true, false_and, and_false, if_true, if_false, Int.toNat_natCast, bI_s, bL_s, bA_s, bA_n, bV_s, mq_s, mq_n, en_le, bl_0, bl_1, u_eq, u_ne, w_eq, w_ne, v_eq, v_ne, ↓hp_cc_26, ↓hp_g_26_0, ↓hp_p_26_0, ↓hp_g_26_1, ↓hp_p_26_1, ↓hp_g_26_2, ↓hp_p_26_2, ↓hp_g_26_3, ↓hp_g_26_4, ↓hp_g_26_5, ↓hp_g_26_6, ↓hp_g_26_7, ↓hp_g_26_8, ↓hp_g_26_9, ↓hp_g_26_10, ↓hp_g_26_11, ↓hp_g_26_12, ↓hp_g_26_13, ↓hp_g_26_14, ↓hp_g_26_15, ↓hp_p_26_15, ↓hp_g_26_16, ↓hp_g_26_17, ↓hp_g_26_18, ↓hp_p_26_18, ↓hp_g_26_19, ↓hp_p_26_19, ↓hp_g_26_20, ↓hp_g_26_21, ↓hp_p_26_21, ↓hp_g_26_22, ↓hp_g_26_23, ↓hp_g_26_24, ↓hp_g_26_25, ↓hp_g_26_26, ↓hp_g_26_27, ↓hp_g_26_28, ↓hp_g_26_29, ↓hp_g_26_30, ↓hp_p_26_30, ↓hp_g_26_31, ↓hp_g_26_32, ↓hp_p_26_32, ↓hp_a_27, ↓hp_s_27, ↓hp_l_27, ↓hp_a_28, ↓hp_s_28, ↓hp_l_28, ↓hp_a_29, ↓hp_s_29, ↓hp_l_29, ↓hp_a_30, ↓hp_s_30, ↓hp_l_30, ↓hp_a_31, ↓hp_s_31, ↓hp_l_31, ↓hp_a_32, ↓hp_s_32, ↓hp_l_32, ↓hp_a_33, ↓hp_s_33, ↓hp_l_33, ↓hp_a_34, ↓hp_s_34, ↓hp_l_34, ↓hp_a_35, ↓hp_s_35, ↓hp_l_35, ↓hp_a_36, ↓hp_s_36, ↓hp_l_36, ↓hp_a_37, ↓hp_s_37, ↓hp_l_37, ↓hp_a_38, ↓hp_s_38, ↓hp_l_38, ↓hp_a_39, ↓hp_s_39, ↓hp_a_40, ↓hp_s_40, ↓hp_a_41, ↓hp_s_41, ↓hp_l_41, ↓hp_a_42, ↓hp_s_42, ↓hp_l_42, ↓hp_a_43, ↓hp_s_43, ↓hp_l_43, ↓hp_a_44, ↓hp_s_44, ↓hp_l_44, ↓hp_a_45, ↓hp_s_45, ↓hp_l_45, ↓hp_a_46, ↓hp_s_46, ↓hp_l_46, ↓hp_a_47, ↓hp_s_47, ↓hp_l_47, ↓hp_a_48, ↓hp_s_48, ↓hp_l_48, ↓hp_a_49, ↓hp_s_49, ↓hp_l_49, ↓hp_a_50, ↓hp_s_50, ↓hp_l_50, hap, e_X12_in, f1, g1, t1]
        · simp (disch := (first | assumption | (unfold i32; omega) | (unfold i64; omega) | omega)) only [↓reduceIte, ki_0, ki_1, ki_2, ki_3, ki_4, ki_5, ki_6, ki_7, ki_8, ki_9, ki_10, ki_11, ki_12, ki_13, ki_14, ki_15, ki_20, ki_21, ki_30, ki_31, ki_40, ki_41, ki_50, ki_51, ki_60, ki_63, ki_64, ki_65, ki_100, ki_158, ki_160, ki_200, ki_212, ki_1000, ki_2000, ki_2001, ki_5000, ki_10000, ki_10001, ki_100000, ki_200000, ki_1000000, ki_2000000, ki_3000000, iO_neg, iO_add, iO_sub, iO_mul, kn_4, kn_8, kn_10, kn_20, kn_24, kn_40, kn_41, kn_50, kn_60, kn_158, kn_160, kn_200, kn_212, kn_2001, tn_lt, fn_lt, tn_le, fn_le, tn_eq, fn_eq, x_lt, x_le, x_eq, x_ix, x_nat, t_lt, f_lt, t_le, f_le, t_eq, f_eq, eq_self, and_self, true_and, and_true, false_and, and_false, if_true, if_false, Int.toNat_natCast, bI_s, bL_s, bA_s, bA_n, bV_s, mq_s, mq_n, en_le, bl_0, bl_1, u_eq, u_ne, w_eq, w_ne, v_eq, v_ne, ↓hp_cc_26, ↓hp_g_26_0, ↓hp_p_26_0, ↓hp_g_26_1, ↓hp_p_26_1, ↓hp_g_26_2, ↓hp_p_26_2, ↓hp_g_26_3, ↓hp_g_26_4, ↓hp_g_26_5, ↓hp_g_26_6, ↓hp_g_26_7, ↓hp_g_26_8, ↓hp_g_26_9, ↓hp_g_26_10, ↓hp_g_26_11, ↓hp_g_26_12, ↓hp_g_26_13, ↓hp_g_26_14, ↓hp_g_26_15, ↓hp_p_26_15, ↓hp_g_26_16, ↓hp_g_26_17, ↓hp_g_26_18, ↓hp_p_26_18, ↓hp_g_26_19, ↓hp_p_26_19, ↓hp_g_26_20, ↓hp_g_26_21, ↓hp_p_26_21, ↓hp_g_26_22, ↓hp_g_26_23, ↓hp_g_26_24, ↓hp_g_26_25, ↓hp_g_26_26, ↓hp_g_26_27, ↓hp_g_26_28, ↓hp_g_26_29, ↓hp_g_26_30, ↓hp_p_26_30, ↓hp_g_26_31, ↓hp_g_26_32, ↓hp_p_26_32, ↓hp_a_27, ↓hp_s_27, ↓hp_l_27, ↓hp_a_28, ↓hp_s_28, ↓hp_l_28, ↓hp_a_29, ↓hp_s_29, ↓hp_l_29, ↓hp_a_30, ↓hp_s_30, ↓hp_l_30, ↓hp_a_31, ↓hp_s_31, ↓hp_l_31, ↓hp_a_32, ↓hp_s_32, ↓hp_l_32, ↓hp_a_33, ↓hp_s_33, ↓hp_l_33, ↓hp_a_34, ↓hp_s_34, ↓hp_l_34, ↓hp_a_35, ↓hp_s_35, ↓hp_l_35, ↓hp_a_36, ↓hp_s_36, ↓hp_l_36, ↓hp_a_37, ↓hp_s_37, ↓hp_l_37, ↓hp_a_38, ↓hp_s_38, ↓hp_l_38, ↓hp_a_39, ↓hp_s_39, ↓hp_a_40, ↓hp_s_40, ↓hp_a_41, ↓hp_s_41, ↓hp_l_41, ↓hp_a_42, ↓hp_s_42, ↓hp_l_42, ↓hp_a_43, ↓hp_s_43, ↓hp_l_43, ↓hp_a_44, ↓hp_s_44, ↓hp_l_44, ↓hp_a_45, ↓hp_s_45, ↓hp_l_45, ↓hp_a_46, ↓hp_s_46, ↓hp_l_46, ↓hp_a_47, ↓hp_s_47, ↓hp_l_47, ↓hp_a_48, ↓hp_s_48, ↓hp_l_48, ↓hp_a_49, ↓hp_s_49, ↓hp_l_49, ↓hp_a_50, ↓hp_s_50, ↓hp_l_50, hap, e_X12_in, f1, g1, t2]
        · simp (disch := (first | assumption | (unfold i32; omega) | (unfold i64; omega) | omega)) only [↓reduceIte, ki_0, ki_1, ki_2, ki_3, ki_4, ki_5, ki_6, ki_7, ki_8, ki_9, ki_10, ki_11, ki_12, ki_13, ki_14, ki_15, ki_20, ki_21, ki_30, ki_31, ki_40, ki_41, ki_50, ki_51, ki_60, ki_63, ki_64, ki_65, ki_100, ki_158, ki_160, ki_200, ki_212, ki_1000, ki_2000, ki_2001, ki_5000, ki_10000, ki_10001, ki_100000, ki_200000, ki_1000000, ki_2000000, ki_3000000, iO_neg, iO_add, iO_sub, iO_mul, kn_4, kn_8, kn_10, kn_20, kn_24, kn_40, kn_41, kn_50, kn_60, kn_158, kn_160, kn_200, kn_212, kn_2001, tn_lt, fn_lt, tn_le, fn_le, tn_eq, fn_eq, x_lt, x_le, x_eq, x_ix, x_nat, t_lt, f_lt, t_le, f_le, t_eq, f_eq, eq_self, and_self, true_and, and_true, false_and, and_false, if_true, if_false, Int.toNat_natCast, bI_s, bL_s, bA_s, bA_n, bV_s, mq_s, mq_n, en_le, bl_0, bl_1, u_eq, u_ne, w_eq, w_ne, v_eq, v_ne, ↓hp_cc_26, ↓hp_g_26_0, ↓hp_p_26_0, ↓hp_g_26_1, ↓hp_p_26_1, ↓hp_g_26_2, ↓hp_p_26_2, ↓hp_g_26_3, ↓hp_g_26_4, ↓hp_g_26_5, ↓hp_g_26_6, ↓hp_g_26_7, ↓hp_g_26_8, ↓hp_g_26_9, ↓hp_g_26_10, ↓hp_g_26_11, ↓hp_g_26_12, ↓hp_g_26_13, ↓hp_g_26_14, ↓hp_g_26_15, ↓hp_p_26_15, ↓hp_g_26_16, ↓hp_g_26_17, ↓hp_g_26_18, ↓hp_p_26_18, ↓hp_g_26_19, ↓hp_p_26_19, ↓hp_g_26_20, ↓hp_g_26_21, ↓hp_p_26_21, ↓hp_g_26_22, ↓hp_g_26_23, ↓hp_g_26_24, ↓hp_g_26_25, ↓hp_g_26_26, ↓hp_g_26_27, ↓hp_g_26_28, ↓hp_g_26_29, ↓hp_g_26_30, ↓hp_p_26_30, ↓hp_g_26_31, ↓hp_g_26_32, ↓hp_p_26_32, ↓hp_a_27, ↓hp_s_27, ↓hp_l_27, ↓hp_a_28, ↓hp_s_28, ↓hp_l_28, ↓hp_a_29, ↓hp_s_29, ↓hp_l_29, ↓hp_a_30, ↓hp_s_30, ↓hp_l_30, ↓hp_a_31, ↓hp_s_31, ↓hp_l_31, ↓hp_a_32, ↓hp_s_32, ↓hp_l_32, ↓hp_a_33, ↓hp_s_33, ↓hp_l_33, ↓hp_a_34, ↓hp_s_34, ↓hp_l_34, ↓hp_a_35, ↓hp_s_35, ↓hp_l_35, ↓hp_a_36, ↓hp_s_36, ↓hp_l_36, ↓hp_a_37, ↓hp_s_37, ↓hp_l_37, ↓hp_a_38, ↓hp_s_38, ↓hp_l_38, ↓hp_a_39, ↓hp_s_39, ↓hp_a_40, ↓hp_s_40, ↓hp_a_41, ↓hp_s_41, ↓hp_l_41, ↓hp_a_42, ↓hp_s_42, ↓hp_l_42, ↓hp_a_43, ↓hp_s_43, ↓hp_l_43, ↓hp_a_44, ↓hp_s_44, ↓hp_l_44, ↓hp_a_45, ↓hp_s_45, ↓hp_l_45, ↓hp_a_46, ↓hp_s_46, ↓hp_l_46, ↓hp_a_47, ↓hp_s_47, ↓hp_l_47, ↓hp_a_48, ↓hp_s_48, ↓hp_l_48, ↓hp_a_49, ↓hp_s_49, ↓hp_l_49, ↓hp_a_50, ↓hp_s_50, ↓hp_l_50, hap, e_X12_in, f1, g1, t3]
      · rw [if_neg (show ¬ (0 ≤ w ∧ w ≤ 2 ∧ 0 ≤ i ∧ i < (st.1 : Int)) by omega)]
        clear hV c4 f3 f4 g2 hR hB
        by_cases t1 : i < 0
        · clear gi; simp (disch := (first | assumption | (unfold i32; omega) | (unfold i64; omega) | omega)) only [↓reduceIte, ki_0, ki_1, ki_2, ki_3, ki_4, ki_5, ki_6, ki_7, ki_8, ki_9, ki_10, ki_11, ki_12, ki_13, ki_14, ki_15, ki_20, ki_21, ki_30, ki_31, ki_40, ki_41, ki_50, ki_51, ki_60, ki_63, ki_64, ki_65, ki_100, ki_158, ki_160, ki_200, ki_212, ki_1000, ki_2000, ki_2001, ki_5000, ki_10000, ki_10001, ki_100000, ki_200000, ki_1000000, ki_2000000, ki_3000000, iO_neg, iO_add, iO_sub, iO_mul, kn_4, kn_8, kn_10, kn_20, kn_24, kn_40, kn_41, kn_50, kn_60, kn_158, kn_160, kn_200, kn_212, kn_2001, tn_lt, fn_lt, tn_le, fn_le, tn_eq, fn_eq, x_lt, x_le, x_eq, x_ix, x_nat, t_lt, f_lt, t_le, f_le, t_eq, f_eq, eq_self, and_self, true_and, and_true, false_and, and_false, if_true, if_false, Int.toNat_natCast, bI_s, bL_s, bA_s, bA_n, bV_s, mq_s, mq_n, en_le, bl_0, bl_1, u_eq, u_ne, w_eq, w_ne, v_eq, v_ne, ↓hp_cc_26, ↓hp_g_26_0, ↓hp_p_26_0, ↓hp_g_26_1, ↓hp_p_26_1, ↓hp_g_26_2, ↓hp_p_26_2, ↓hp_g_26_3, ↓hp_g_26_4, ↓hp_g_26_5, ↓hp_g_26_6, ↓hp_g_26_7, ↓hp_g_26_8, ↓hp_g_26_9, ↓hp_g_26_10, ↓hp_g_26_11, ↓hp_g_26_12, ↓hp_g_26_13, ↓hp_g_26_14, ↓hp_g_26_15, ↓hp_p_26_15, ↓hp_g_26_16, ↓hp_g_26_17, ↓hp_g_26_18, ↓hp_p_26_18, ↓hp_g_26_19, ↓hp_p_26_19, ↓hp_g_26_20, ↓hp_g_26_21, ↓hp_p_26_21, ↓hp_g_26_22, ↓hp_g_26_23, ↓hp_g_26_24, ↓hp_g_26_25, ↓hp_g_26_26, ↓hp_g_26_27, ↓hp_g_26_28, ↓hp_g_26_29, ↓hp_g_26_30, ↓hp_p_26_30, ↓hp_g_26_31, ↓hp_g_26_32, ↓hp_p_26_32, ↓hp_a_27, ↓hp_s_27, ↓hp_l_27, ↓hp_a_28, ↓hp_s_28, ↓hp_l_28, ↓hp_a_29, ↓hp_s_29, ↓hp_l_29, ↓hp_a_30, ↓hp_s_30, ↓hp_l_30, ↓hp_a_31, ↓hp_s_31, ↓hp_l_31, ↓hp_a_32, ↓hp_s_32, ↓hp_l_32, ↓hp_a_33, ↓hp_s_33, ↓hp_l_33, ↓hp_a_34, ↓hp_s_34, ↓hp_l_34, ↓hp_a_35, ↓hp_s_35, ↓hp_l_35, ↓hp_a_36, ↓hp_s_36, ↓hp_l_36, ↓hp_a_37, ↓hp_s_37, ↓hp_l_37, ↓hp_a_38, ↓hp_s_38, ↓hp_l_38, ↓hp_a_39, ↓hp_s_39, ↓hp_a_40, ↓hp_s_40, ↓hp_a_41, ↓hp_s_41, ↓hp_l_41, ↓hp_a_42, ↓hp_s_42, ↓hp_l_42, ↓hp_a_43, ↓hp_s_43, ↓hp_l_43, ↓hp_a_44, ↓hp_s_44, ↓hp_l_44, ↓hp_a_45, ↓hp_s_45, ↓hp_l_45, ↓hp_a_46, ↓hp_s_46, ↓hp_l_46, ↓hp_a_47, ↓hp_s_47, ↓hp_l_47, ↓hp_a_48, ↓hp_s_48, ↓hp_l_48, ↓hp_a_49, ↓hp_s_49, ↓hp_l_49, ↓hp_a_50, ↓hp_s_50, ↓hp_l_50, hap, e_X12_in, f1, g1]
        · have t2 : (st.1 : Int) ≤ i := by omega
          clear gi; simp (disch := (first | assumption | (unfold i32; omega) | (unfold i64; omega) | omega)) only [↓reduceIte, ki_0, ki_1, ki_2, ki_3, ki_4, ki_5, ki_6, ki_7, ki_8, ki_9, ki_10, ki_11, ki_12, ki_13, ki_14, ki_15, ki_20, ki_21, ki_30, ki_31, ki_40, ki_41, ki_50, ki_51, ki_60, ki_63, ki_64, ki_65, ki_100, ki_158, ki_160, ki_200, ki_212, ki_1000, ki_2000, ki_2001, ki_5000, ki_10000, ki_10001, ki_100000, ki_200000, ki_1000000, ki_2000000, ki_3000000, iO_neg, iO_add, iO_sub, iO_mul, kn_4, kn_8, kn_10, kn_20, kn_24, kn_40, kn_41, kn_50, kn_60, kn_158, kn_160, kn_200, kn_212, kn_2001, tn_lt, fn_lt, tn_le, fn_le, tn_eq, fn_eq, x_lt, x_le, x_eq, x_ix, x_nat, t_lt, f_lt, t_le, f_le, t_eq, f_eq, eq_self, and_self, true_and, and_true, false_and, and_false, if_true, if_false, Int.toNat_natCast, bI_s, bL_s, bA_s, bA_n, bV_s, mq_s, mq_n, en_le, bl_0, bl_1, u_eq, u_ne, w_eq, w_ne, v_eq, v_ne, ↓hp_cc_26, ↓hp_g_26_0, ↓hp_p_26_0, ↓hp_g_26_1, ↓hp_p_26_1, ↓hp_g_26_2, ↓hp_p_26_2, ↓hp_g_26_3, ↓hp_g_26_4, ↓hp_g_26_5, ↓hp_g_26_6, ↓hp_g_26_7, ↓hp_g_26_8, ↓hp_g_26_9, ↓hp_g_26_10, ↓hp_g_26_11, ↓hp_g_26_12, ↓hp_g_26_13, ↓hp_g_26_14, ↓hp_g_26_15, ↓hp_p_26_15, ↓hp_g_26_16, ↓hp_g_26_17, ↓hp_g_26_18, ↓hp_p_26_18, ↓hp_g_26_19, ↓hp_p_26_19, ↓hp_g_26_20, ↓hp_g_26_21, ↓hp_p_26_21, ↓hp_g_26_22, ↓hp_g_26_23, ↓hp_g_26_24, ↓hp_g_26_25, ↓hp_g_26_26, ↓hp_g_26_27, ↓hp_g_26_28, ↓hp_g_26_29, ↓hp_g_26_30, ↓hp_p_26_30, ↓hp_g_26_31, ↓hp_g_26_32, ↓hp_p_26_32, ↓hp_a_27, ↓hp_s_27, ↓hp_l_27, ↓hp_a_28, ↓hp_s_28, ↓hp_l_28, ↓hp_a_29, ↓hp_s_29, ↓hp_l_29, ↓hp_a_30, ↓hp_s_30, ↓hp_l_30, ↓hp_a_31, ↓hp_s_31, ↓hp_l_31, ↓hp_a_32, ↓hp_s_32, ↓hp_l_32, ↓hp_a_33, ↓hp_s_33, ↓hp_l_33, ↓hp_a_34, ↓hp_s_34, ↓hp_l_34, ↓hp_a_35, ↓hp_s_35, ↓hp_l_35, ↓hp_a_36, ↓hp_s_36, ↓hp_l_36, ↓hp_a_37, ↓hp_s_37, ↓hp_l_37, ↓hp_a_38, ↓hp_s_38, ↓hp_l_38, ↓hp_a_39, ↓hp_s_39, ↓hp_a_40, ↓hp_s_40, ↓hp_a_41, ↓hp_s_41, ↓hp_l_41, ↓hp_a_42, ↓hp_s_42, ↓hp_l_42, ↓hp_a_43, ↓hp_s_43, ↓hp_l_43, ↓hp_a_44, ↓hp_s_44, ↓hp_l_44, ↓hp_a_45, ↓hp_s_45, ↓hp_l_45, ↓hp_a_46, ↓hp_s_46, ↓hp_l_46, ↓hp_a_47, ↓hp_s_47, ↓hp_l_47, ↓hp_a_48, ↓hp_s_48, ↓hp_l_48, ↓hp_a_49, ↓hp_s_49, ↓hp_l_49, ↓hp_a_50, ↓hp_s_50, ↓hp_l_50, hap, e_X12_in, f1, g1]
    · refine ⟨MI, MA, ML, ?_, hV, hP⟩
      show f_X12_gap sc (n + 40) 26 (iO (k : Int)) (iO (y : Int)) (iO i) (iO w) _ = _
      rw [if_neg (show ¬ (0 ≤ w ∧ w ≤ 2 ∧ 0 ≤ i ∧ i < ((gsts l y).1 : Int)) by omega), e_X12_gap]
      clear hV c4 hR
      by_cases t1 : w < 0
      · clear gw; simp (disch := (first | assumption | (unfold i32; omega) | (unfold i64; omega) | omega)) only [↓reduceIte, ki_0, ki_1, ki_2, ki_3, ki_4, ki_5, ki_6, ki_7, ki_8, ki_9, ki_10, ki_11, ki_12, ki_13, ki_14, ki_15, ki_20, ki_21, ki_30, ki_31, ki_40, ki_41, ki_50, ki_51, ki_60, ki_63, ki_64, ki_65, ki_100, ki_158, ki_160, ki_200, ki_212, ki_1000, ki_2000, ki_2001, ki_5000, ki_10000, ki_10001, ki_100000, ki_200000, ki_1000000, ki_2000000, ki_3000000, iO_neg, iO_add, iO_sub, iO_mul, kn_4, kn_8, kn_10, kn_20, kn_24, kn_40, kn_41, kn_50, kn_60, kn_158, kn_160, kn_200, kn_212, kn_2001, tn_lt, fn_lt, tn_le, fn_le, tn_eq, fn_eq, x_lt, x_le, x_eq, x_ix, x_nat, t_lt, f_lt, t_le, f_le, t_eq, f_eq, eq_self, and_self, true_and, and_true, false_and, and_false, if_true, if_false, Int.toNat_natCast, bI_s, bL_s, bA_s, bA_n, bV_s, mq_s, mq_n, en_le, bl_0, bl_1, u_eq, u_ne, w_eq, w_ne, v_eq, v_ne, ↓hp_cc_26, ↓hp_g_26_0, ↓hp_p_26_0, ↓hp_g_26_1, ↓hp_p_26_1, ↓hp_g_26_2, ↓hp_p_26_2, ↓hp_g_26_3, ↓hp_g_26_4, ↓hp_g_26_5, ↓hp_g_26_6, ↓hp_g_26_7, ↓hp_g_26_8, ↓hp_g_26_9, ↓hp_g_26_10, ↓hp_g_26_11, ↓hp_g_26_12, ↓hp_g_26_13, ↓hp_g_26_14, ↓hp_g_26_15, ↓hp_p_26_15, ↓hp_g_26_16, ↓hp_g_26_17, ↓hp_g_26_18, ↓hp_p_26_18, ↓hp_g_26_19, ↓hp_p_26_19, ↓hp_g_26_20, ↓hp_g_26_21, ↓hp_p_26_21, ↓hp_g_26_22, ↓hp_g_26_23, ↓hp_g_26_24, ↓hp_g_26_25, ↓hp_g_26_26, ↓hp_g_26_27, ↓hp_g_26_28, ↓hp_g_26_29, ↓hp_g_26_30, ↓hp_p_26_30, ↓hp_g_26_31, ↓hp_g_26_32, ↓hp_p_26_32, ↓hp_a_27, ↓hp_s_27, ↓hp_l_27, ↓hp_a_28, ↓hp_s_28, ↓hp_l_28, ↓hp_a_29, ↓hp_s_29, ↓hp_l_29, ↓hp_a_30, ↓hp_s_30, ↓hp_l_30, ↓hp_a_31, ↓hp_s_31, ↓hp_l_31, ↓hp_a_32, ↓hp_s_32, ↓hp_l_32, ↓hp_a_33, ↓hp_s_33, ↓hp_l_33, ↓hp_a_34, ↓hp_s_34, ↓hp_l_34, ↓hp_a_35, ↓hp_s_35, ↓hp_l_35, ↓hp_a_36, ↓hp_s_36, ↓hp_l_36, ↓hp_a_37, ↓hp_s_37, ↓hp_l_37, ↓hp_a_38, ↓hp_s_38, ↓hp_l_38, ↓hp_a_39, ↓hp_s_39, ↓hp_a_40, ↓hp_s_40, ↓hp_a_41, ↓hp_s_41, ↓hp_l_41, ↓hp_a_42, ↓hp_s_42, ↓hp_l_42, ↓hp_a_43, ↓hp_s_43, ↓hp_l_43, ↓hp_a_44, ↓hp_s_44, ↓hp_l_44, ↓hp_a_45, ↓hp_s_45, ↓hp_l_45, ↓hp_a_46, ↓hp_s_46, ↓hp_l_46, ↓hp_a_47, ↓hp_s_47, ↓hp_l_47, ↓hp_a_48, ↓hp_s_48, ↓hp_l_48, ↓hp_a_49, ↓hp_s_49, ↓hp_l_49, ↓hp_a_50, ↓hp_s_50, ↓hp_l_50, hap, e_X12_in]
      · have t2 : 2 < w := by omega
        clear gw; simp (disch := (first | assumption | (unfold i32; omega) | (unfold i64; omega) | omega)) only [↓reduceIte, ki_0, ki_1, ki_2, ki_3, ki_4, ki_5, ki_6, ki_7, ki_8, ki_9, ki_10, ki_11, ki_12, ki_13, ki_14, ki_15, ki_20, ki_21, ki_30, ki_31, ki_40, ki_41, ki_50, ki_51, ki_60, ki_63, ki_64, ki_65, ki_100, ki_158, ki_160, ki_200, ki_212, ki_1000, ki_2000, ki_2001, ki_5000, ki_10000, ki_10001, ki_100000, ki_200000, ki_1000000, ki_2000000, ki_3000000, iO_neg, iO_add, iO_sub, iO_mul, kn_4, kn_8, kn_10, kn_20, kn_24, kn_40, kn_41, kn_50, kn_60, kn_158, kn_160, kn_200, kn_212, kn_2001, tn_lt, fn_lt, tn_le, fn_le, tn_eq, fn_eq, x_lt, x_le, x_eq, x_ix, x_nat, t_lt, f_lt, t_le, f_le, t_eq, f_eq, eq_self, and_self, true_and, and_true, false_and, and_false, if_true, if_false, Int.toNat_natCast, bI_s, bL_s, bA_s, bA_n, bV_s, mq_s, mq_n, en_le, bl_0, bl_1, u_eq, u_ne, w_eq, w_ne, v_eq, v_ne, ↓hp_cc_26, ↓hp_g_26_0, ↓hp_p_26_0, ↓hp_g_26_1, ↓hp_p_26_1, ↓hp_g_26_2, ↓hp_p_26_2, ↓hp_g_26_3, ↓hp_g_26_4, ↓hp_g_26_5, ↓hp_g_26_6, ↓hp_g_26_7, ↓hp_g_26_8, ↓hp_g_26_9, ↓hp_g_26_10, ↓hp_g_26_11, ↓hp_g_26_12, ↓hp_g_26_13, ↓hp_g_26_14, ↓hp_g_26_15, ↓hp_p_26_15, ↓hp_g_26_16, ↓hp_g_26_17, ↓hp_g_26_18, ↓hp_p_26_18, ↓hp_g_26_19, ↓hp_p_26_19, ↓hp_g_26_20, ↓hp_g_26_21, ↓hp_p_26_21, ↓hp_g_26_22, ↓hp_g_26_23, ↓hp_g_26_24, ↓hp_g_26_25, ↓hp_g_26_26, ↓hp_g_26_27, ↓hp_g_26_28, ↓hp_g_26_29, ↓hp_g_26_30, ↓hp_p_26_30, ↓hp_g_26_31, ↓hp_g_26_32, ↓hp_p_26_32, ↓hp_a_27, ↓hp_s_27, ↓hp_l_27, ↓hp_a_28, ↓hp_s_28, ↓hp_l_28, ↓hp_a_29, ↓hp_s_29, ↓hp_l_29, ↓hp_a_30, ↓hp_s_30, ↓hp_l_30, ↓hp_a_31, ↓hp_s_31, ↓hp_l_31, ↓hp_a_32, ↓hp_s_32, ↓hp_l_32, ↓hp_a_33, ↓hp_s_33, ↓hp_l_33, ↓hp_a_34, ↓hp_s_34, ↓hp_l_34, ↓hp_a_35, ↓hp_s_35, ↓hp_l_35, ↓hp_a_36, ↓hp_s_36, ↓hp_l_36, ↓hp_a_37, ↓hp_s_37, ↓hp_l_37, ↓hp_a_38, ↓hp_s_38, ↓hp_l_38, ↓hp_a_39, ↓hp_s_39, ↓hp_a_40, ↓hp_s_40, ↓hp_a_41, ↓hp_s_41, ↓hp_l_41, ↓hp_a_42, ↓hp_s_42, ↓hp_l_42, ↓hp_a_43, ↓hp_s_43, ↓hp_l_43, ↓hp_a_44, ↓hp_s_44, ↓hp_l_44, ↓hp_a_45, ↓hp_s_45, ↓hp_l_45, ↓hp_a_46, ↓hp_s_46, ↓hp_l_46, ↓hp_a_47, ↓hp_s_47, ↓hp_l_47, ↓hp_a_48, ↓hp_s_48, ↓hp_l_48, ↓hp_a_49, ↓hp_s_49, ↓hp_l_49, ↓hp_a_50, ↓hp_s_50, ↓hp_l_50, hap, e_X12_in]
theorem mc_follows (hS : OK5 S) {r m i : Int} (hr : i32 r) (hm : i32 m) (hi : i32 i) : MC S S (p_follows S r m i) (fun z => f_X12_follows sc (n + 40) 26 (iO r) (iO m) (iO i) z) := by
  intro XI XA XP XC MI MA ML D hV hP
  have hap := m_arePoints (sc := sc) (n := n + 35) (XI := XI) (XA := XA) (XP := XP) (XC := XC) (ML := ML) (D := D) hV hS hr hm
  have h8 := hS.1
  have h10 := hS.2.1
  obtain ⟨i1, i2⟩ := id hi
  unfold p_follows
  cases hq : ptq S r m with
  | none =>
    rw [hq, Option.isSome_none, if_neg Bool.false_ne_true] at hap
    refine ⟨MI, MA, ML, ?_, hV, hP⟩
    show f_X12_follows sc (n + 40) 26 (iO r) (iO m) (iO i) _ = _
    rw [e_X12_follows]
    clear hV
    simp (disch := (first | assumption | (unfold i32; omega) | (unfold i64; omega) | omega)) only [↓reduceIte, ki_0, ki_1, ki_2, ki_3, ki_4, ki_5, ki_6, ki_7, ki_8, ki_9, ki_10, ki_11, ki_12, ki_13, ki_14, ki_15, ki_20, ki_21, ki_30, ki_31, ki_40, ki_41, ki_50, ki_51, ki_60, ki_63, ki_64, ki_65, ki_100, ki_158, ki_160, ki_200, ki_212, ki_1000, ki_2000, ki_2001, ki_5000, ki_10000, ki_10001, ki_100000, ki_200000, ki_1000000, ki_2000000, ki_3000000, iO_neg, iO_add, iO_sub, iO_mul, kn_4, kn_8, kn_10, kn_20, kn_24, kn_40, kn_41, kn_50, kn_60, kn_158, kn_160, kn_200, kn_212, kn_2001, tn_lt, fn_lt, tn_le, fn_le, tn_eq, fn_eq, x_lt, x_le, x_eq, x_ix, x_nat, t_lt, f_lt, t_le, f_le, t_eq, f_eq, eq_self, and_self, true_and, and_true, false_and, and_false, if_true, if_false, Int.toNat_natCast, bI_s, bL_s, bA_s, bA_n, bV_s, mq_s, mq_n, en_le, bl_0, bl_1, u_eq, u_ne, w_eq, w_ne, v_eq, v_ne, ↓hp_cc_26, ↓hp_g_26_0, ↓hp_p_26_0, ↓hp_g_26_1, ↓hp_p_26_1, ↓hp_g_26_2, ↓hp_p_26_2, ↓hp_g_26_3, ↓hp_g_26_4, ↓hp_g_26_5, ↓hp_g_26_6, ↓hp_g_26_7, ↓hp_g_26_8, ↓hp_g_26_9, ↓hp_g_26_10, ↓hp_g_26_11, ↓hp_g_26_12, ↓hp_g_26_13, ↓hp_g_26_14, ↓hp_g_26_15, ↓hp_p_26_15, ↓hp_g_26_16, ↓hp_g_26_17, ↓hp_g_26_18, ↓hp_p_26_18, ↓hp_g_26_19, ↓hp_p_26_19, ↓hp_g_26_20, ↓hp_g_26_21, ↓hp_p_26_21, ↓hp_g_26_22, ↓hp_g_26_23, ↓hp_g_26_24, ↓hp_g_26_25, ↓hp_g_26_26, ↓hp_g_26_27, ↓hp_g_26_28, ↓hp_g_26_29, ↓hp_g_26_30, ↓hp_p_26_30, ↓hp_g_26_31, ↓hp_g_26_32, ↓hp_p_26_32, ↓hp_a_27, ↓hp_s_27, ↓hp_l_27, ↓hp_a_28, ↓hp_s_28, ↓hp_l_28, ↓hp_a_29, ↓hp_s_29, ↓hp_l_29, ↓hp_a_30, ↓hp_s_30, ↓hp_l_30, ↓hp_a_31, ↓hp_s_31, ↓hp_l_31, ↓hp_a_32, ↓hp_s_32, ↓hp_l_32, ↓hp_a_33, ↓hp_s_33, ↓hp_l_33, ↓hp_a_34, ↓hp_s_34, ↓hp_l_34, ↓hp_a_35, ↓hp_s_35, ↓hp_l_35, ↓hp_a_36, ↓hp_s_36, ↓hp_l_36, ↓hp_a_37, ↓hp_s_37, ↓hp_l_37, ↓hp_a_38, ↓hp_s_38, ↓hp_l_38, ↓hp_a_39, ↓hp_s_39, ↓hp_a_40, ↓hp_s_40, ↓hp_a_41, ↓hp_s_41, ↓hp_l_41, ↓hp_a_42, ↓hp_s_42, ↓hp_l_42, ↓hp_a_43, ↓hp_s_43, ↓hp_l_43, ↓hp_a_44, ↓hp_s_44, ↓hp_l_44, ↓hp_a_45, ↓hp_s_45, ↓hp_l_45, ↓hp_a_46, ↓hp_s_46, ↓hp_l_46, ↓hp_a_47, ↓hp_s_47, ↓hp_l_47, ↓hp_a_48, ↓hp_s_48, ↓hp_l_48, ↓hp_a_49, ↓hp_s_49, ↓hp_l_49, ↓hp_a_50, ↓hp_s_50, ↓hp_l_50, hap]
  | some l =>
    rw [hq, Option.isSome_some, if_pos rfl] at hap
    obtain ⟨q, q1, q2, q3, q4, q5, q6⟩ := ptq_some hq
    obtain ⟨k, rfl, hk, hq2⟩ := rowq_some q1
    obtain ⟨c1, c2, c3, c4⟩ := hV.2.2.2.2.2.1 k q hq2
    have hR := hS.2.2.2.1 q (List.mem_of_getElem? hq2)
    have hs0 : 0 ≤ q.2.1 := (hR.2.2.2.2.2.2.1 q2).2
    have hs1 : q.2.1 < S.1.length := hR.2.2.2.1
    obtain ⟨s, hs⟩ : ∃ s : Nat, q.2.1 = s := ⟨q.2.1.toNat, by omega⟩
    have hss : q.2.1.toNat = s := by omega
    rw [hs] at c3
    rw [hss] at q5
    obtain ⟨y, rfl⟩ : ∃ y : Nat, m = y := ⟨m.toNat, by omega⟩
    dsimp only
    rw [Int.toNat_natCast]
    have hSL := hS.2.2.1 l (List.mem_of_getElem? q5)
    by_cases gi : 0 ≤ i ∧ i < (y : Int)
    · rw [if_pos gi]
      obtain ⟨gi1, gi2⟩ := gi
      obtain ⟨v, rfl⟩ : ∃ v : Nat, i = v := ⟨i.toNat, by omega⟩
      rw [Int.toNat_natCast]
      obtain ⟨MA1, f1, f2, f3, f4⟩ := m_rings (sc := sc) (d := n + 34) (XI := XI) (XA := XA) (XP := XP) (XC := XC) (MI := MI) (ML := ML) (D := D) (n := y) (by omega) hSL (by omega) y 0 MA (by omega) (hV.2.2.2.2.1 s l q5) (fun t ht => by omega) (fun t ht => by omega)
      have f1' : f_X12_rings sc (n + 39) 26 (iO (s : Int)) (iO (y : Int)) (hp XI XA XP XC MI MA ML D) = some (none, hp XI XA XP XC MI MA1 ML D) := (e_X12_rings _ _ _ _ _ _).trans f1
      have hfo := m_follows3 (sc := sc) (d := n + 39) (XI := XI) (XA := XA) (XP := XP) (XC := XC) (ML := ML) (D := D) (MI := MI) (l := l) (n := y) (by omega) f4 (a := v) (by omega) (inv (ords l y) v y) 0 (by omega)
      have hfo : b_X12_follows_3 sc (n + 39) 26 (iO (y : Int)) (iO (v : Int)) (iO 0) (hp XI XA XP XC MI MA1 ML D) = _ := hfo
      refine ⟨MI, MA1, ML, ?_, hV.scr (fun _ _ => rfl) (fun i hi => f2 i (by omega) (by omega)), pv_of hP rfl (f2 21 (by decide) (by decide))⟩
      show f_X12_follows sc (n + 40) 26 (iO (k : Int)) (iO (y : Int)) (iO (v : Int)) _ = _
      rw [e_X12_follows]
      clear hV c4 f1 f2 f3 f4 hR
      simp (disch := (first | assumption | (unfold i32; omega) | (unfold i64; omega) | omega)) only [↓reduceIte, ki_0, ki_1, ki_2, ki_3, ki_4, ki_5, ki_6, ki_7, ki_8, ki_9, ki_10, ki_11, ki_12, ki_13, ki_14, ki_15, ki_20, ki_21, ki_30, ki_31, ki_40, ki_41, ki_50, ki_51, ki_60, ki_63, ki_64, ki_65, ki_100, ki_158, ki_160, ki_200, ki_212, ki_1000, ki_2000, ki_2001, ki_5000, ki_10000, ki_10001, ki_100000, ki_200000, ki_1000000, ki_2000000, ki_3000000, iO_neg, iO_add, iO_sub, iO_mul, kn_4, kn_8, kn_10, kn_20, kn_24, kn_40, kn_41, kn_50, kn_60, kn_158, kn_160, kn_200, kn_212, kn_2001, tn_lt, fn_lt, tn_le, fn_le, tn_eq, fn_eq, x_lt, x_le, x_eq, x_ix, x_nat, t_lt, f_lt, t_le, f_le, t_eq, f_eq, eq_self, and_self, true_and, and_true, false_and, and_false, if_true, if_false, Int.toNat_natCast, bI_s, bL_s, bA_s, bA_n, bV_s, mq_s, mq_n, en_le, bl_0, bl_1, u_eq, u_ne, w_eq, w_ne, v_eq, v_ne, ↓hp_cc_26, ↓hp_g_26_0, ↓hp_p_26_0, ↓hp_g_26_1, ↓hp_p_26_1, ↓hp_g_26_2, ↓hp_p_26_2, ↓hp_g_26_3, ↓hp_g_26_4, ↓hp_g_26_5, ↓hp_g_26_6, ↓hp_g_26_7, ↓hp_g_26_8, ↓hp_g_26_9, ↓hp_g_26_10, ↓hp_g_26_11, ↓hp_g_26_12, ↓hp_g_26_13, ↓hp_g_26_14, ↓hp_g_26_15, ↓hp_p_26_15, ↓hp_g_26_16, ↓hp_g_26_17, ↓hp_g_26_18, ↓hp_p_26_18, ↓hp_g_26_19, ↓hp_p_26_19, ↓hp_g_26_20, ↓hp_g_26_21, ↓hp_p_26_21, ↓hp_g_26_22, ↓hp_g_26_23, ↓hp_g_26_24, ↓hp_g_26_25, ↓hp_g_26_26, ↓hp_g_26_27, ↓hp_g_26_28, ↓hp_g_26_29, ↓hp_g_26_30, ↓hp_p_26_30, ↓hp_g_26_31, ↓hp_g_26_32, ↓hp_p_26_32, ↓hp_a_27, ↓hp_s_27, ↓hp_l_27, ↓hp_a_28, ↓hp_s_28, ↓hp_l_28, ↓hp_a_29, ↓hp_s_29, ↓hp_l_29, ↓hp_a_30, ↓hp_s_30, ↓hp_l_30, ↓hp_a_31, ↓hp_s_31, ↓hp_l_31, ↓hp_a_32, ↓hp_s_32, ↓hp_l_32, ↓hp_a_33, ↓hp_s_33, ↓hp_l_33, ↓hp_a_34, ↓hp_s_34, ↓hp_l_34, ↓hp_a_35, ↓hp_s_35, ↓hp_l_35, ↓hp_a_36, ↓hp_s_36, ↓hp_l_36, ↓hp_a_37, ↓hp_s_37, ↓hp_l_37, ↓hp_a_38, ↓hp_s_38, ↓hp_l_38, ↓hp_a_39, ↓hp_s_39, ↓hp_a_40, ↓hp_s_40, ↓hp_a_41, ↓hp_s_41, ↓hp_l_41, ↓hp_a_42, ↓hp_s_42, ↓hp_l_42, ↓hp_a_43, ↓hp_s_43, ↓hp_l_43, ↓hp_a_44, ↓hp_s_44, ↓hp_l_44, ↓hp_a_45, ↓hp_s_45, ↓hp_l_45, ↓hp_a_46, ↓hp_s_46, ↓hp_l_46, ↓hp_a_47, ↓hp_s_47, ↓hp_l_47, ↓hp_a_48, ↓hp_s_48, ↓hp_l_48, ↓hp_a_49, ↓hp_s_49, ↓hp_l_49, ↓hp_a_50, ↓hp_s_50, ↓hp_l_50, hap, e_X12_in, c3, f1', hfo]
    · rw [if_neg gi]
      refine ⟨MI, MA, ML, ?_, hV, hP⟩
      show f_X12_follows sc (n + 40) 26 (iO (k : Int)) (iO (y : Int)) (iO i) _ = _
      rw [e_X12_follows]
      clear hV c4 hR
      by_cases t1 : i < 0
      · clear gi; simp (disch := (first | assumption | (unfold i32; omega) | (unfold i64; omega) | omega)) only [↓reduceIte, ki_0, ki_1, ki_2, ki_3, ki_4, ki_5, ki_6, ki_7, ki_8, ki_9, ki_10, ki_11, ki_12, ki_13, ki_14, ki_15, ki_20, ki_21, ki_30, ki_31, ki_40, ki_41, ki_50, ki_51, ki_60, ki_63, ki_64, ki_65, ki_100, ki_158, ki_160, ki_200, ki_212, ki_1000, ki_2000, ki_2001, ki_5000, ki_10000, ki_10001, ki_100000, ki_200000, ki_1000000, ki_2000000, ki_3000000, iO_neg, iO_add, iO_sub, iO_mul, kn_4, kn_8, kn_10, kn_20, kn_24, kn_40, kn_41, kn_50, kn_60, kn_158, kn_160, kn_200, kn_212, kn_2001, tn_lt, fn_lt, tn_le, fn_le, tn_eq, fn_eq, x_lt, x_le, x_eq, x_ix, x_nat, t_lt, f_lt, t_le, f_le, t_eq, f_eq, eq_self, and_self, true_and, and_true, false_and, and_false, if_true, if_false, Int.toNat_natCast, bI_s, bL_s, bA_s, bA_n, bV_s, mq_s, mq_n, en_le, bl_0, bl_1, u_eq, u_ne, w_eq, w_ne, v_eq, v_ne, ↓hp_cc_26, ↓hp_g_26_0, ↓hp_p_26_0, ↓hp_g_26_1, ↓hp_p_26_1, ↓hp_g_26_2, ↓hp_p_26_2, ↓hp_g_26_3, ↓hp_g_26_4, ↓hp_g_26_5, ↓hp_g_26_6, ↓hp_g_26_7, ↓hp_g_26_8, ↓hp_g_26_9, ↓hp_g_26_10, ↓hp_g_26_11, ↓hp_g_26_12, ↓hp_g_26_13, ↓hp_g_26_14, ↓hp_g_26_15, ↓hp_p_26_15, ↓hp_g_26_16, ↓hp_g_26_17, ↓hp_g_26_18, ↓hp_p_26_18, ↓hp_g_26_19, ↓hp_p_26_19, ↓hp_g_26_20, ↓hp_g_26_21, ↓hp_p_26_21, ↓hp_g_26_22, ↓hp_g_26_23, ↓hp_g_26_24, ↓hp_g_26_25, ↓hp_g_26_26, ↓hp_g_26_27, ↓hp_g_26_28, ↓hp_g_26_29, ↓hp_g_26_30, ↓hp_p_26_30, ↓hp_g_26_31, ↓hp_g_26_32, ↓hp_p_26_32, ↓hp_a_27, ↓hp_s_27, ↓hp_l_27, ↓hp_a_28, ↓hp_s_28, ↓hp_l_28, ↓hp_a_29, ↓hp_s_29, ↓hp_l_29, ↓hp_a_30, ↓hp_s_30, ↓hp_l_30, ↓hp_a_31, ↓hp_s_31, ↓hp_l_31, ↓hp_a_32, ↓hp_s_32, ↓hp_l_32, ↓hp_a_33, ↓hp_s_33, ↓hp_l_33, ↓hp_a_34, ↓hp_s_34, ↓hp_l_34, ↓hp_a_35, ↓hp_s_35, ↓hp_l_35, ↓hp_a_36, ↓hp_s_36, ↓hp_l_36, ↓hp_a_37, ↓hp_s_37, ↓hp_l_37, ↓hp_a_38, ↓hp_s_38, ↓hp_l_38, ↓hp_a_39, ↓hp_s_39, ↓hp_a_40, ↓hp_s_40, ↓hp_a_41, ↓hp_s_41, ↓hp_l_41, ↓hp_a_42, ↓hp_s_42, ↓hp_l_42, ↓hp_a_43, ↓hp_s_43, ↓hp_l_43, ↓hp_a_44, ↓hp_s_44, ↓hp_l_44, ↓hp_a_45, ↓hp_s_45, ↓hp_l_45, ↓hp_a_46, ↓hp_s_46, ↓hp_l_46, ↓hp_a_47, ↓hp_s_47, ↓hp_l_47, ↓hp_a_48, ↓hp_s_48, ↓hp_l_48, ↓hp_a_49, ↓hp_s_49, ↓hp_l_49, ↓hp_a_50, ↓hp_s_50, ↓hp_l_50, hap, e_X12_in]
      · have t2 : (y : Int) ≤ i := by omega
        clear gi; simp (disch := (first | assumption | (unfold i32; omega) | (unfold i64; omega) | omega)) only [↓reduceIte, ki_0, ki_1, ki_2, ki_3, ki_4, ki_5, ki_6, ki_7, ki_8, ki_9, ki_10, ki_11, ki_12, ki_13, ki_14, ki_15, ki_20, ki_21, ki_30, ki_31, ki_40, ki_41, ki_50, ki_51, ki_60, ki_63, ki_64, ki_65, ki_100, ki_158, ki_160, ki_200, ki_212, ki_1000, ki_2000, ki_2001, ki_5000, ki_10000, ki_10001, ki_100000, ki_200000, ki_1000000, ki_2000000, ki_3000000, iO_neg, iO_add, iO_sub, iO_mul, kn_4, kn_8, kn_10, kn_20, kn_24, kn_40, kn_41, kn_50, kn_60, kn_158, kn_160, kn_200, kn_212, kn_2001, tn_lt, fn_lt, tn_le, fn_le, tn_eq, fn_eq, x_lt, x_le, x_eq, x_ix, x_nat, t_lt, f_lt, t_le, f_le, t_eq, f_eq, eq_self, and_self, true_and, and_true, false_and, and_false, if_true, if_false, Int.toNat_natCast, bI_s, bL_s, bA_s, bA_n, bV_s, mq_s, mq_n, en_le, bl_0, bl_1, u_eq, u_ne, w_eq, w_ne, v_eq, v_ne, ↓hp_cc_26, ↓hp_g_26_0, ↓hp_p_26_0, ↓hp_g_26_1, ↓hp_p_26_1, ↓hp_g_26_2, ↓hp_p_26_2, ↓hp_g_26_3, ↓hp_g_26_4, ↓hp_g_26_5, ↓hp_g_26_6, ↓hp_g_26_7, ↓hp_g_26_8, ↓hp_g_26_9, ↓hp_g_26_10, ↓hp_g_26_11, ↓hp_g_26_12, ↓hp_g_26_13, ↓hp_g_26_14, ↓hp_g_26_15, ↓hp_p_26_15, ↓hp_g_26_16, ↓hp_g_26_17, ↓hp_g_26_18, ↓hp_p_26_18, ↓hp_g_26_19, ↓hp_p_26_19, ↓hp_g_26_20, ↓hp_g_26_21, ↓hp_p_26_21, ↓hp_g_26_22, ↓hp_g_26_23, ↓hp_g_26_24, ↓hp_g_26_25, ↓hp_g_26_26, ↓hp_g_26_27, ↓hp_g_26_28, ↓hp_g_26_29, ↓hp_g_26_30, ↓hp_p_26_30, ↓hp_g_26_31, ↓hp_g_26_32, ↓hp_p_26_32, ↓hp_a_27, ↓hp_s_27, ↓hp_l_27, ↓hp_a_28, ↓hp_s_28, ↓hp_l_28, ↓hp_a_29, ↓hp_s_29, ↓hp_l_29, ↓hp_a_30, ↓hp_s_30, ↓hp_l_30, ↓hp_a_31, ↓hp_s_31, ↓hp_l_31, ↓hp_a_32, ↓hp_s_32, ↓hp_l_32, ↓hp_a_33, ↓hp_s_33, ↓hp_l_33, ↓hp_a_34, ↓hp_s_34, ↓hp_l_34, ↓hp_a_35, ↓hp_s_35, ↓hp_l_35, ↓hp_a_36, ↓hp_s_36, ↓hp_l_36, ↓hp_a_37, ↓hp_s_37, ↓hp_l_37, ↓hp_a_38, ↓hp_s_38, ↓hp_l_38, ↓hp_a_39, ↓hp_s_39, ↓hp_a_40, ↓hp_s_40, ↓hp_a_41, ↓hp_s_41, ↓hp_l_41, ↓hp_a_42, ↓hp_s_42, ↓hp_l_42, ↓hp_a_43, ↓hp_s_43, ↓hp_l_43, ↓hp_a_44, ↓hp_s_44, ↓hp_l_44, ↓hp_a_45, ↓hp_s_45, ↓hp_l_45, ↓hp_a_46, ↓hp_s_46, ↓hp_l_46, ↓hp_a_47, ↓hp_s_47, ↓hp_l_47, ↓hp_a_48, ↓hp_s_48, ↓hp_l_48, ↓hp_a_49, ↓hp_s_49, ↓hp_l_49, ↓hp_a_50, ↓hp_s_50, ↓hp_l_50, hap, e_X12_in]
theorem x_layPoints (hS : OK5 S) {r m : Int} (hr : i32 r) (hm : i32 m) (XI : Nat → Int32) (XA : Nat → Nat → Int32) (XP : Nat → Nat → Option Nat) (XC : Value) (MI : Nat → Int32) (MA : Nat → Nat → Int32) (ML : Nat → Nat → Int64) (D : en_H) (Γ : Nat → Option GD) (hV : CV S Γ XI XA XP D) :
    (ptq S r m = none → f_X11_layPoints sc (n + 39) 1 (iO r) (iO m) (hp XI XA XP XC MI MA ML D) = some (some (.int (iO 0)), hp XI XA XP XC MI MA ML D)) ∧ (∀ l, ptq S r m = some l → ∃ XI' XA' XC', f_X11_layPoints sc (n + 39) 1 (iO r) (iO m) (hp XI XA XP XC MI MA ML D) = some (some (.int (iO 1)), hp XI' XA' XP XC' MI MA ML D) ∧ CV S Γ XI' XA' XP D ∧ GX (gsts l m.toNat) XI' XA' ∧ (∀ a, a < m.toNat → XA' 2 a = iO (nxt (ords l m.toNat) m.toNat a : Int))) := by
  obtain ⟨m1, m2⟩ := id hm
  have h8 := hS.1
  by_cases g0 : 1 ≤ m ∧ m ≤ 60
  · obtain ⟨g1, g2⟩ := g0
    cases hq : rowq S r with
    | none =>
      have hrow := x_rowAt0 (sc := sc) (n := n + 37) (XC := XC) (MI := MI) (MA := MA) (ML := ML) hV hS hr hq
      have hno : ptq S r m = none := by unfold ptq; rw [hq]
      refine ⟨fun _ => ?_, fun l h => by rw [hno] at h; cases h⟩
      rw [e_X11_layPoints]
      clear hV
      simp (disch := (first | assumption | (unfold i32; omega) | (unfold i64; omega) | omega)) only [↓reduceIte, ki_0, ki_1, ki_2, ki_3, ki_4, ki_5, ki_6, ki_7, ki_8, ki_9, ki_10, ki_11, ki_12, ki_13, ki_14, ki_15, ki_20, ki_21, ki_30, ki_31, ki_40, ki_41, ki_50, ki_51, ki_60, ki_63, ki_64, ki_65, ki_100, ki_158, ki_160, ki_200, ki_212, ki_1000, ki_2000, ki_2001, ki_5000, ki_10000, ki_10001, ki_100000, ki_200000, ki_1000000, ki_2000000, ki_3000000, iO_neg, iO_add, iO_sub, iO_mul, kn_4, kn_8, kn_10, kn_20, kn_24, kn_40, kn_41, kn_50, kn_60, kn_158, kn_160, kn_200, kn_212, kn_2001, tn_lt, fn_lt, tn_le, fn_le, tn_eq, fn_eq, x_lt, x_le, x_eq, x_ix, x_nat, t_lt, f_lt, t_le, f_le, t_eq, f_eq, eq_self, and_self, true_and, and_true, false_and, and_false, if_true, if_false, Int.toNat_natCast, bI_s, bL_s, bA_s, bA_n, bV_s, mq_s, mq_n, en_le, bl_0, bl_1, u_eq, u_ne, w_eq, w_ne, v_eq, v_ne, ↓hp_cc_1, ↓hp_g_1_0, ↓hp_g_1_1, ↓hp_g_1_2, ↓hp_g_1_3, ↓hp_g_1_4, ↓hp_g_1_5, ↓hp_g_1_6, ↓hp_g_1_7, ↓hp_g_1_8, ↓hp_p_1_8, ↓hp_g_1_9, ↓hp_p_1_9, ↓hp_g_1_10, ↓hp_p_1_10, ↓hp_a_2, ↓hp_n_2, ↓hp_a_3, ↓hp_n_3, ↓hp_a_4, hrow]
    | some q =>
      obtain ⟨k, rfl, hk, hq2⟩ := rowq_some hq
      have hR := hS.2.2.2.1 q (List.mem_of_getElem? hq2)
      obtain ⟨p, g, c1, c2, c3, c4, c5, c6, c7, c8, c9⟩ := hV.2.2.2.2.2.1 k q hq2
      have hrow := x_rowAt1 (sc := sc) (n := n + 37) (XC := XC) (MI := MI) (MA := MA) (ML := ML) hV hS hq2 c1
      have hrc := (hV.2.2.2.2.2.2.2.2 p g c2).2.2.2
      obtain ⟨h1, fs, h2⟩ := rc_cls hrc
      have hio : ∀ f0 f1 : Option en_R, en_io (hp XI XA XP XC MI MA ML D) (p + 51) [(1, 0), (2, 0), (3, 1), (4, 0), (8, 0)] f0 f1 = if q.1 = 4 then f1 else f0 := by
        intro f0 f1
        rw [d_io h2]
        rw [c3] at h1 ⊢
        rcases h1 with h | h | h | h | h <;> rw [h] <;> rfl
      by_cases g3 : q.1 = 4
      · have hio2 : ∀ f0 f1 : Option en_R, en_io (hp XI XA XP XC MI MA ML D) (p + 51) [(1, 0), (2, 0), (3, 1), (4, 0), (8, 0)] f0 f1 = f1 := fun f0 f1 => (hio f0 f1).trans (if_pos g3)
        have hl := c9 (Or.inr g3)
        rcases hrc with ⟨r0, -⟩ | ⟨r0, sp, u, v, r1, r2, r3, r4, r5, r6, r7, r8, r9, r10⟩ | ⟨r0, -⟩
        · omega
        · rw [c3, g3] at r1
          have r1 : en_nt D p = some (.inr (3, [.int (iO (g.2.1 : Nat)), .int (iO g.2.2.1), .ref (sp + 51), .int (iO g.2.2.2.1), .int (iO u), .int (iO v)])) := r1
          have hvt : ∀ f : Nat → Option en_R, en_vt (hp XI XA XP XC MI MA ML D) (p + 51) [(3, 1)] f = f 1 := fun f => by rw [d_vt r1]; rfl
          have g2' : ∀ (f0 : Option en_R) (f : Nat → Option en_R), en_gA (hp XI XA XP XC MI MA ML D) (p + 51) [(3, 0)] 2 f0 f = f (sp + 51) := fun f0 f => d_gA r1 rfl rfl f0 f
          obtain ⟨a, b, c, e, t, qs, ls, k1, k2, k3, hC, hE, hD, k4, k5, -⟩ := id r2
          have gc : ∀ (g : Nat → Option en_R), en_cc (hp XI XA XP XC MI MA ML D) (sp + 51) g = g 6 := fun g => d_cc k1 g
          have gb : ∀ (f : Int64 → Option en_R), en_gL (hp XI XA XP XC MI MA ML D) (sp + 51) [(6, 0)] 5 f = f (lO b) := fun f => d_gL k1 rfl rfl f
          have gcc : ∀ (f : Int64 → Option en_R), en_gL (hp XI XA XP XC MI MA ML D) (sp + 51) [(6, 0)] 6 f = f (lO c) := fun f => d_gL k1 rfl rfl f
          obtain ⟨x1, x2, x3, x4, x5, x6, x7, x8, -⟩ := id hC
          have hb0 : b = 0 ↔ g.2.2.2.2.2.2.2.1 = 0 := (hE.zero).symm
          have hun : f_X7_hasUnlikePoints sc (n + 38) (sp + 51) (iO m) (hp XI XA XP XC MI MA ML D) = some (some (.int (iO (if g.2.2.2.2.2.2.2.1 ≠ 0 ∨ m ≤ g.2.2.2.2.2.2.2.2.1 / (Int.gcd g.2.2.2.2.2.2.1 g.2.2.2.2.2.2.2.2.1 : Nat) then 1 else 0))), hp XI XA XP XC MI MA ML D) := by
            rw [e_X7_hasUnlikePoints]
            by_cases y1 : b = 0
            · rw [← k5 y1]
              by_cases y2 : m ≤ c
              · rw [if_pos (Or.inr y2)]
                simp (disch := (first | assumption | (unfold i32; omega) | (unfold i64; omega) | omega)) only [↓reduceIte, ki_0, ki_1, ki_2, ki_3, ki_4, ki_5, ki_6, ki_7, ki_8, ki_9, ki_10, ki_11, ki_12, ki_13, ki_14, ki_15, ki_20, ki_21, ki_30, ki_31, ki_40, ki_41, ki_50, ki_51, ki_60, ki_63, ki_64, ki_65, ki_100, ki_158, ki_160, ki_200, ki_212, ki_1000, ki_2000, ki_2001, ki_5000, ki_10000, ki_10001, ki_100000, ki_200000, ki_1000000, ki_2000000, ki_3000000, iO_neg, iO_add, iO_sub, iO_mul, kn_4, kn_8, kn_10, kn_20, kn_24, kn_40, kn_41, kn_50, kn_60, kn_158, kn_160, kn_200, kn_212, kn_2001, tn_lt, fn_lt, tn_le, fn_le, tn_eq, fn_eq, x_lt, x_le, x_eq, x_ix, x_nat, t_lt, f_lt, t_le, f_le, t_eq, f_eq, eq_self, and_self, true_and, and_true, false_and, and_false, if_true, if_false, Int.toNat_natCast, bI_s, bL_s, bA_s, bA_n, bV_s, mq_s, mq_n, en_le, bl_0, bl_1, u_eq, u_ne, w_eq, w_ne, v_eq, v_ne, gb, gcc, kl_0, lc_lt, lc_le, lc_gt, lc_ge, lc_eq, y_lt, y_le, y_eq, iO_wide]
              · rw [if_neg (by have := hb0.mp y1; omega)]
                simp (disch := (first | assumption | (unfold i32; omega) | (unfold i64; omega) | omega)) only [↓reduceIte, ki_0, ki_1, ki_2, ki_3, ki_4, ki_5, ki_6, ki_7, ki_8, ki_9, ki_10, ki_11, ki_12, ki_13, ki_14, ki_15, ki_20, ki_21, ki_30, ki_31, ki_40, ki_41, ki_50, ki_51, ki_60, ki_63, ki_64, ki_65, ki_100, ki_158, ki_160, ki_200, ki_212, ki_1000, ki_2000, ki_2001, ki_5000, ki_10000, ki_10001, ki_100000, ki_200000, ki_1000000, ki_2000000, ki_3000000, iO_neg, iO_add, iO_sub, iO_mul, kn_4, kn_8, kn_10, kn_20, kn_24, kn_40, kn_41, kn_50, kn_60, kn_158, kn_160, kn_200, kn_212, kn_2001, tn_lt, fn_lt, tn_le, fn_le, tn_eq, fn_eq, x_lt, x_le, x_eq, x_ix, x_nat, t_lt, f_lt, t_le, f_le, t_eq, f_eq, eq_self, and_self, true_and, and_true, false_and, and_false, if_true, if_false, Int.toNat_natCast, bI_s, bL_s, bA_s, bA_n, bV_s, mq_s, mq_n, en_le, bl_0, bl_1, u_eq, u_ne, w_eq, w_ne, v_eq, v_ne, gb, gcc, kl_0, lc_lt, lc_le, lc_gt, lc_ge, lc_eq, y_lt, y_le, y_eq, iO_wide]
            · rw [if_pos (Or.inl (fun q => y1 (hb0.mpr q)))]
              simp (disch := (first | assumption | (unfold i32; omega) | (unfold i64; omega) | omega)) only [↓reduceIte, ki_0, ki_1, ki_2, ki_3, ki_4, ki_5, ki_6, ki_7, ki_8, ki_9, ki_10, ki_11, ki_12, ki_13, ki_14, ki_15, ki_20, ki_21, ki_30, ki_31, ki_40, ki_41, ki_50, ki_51, ki_60, ki_63, ki_64, ki_65, ki_100, ki_158, ki_160, ki_200, ki_212, ki_1000, ki_2000, ki_2001, ki_5000, ki_10000, ki_10001, ki_100000, ki_200000, ki_1000000, ki_2000000, ki_3000000, iO_neg, iO_add, iO_sub, iO_mul, kn_4, kn_8, kn_10, kn_20, kn_24, kn_40, kn_41, kn_50, kn_60, kn_158, kn_160, kn_200, kn_212, kn_2001, tn_lt, fn_lt, tn_le, fn_le, tn_eq, fn_eq, x_lt, x_le, x_eq, x_ix, x_nat, t_lt, f_lt, t_le, f_le, t_eq, f_eq, eq_self, and_self, true_and, and_true, false_and, and_false, if_true, if_false, Int.toNat_natCast, bI_s, bL_s, bA_s, bA_n, bV_s, mq_s, mq_n, en_le, bl_0, bl_1, u_eq, u_ne, w_eq, w_ne, v_eq, v_ne, gb, kl_0, lc_lt, lc_le, lc_gt, lc_ge, lc_eq, y_lt, y_le, y_eq]
          have hpt : ptq S (k : Int) m = if g.2.2.2.2.2.2.2.1 ≠ 0 ∨ m ≤ g.2.2.2.2.2.2.2.2.1 / (Int.gcd g.2.2.2.2.2.2.1 g.2.2.2.2.2.2.2.2.1 : Nat) then some g.2.2.2.2.2.2 else none := by
            unfold ptq
            rw [hq]
            dsimp only
            rw [if_pos ⟨g3, g1, g2⟩, hl]
          obtain ⟨y, rfl⟩ : ∃ y : Nat, m = y := ⟨m.toNat, by omega⟩
          by_cases yy : g.2.2.2.2.2.2.2.1 ≠ 0 ∨ (y : Int) ≤ g.2.2.2.2.2.2.2.2.1 / (Int.gcd g.2.2.2.2.2.2.1 g.2.2.2.2.2.2.2.2.1 : Nat)
          · rw [if_pos yy] at hun hpt
            refine ⟨(fun h => by rw [hpt] at h; cases h), fun l h => ?_⟩
            rw [hpt] at h
            cases h
            obtain ⟨XI', XA', f1, f2, f3, f4, f5⟩ := x_lay (sc := sc) (d := n + 32) (XP := XP) (MI := MI) (MA := MA) (ML := ML) r2 r3 (n := y) (by omega) (by omega) XI XA XC
            rw [Int.toNat_natCast]
            refine ⟨XI', XA', _, ?_, hV.scr (fun i hi => f4 i (by omega)) (fun i hi => f5 i (by omega)), f2, f3⟩
            rw [e_X11_layPoints]
            clear hV f2 f3 f4 f5 h1 hio yy hpt hb0 k2 k3
            simp (disch := (first | assumption | (unfold i32; omega) | (unfold i64; omega) | omega)) only [↓reduceIte, ki_0, ki_1, ki_2, ki_3, ki_4, ki_5, ki_6, ki_7, ki_8, ki_9, ki_10, ki_11, ki_12, ki_13, ki_14, ki_15, ki_20, ki_21, ki_30, ki_31, ki_40, ki_41, ki_50, ki_51, ki_60, ki_63, ki_64, ki_65, ki_100, ki_158, ki_160, ki_200, ki_212, ki_1000, ki_2000, ki_2001, ki_5000, ki_10000, ki_10001, ki_100000, ki_200000, ki_1000000, ki_2000000, ki_3000000, iO_neg, iO_add, iO_sub, iO_mul, kn_4, kn_8, kn_10, kn_20, kn_24, kn_40, kn_41, kn_50, kn_60, kn_158, kn_160, kn_200, kn_212, kn_2001, tn_lt, fn_lt, tn_le, fn_le, tn_eq, fn_eq, x_lt, x_le, x_eq, x_ix, x_nat, t_lt, f_lt, t_le, f_le, t_eq, f_eq, eq_self, and_self, true_and, and_true, false_and, and_false, if_true, if_false, Int.toNat_natCast, bI_s, bL_s, bA_s, bA_n, bV_s, mq_s, mq_n, en_le, bl_0, bl_1, u_eq, u_ne, w_eq, w_ne, v_eq, v_ne, ↓hp_cc_1, ↓hp_g_1_0, ↓hp_g_1_1, ↓hp_g_1_2, ↓hp_g_1_3, ↓hp_g_1_4, ↓hp_g_1_5, ↓hp_g_1_6, ↓hp_g_1_7, ↓hp_g_1_8, ↓hp_p_1_8, ↓hp_g_1_9, ↓hp_p_1_9, ↓hp_g_1_10, ↓hp_p_1_10, ↓hp_a_2, ↓hp_n_2, ↓hp_a_3, ↓hp_n_3, ↓hp_a_4, ↓hp_cc_9, ↓hp_g_9_0, ↓hp_g_9_1, ↓hp_g_9_2, ↓hp_g_9_3, ↓hp_g_9_4, ↓hp_p_9_4, ↓hp_g_9_5, ↓hp_g_9_6, ↓hp_p_9_7, ↓hp_g_9_7, ↓hp_a_10, ↓hp_s_10, ↓hp_l_10, ↓hp_a_11, ↓hp_s_11, ↓hp_l_11, ↓hp_a_12, ↓hp_s_12, ↓hp_l_12, ↓hp_a_13, ↓hp_s_13, ↓hp_l_13, ↓hp_a_14, ↓hp_s_14, ↓hp_l_14, ↓hp_a_15, ↓hp_s_15, ↓hp_l_15, hrow, hio2, hvt, g2', gc, hun, f1]
          · rw [if_neg yy] at hun hpt
            refine ⟨fun _ => ?_, fun l h => by rw [hpt] at h; cases h⟩
            rw [e_X11_layPoints]
            clear hV h1 hio yy hpt hb0 k2 k3
            simp (disch := (first | assumption | (unfold i32; omega) | (unfold i64; omega) | omega)) only [↓reduceIte, ki_0, ki_1, ki_2, ki_3, ki_4, ki_5, ki_6, ki_7, ki_8, ki_9, ki_10, ki_11, ki_12, ki_13, ki_14, ki_15, ki_20, ki_21, ki_30, ki_31, ki_40, ki_41, ki_50, ki_51, ki_60, ki_63, ki_64, ki_65, ki_100, ki_158, ki_160, ki_200, ki_212, ki_1000, ki_2000, ki_2001, ki_5000, ki_10000, ki_10001, ki_100000, ki_200000, ki_1000000, ki_2000000, ki_3000000, iO_neg, iO_add, iO_sub, iO_mul, kn_4, kn_8, kn_10, kn_20, kn_24, kn_40, kn_41, kn_50, kn_60, kn_158, kn_160, kn_200, kn_212, kn_2001, tn_lt, fn_lt, tn_le, fn_le, tn_eq, fn_eq, x_lt, x_le, x_eq, x_ix, x_nat, t_lt, f_lt, t_le, f_le, t_eq, f_eq, eq_self, and_self, true_and, and_true, false_and, and_false, if_true, if_false, Int.toNat_natCast, bI_s, bL_s, bA_s, bA_n, bV_s, mq_s, mq_n, en_le, bl_0, bl_1, u_eq, u_ne, w_eq, w_ne, v_eq, v_ne, ↓hp_cc_1, ↓hp_g_1_0, ↓hp_g_1_1, ↓hp_g_1_2, ↓hp_g_1_3, ↓hp_g_1_4, ↓hp_g_1_5, ↓hp_g_1_6, ↓hp_g_1_7, ↓hp_g_1_8, ↓hp_p_1_8, ↓hp_g_1_9, ↓hp_p_1_9, ↓hp_g_1_10, ↓hp_p_1_10, ↓hp_a_2, ↓hp_n_2, ↓hp_a_3, ↓hp_n_3, ↓hp_a_4, ↓hp_cc_9, ↓hp_g_9_0, ↓hp_g_9_1, ↓hp_g_9_2, ↓hp_g_9_3, ↓hp_g_9_4, ↓hp_p_9_4, ↓hp_g_9_5, ↓hp_g_9_6, ↓hp_p_9_7, ↓hp_g_9_7, ↓hp_a_10, ↓hp_s_10, ↓hp_l_10, ↓hp_a_11, ↓hp_s_11, ↓hp_l_11, ↓hp_a_12, ↓hp_s_12, ↓hp_l_12, ↓hp_a_13, ↓hp_s_13, ↓hp_l_13, ↓hp_a_14, ↓hp_s_14, ↓hp_l_14, ↓hp_a_15, ↓hp_s_15, ↓hp_l_15, hrow, hio2, hvt, g2', gc, hun]
        · omega
      · have hio2 : ∀ f0 f1 : Option en_R, en_io (hp XI XA XP XC MI MA ML D) (p + 51) [(1, 0), (2, 0), (3, 1), (4, 0), (8, 0)] f0 f1 = f0 := fun f0 f1 => (hio f0 f1).trans (if_neg g3)
        have hno : ptq S (k : Int) m = none := by
          unfold ptq
          rw [hq]
          dsimp only
          rw [if_neg (by omega)]
        refine ⟨fun _ => ?_, fun l h => by rw [hno] at h; cases h⟩
        rw [e_X11_layPoints]
        clear hV hrc h1 hio
        simp (disch := (first | assumption | (unfold i32; omega) | (unfold i64; omega) | omega)) only [↓reduceIte, ki_0, ki_1, ki_2, ki_3, ki_4, ki_5, ki_6, ki_7, ki_8, ki_9, ki_10, ki_11, ki_12, ki_13, ki_14, ki_15, ki_20, ki_21, ki_30, ki_31, ki_40, ki_41, ki_50, ki_51, ki_60, ki_63, ki_64, ki_65, ki_100, ki_158, ki_160, ki_200, ki_212, ki_1000, ki_2000, ki_2001, ki_5000, ki_10000, ki_10001, ki_100000, ki_200000, ki_1000000, ki_2000000, ki_3000000, iO_neg, iO_add, iO_sub, iO_mul, kn_4, kn_8, kn_10, kn_20, kn_24, kn_40, kn_41, kn_50, kn_60, kn_158, kn_160, kn_200, kn_212, kn_2001, tn_lt, fn_lt, tn_le, fn_le, tn_eq, fn_eq, x_lt, x_le, x_eq, x_ix, x_nat, t_lt, f_lt, t_le, f_le, t_eq, f_eq, eq_self, and_self, true_and, and_true, false_and, and_false, if_true, if_false, Int.toNat_natCast, bI_s, bL_s, bA_s, bA_n, bV_s, mq_s, mq_n, en_le, bl_0, bl_1, u_eq, u_ne, w_eq, w_ne, v_eq, v_ne, ↓hp_cc_1, ↓hp_g_1_0, ↓hp_g_1_1, ↓hp_g_1_2, ↓hp_g_1_3, ↓hp_g_1_4, ↓hp_g_1_5, ↓hp_g_1_6, ↓hp_g_1_7, ↓hp_g_1_8, ↓hp_p_1_8, ↓hp_g_1_9, ↓hp_p_1_9, ↓hp_g_1_10, ↓hp_p_1_10, ↓hp_a_2, ↓hp_n_2, ↓hp_a_3, ↓hp_n_3, ↓hp_a_4, hrow, hio2]
  · have hno : ptq S r m = none := by
      unfold ptq
      cases rowq S r with
      | none => rfl
      | some q => dsimp only; rw [if_neg (by omega)]
    refine ⟨fun _ => ?_, fun l h => by rw [hno] at h; cases h⟩
    rw [e_X11_layPoints]
    clear hV hno
    by_cases t1 : m < 1
    · clear g0; simp (disch := (first | assumption | (unfold i32; omega) | (unfold i64; omega) | omega)) only [↓reduceIte, ki_0, ki_1, ki_2, ki_3, ki_4, ki_5, ki_6, ki_7, ki_8, ki_9, ki_10, ki_11, ki_12, ki_13, ki_14, ki_15, ki_20, ki_21, ki_30, ki_31, ki_40, ki_41, ki_50, ki_51, ki_60, ki_63, ki_64, ki_65, ki_100, ki_158, ki_160, ki_200, ki_212, ki_1000, ki_2000, ki_2001, ki_5000, ki_10000, ki_10001, ki_100000, ki_200000, ki_1000000, ki_2000000, ki_3000000, iO_neg, iO_add, iO_sub, iO_mul, kn_4, kn_8, kn_10, kn_20, kn_24, kn_40, kn_41, kn_50, kn_60, kn_158, kn_160, kn_200, kn_212, kn_2001, tn_lt, fn_lt, tn_le, fn_le, tn_eq, fn_eq, x_lt, x_le, x_eq, x_ix, x_nat, t_lt, f_lt, t_le, f_le, t_eq, f_eq, eq_self, and_self, true_and, and_true, false_and, and_false, if_true, if_false, Int.toNat_natCast, bI_s, bL_s, bA_s, bA_n, bV_s, mq_s, mq_n, en_le, bl_0, bl_1, u_eq, u_ne, w_eq, w_ne, v_eq, v_ne]
    · have t2 : 60 < m := by omega
      clear g0; simp (disch := (first | assumption | (unfold i32; omega) | (unfold i64; omega) | omega)) only [↓reduceIte, ki_0, ki_1, ki_2, ki_3, ki_4, ki_5, ki_6, ki_7, ki_8, ki_9, ki_10, ki_11, ki_12, ki_13, ki_14, ki_15, ki_20, ki_21, ki_30, ki_31, ki_40, ki_41, ki_50, ki_51, ki_60, ki_63, ki_64, ki_65, ki_100, ki_158, ki_160, ki_200, ki_212, ki_1000, ki_2000, ki_2001, ki_5000, ki_10000, ki_10001, ki_100000, ki_200000, ki_1000000, ki_2000000, ki_3000000, iO_neg, iO_add, iO_sub, iO_mul, kn_4, kn_8, kn_10, kn_20, kn_24, kn_40, kn_41, kn_50, kn_60, kn_158, kn_160, kn_200, kn_212, kn_2001, tn_lt, fn_lt, tn_le, fn_le, tn_eq, fn_eq, x_lt, x_le, x_eq, x_ix, x_nat, t_lt, f_lt, t_le, f_le, t_eq, f_eq, eq_self, and_self, true_and, and_true, false_and, and_false, if_true, if_false, Int.toNat_natCast, bI_s, bL_s, bA_s, bA_n, bV_s, mq_s, mq_n, en_le, bl_0, bl_1, u_eq, u_ne, w_eq, w_ne, v_eq, v_ne]
theorem cs_gaps (hS : OK5 S) {r m : Int} (hr : i32 r) (hm : i32 m) : CS S S (p_gaps S r m) (fun z => f_X11_gaps sc (n + 40) 1 (iO r) (iO m) z) := by
  intro XI XA XP XC MI MA ML D Γ hV
  obtain ⟨l0, l1⟩ := x_layPoints (sc := sc) (n := n) hS hr hm XI XA XP XC MI MA ML D Γ hV
  unfold p_gaps
  cases hq : ptq S r m with
  | none =>
    have h0 := l0 hq
    refine ⟨XI, XA, XP, XC, D, Γ, ?_, hV, GR.rfl'⟩
    show f_X11_gaps sc (n + 40) 1 (iO r) (iO m) _ = _
    rw [e_X11_gaps]
    clear hV l0 l1
    simp (disch := (first | assumption | (unfold i32; omega) | (unfold i64; omega) | omega)) only [↓reduceIte, ki_0, ki_1, ki_2, ki_3, ki_4, ki_5, ki_6, ki_7, ki_8, ki_9, ki_10, ki_11, ki_12, ki_13, ki_14, ki_15, ki_20, ki_21, ki_30, ki_31, ki_40, ki_41, ki_50, ki_51, ki_60, ki_63, ki_64, ki_65, ki_100, ki_158, ki_160, ki_200, ki_212, ki_1000, ki_2000, ki_2001, ki_5000, ki_10000, ki_10001, ki_100000, ki_200000, ki_1000000, ki_2000000, ki_3000000, iO_neg, iO_add, iO_sub, iO_mul, kn_4, kn_8, kn_10, kn_20, kn_24, kn_40, kn_41, kn_50, kn_60, kn_158, kn_160, kn_200, kn_212, kn_2001, tn_lt, fn_lt, tn_le, fn_le, tn_eq, fn_eq, x_lt, x_le, x_eq, x_ix, x_nat, t_lt, f_lt, t_le, f_le, t_eq, f_eq, eq_self, and_self, true_and, and_true, false_and, and_false, if_true, if_false, Int.toNat_natCast, bI_s, bL_s, bA_s, bA_n, bV_s, mq_s, mq_n, en_le, bl_0, bl_1, u_eq, u_ne, w_eq, w_ne, v_eq, v_ne, ↓hp_cc_1, ↓hp_g_1_0, ↓hp_g_1_1, ↓hp_g_1_2, ↓hp_g_1_3, ↓hp_g_1_4, ↓hp_g_1_5, ↓hp_g_1_6, ↓hp_g_1_7, ↓hp_g_1_8, ↓hp_p_1_8, ↓hp_g_1_9, ↓hp_p_1_9, ↓hp_g_1_10, ↓hp_p_1_10, ↓hp_a_2, ↓hp_n_2, ↓hp_a_3, ↓hp_n_3, ↓hp_a_4, h0]
  | some l =>
    obtain ⟨XI', XA', XC', h1, h2, h3, h4⟩ := l1 l hq
    refine ⟨XI', XA', XP, XC', D, Γ, ?_, h2, GR.rfl'⟩
    show f_X11_gaps sc (n + 40) 1 (iO r) (iO m) _ = _
    rw [e_X11_gaps]
    have h5 := h3.1
    clear hV l0 l1 h2 h3 h4
    simp (disch := (first | assumption | (unfold i32; omega) | (unfold i64; omega) | omega)) only [↓reduceIte, ki_0, ki_1, ki_2, ki_3, ki_4, ki_5, ki_6, ki_7, ki_8, ki_9, ki_10, ki_11, ki_12, ki_13, ki_14, ki_15, ki_20, ki_21, ki_30, ki_31, ki_40, ki_41, ki_50, ki_51, ki_60, ki_63, ki_64, ki_65, ki_100, ki_158, ki_160, ki_200, ki_212, ki_1000, ki_2000, ki_2001, ki_5000, ki_10000, ki_10001, ki_100000, ki_200000, ki_1000000, ki_2000000, ki_3000000, iO_neg, iO_add, iO_sub, iO_mul, kn_4, kn_8, kn_10, kn_20, kn_24, kn_40, kn_41, kn_50, kn_60, kn_158, kn_160, kn_200, kn_212, kn_2001, tn_lt, fn_lt, tn_le, fn_le, tn_eq, fn_eq, x_lt, x_le, x_eq, x_ix, x_nat, t_lt, f_lt, t_le, f_le, t_eq, f_eq, eq_self, and_self, true_and, and_true, false_and, and_false, if_true, if_false, Int.toNat_natCast, bI_s, bL_s, bA_s, bA_n, bV_s, mq_s, mq_n, en_le, bl_0, bl_1, u_eq, u_ne, w_eq, w_ne, v_eq, v_ne, ↓hp_cc_1, ↓hp_g_1_0, ↓hp_g_1_1, ↓hp_g_1_2, ↓hp_g_1_3, ↓hp_g_1_4, ↓hp_g_1_5, ↓hp_g_1_6, ↓hp_g_1_7, ↓hp_g_1_8, ↓hp_p_1_8, ↓hp_g_1_9, ↓hp_p_1_9, ↓hp_g_1_10, ↓hp_p_1_10, ↓hp_a_2, ↓hp_n_2, ↓hp_a_3, ↓hp_n_3, ↓hp_a_4, ↓hp_cc_9, ↓hp_g_9_0, ↓hp_g_9_1, ↓hp_g_9_2, ↓hp_g_9_3, ↓hp_g_9_4, ↓hp_p_9_4, ↓hp_g_9_5, ↓hp_g_9_6, ↓hp_p_9_7, ↓hp_g_9_7, ↓hp_a_10, ↓hp_s_10, ↓hp_l_10, ↓hp_a_11, ↓hp_s_11, ↓hp_l_11, ↓hp_a_12, ↓hp_s_12, ↓hp_l_12, ↓hp_a_13, ↓hp_s_13, ↓hp_l_13, ↓hp_a_14, ↓hp_s_14, ↓hp_l_14, ↓hp_a_15, ↓hp_s_15, ↓hp_l_15, h1, h5]
theorem cs_gap (hS : OK5 S) {r m i w : Int} (hr : i32 r) (hm : i32 m) (hi : i32 i) (hw : i32 w) : CS S S (p_gap S r m i w) (fun z => f_X11_gap sc (n + 40) 1 (iO r) (iO m) (iO i) (iO w) z) := by
  intro XI XA XP XC MI MA ML D Γ hV
  obtain ⟨i1, i2⟩ := id hi
  obtain ⟨w1, w2⟩ := id hw
  obtain ⟨l0, l1⟩ := x_layPoints (sc := sc) (n := n) hS hr hm XI XA XP XC MI MA ML D Γ hV
  unfold p_gap
  cases hq : ptq S r m with
  | none =>
    have h0 := l0 hq
    refine ⟨XI, XA, XP, XC, D, Γ, ?_, hV, GR.rfl'⟩
    show f_X11_gap sc (n + 40) 1 (iO r) (iO m) (iO i) (iO w) _ = _
    rw [e_X11_gap]
    clear hV l0 l1
    simp (disch := (first | assumption | (unfold i32; omega) | (unfold i64; omega) | omega)) only [↓reduceIte, ki_0, ki_1, ki_2, ki_3, ki_4, ki_5, ki_6, ki_7, ki_8, ki_9, ki_10, ki_11, ki_12, ki_13, ki_14, ki_15, ki_20, ki_21, ki_30, ki_31, ki_40, ki_41, ki_50, ki_51, ki_60, ki_63, ki_64, ki_65, ki_100, ki_158, ki_160, ki_200, ki_212, ki_1000, ki_2000, ki_2001, ki_5000, ki_10000, ki_10001, ki_100000, ki_200000, ki_1000000, ki_2000000, ki_3000000, iO_neg, iO_add, iO_sub, iO_mul, kn_4, kn_8, kn_10, kn_20, kn_24, kn_40, kn_41, kn_50, kn_60, kn_158, kn_160, kn_200, kn_212, kn_2001, tn_lt, fn_lt, tn_le, fn_le, tn_eq, fn_eq, x_lt, x_le, x_eq, x_ix, x_nat, t_lt, f_lt, t_le, f_le, t_eq, f_eq, eq_self, and_self, true_and, and_true, false_and, and_false, if_true, if_false, Int.toNat_natCast, bI_s, bL_s, bA_s, bA_n, bV_s, mq_s, mq_n, en_le, bl_0, bl_1, u_eq, u_ne, w_eq, w_ne, v_eq, v_ne, ↓hp_cc_1, ↓hp_g_1_0, ↓hp_g_1_1, ↓hp_g_1_2, ↓hp_g_1_3, ↓hp_g_1_4, ↓hp_g_1_5, ↓hp_g_1_6, ↓hp_g_1_7, ↓hp_g_1_8, ↓hp_p_1_8, ↓hp_g_1_9, ↓hp_p_1_9, ↓hp_g_1_10, ↓hp_p_1_10, ↓hp_a_2, ↓hp_n_2, ↓hp_a_3, ↓hp_n_3, ↓hp_a_4, h0]
  | some l =>
    obtain ⟨XI', XA', XC', h1, h2, h3, h4⟩ := l1 l hq
    refine ⟨XI', XA', XP, XC', D, Γ, ?_, h2, GR.rfl'⟩
    show f_X11_gap sc (n + 40) 1 (iO r) (iO m) (iO i) (iO w) _ = _
    rw [e_X11_gap]
    obtain ⟨q, q1, q2, q3, q4, q5, q6⟩ := ptq_some hq
    have hSL := hS.2.2.1 l (List.mem_of_getElem? q5)
    have hB := gst_bd (l := l) (gx := gxf l m.toNat) (gy := gyf l m.toNat) (n := m.toNat) (fun i hi => by obtain ⟨q1, q2, q3, q4, -⟩ := gf_bd hSL (by omega) hi; exact ⟨q1, q2, q3, q4⟩) m.toNat (Nat.le_refl _)
    have hB : GB (gsts l m.toNat) m.toNat := hB
    have hk60 : (gsts l m.toNat).1 ≤ 60 := by have := hB.1; omega
    dsimp only
    obtain ⟨h5, h6⟩ := h3
    generalize gsts l m.toNat = st at *
    by_cases gi : 0 ≤ i ∧ i < (st.1 : Int)
    · obtain ⟨gi1, gi2⟩ := gi
      obtain ⟨v, rfl⟩ : ∃ v : Nat, i = v := ⟨i.toNat, by omega⟩
      rw [Int.toNat_natCast]
      obtain ⟨t1, t2, t3⟩ := h6 v (by omega)
      clear hV l0 l1 h2 h4 h6 hB
      by_cases gw : 0 ≤ w ∧ w ≤ 2
      · rw [if_pos ⟨gw.1, gw.2, gi1, gi2⟩]
        rcases (show w = 0 ∨ w = 1 ∨ w = 2 by omega) with rfl | rfl | rfl
        · simp (disch := (first | assumption | (unfold i32; omega) | (unfold i64; omega) | omega)) only [↓reduceIte, ki_0, ki_1, ki_2, ki_3, ki_4, ki_5, ki_6, ki_7, ki_8, ki_9, ki_10, ki_11, ki_12, ki_13, ki_14, ki_15, ki_20, ki_21, ki_30, ki_31, ki_40, ki_41, ki_50, ki_51, ki_60, ki_63, ki_64, ki_65, ki_100, ki_158, ki_160, ki_200, ki_212, ki_1000, ki_2000, ki_2001, ki_5000, ki_10000, ki_10001, ki_100000, ki_200000, ki_1000000, ki_2000000, ki_3000000, iO_neg, iO_add, iO_sub, iO_mul, kn_4, kn_8, kn_10, kn_20, kn_24, kn_40, kn_41, kn_50, kn_60, kn_158, kn_160, kn_200, kn_212, kn_2001, tn_lt, fn_lt, tn_le, fn_le, tn_eq, fn_eq, x_lt, x_le, x_eq, x_ix, x_nat, t_lt, f_lt, t_le, f_le, t_eq, f_eq, eq_self, and_self, true_and, and_true, false_and, and_false, if_true, if_false, Int.toNat_natCast, bI_s, bL_s, bA_s, bA_n, bV_s, mq_s, mq_n, en_le, bl_0, bl_1, u_eq, u_ne, w_eq, w_ne, v_eq, v_ne, ↓hp_cc_1, ↓hp_g_1_0, ↓hp_g_1_1, ↓hp_g_1_2, ↓hp_g_1_3, ↓hp_g_1_4, ↓hp_g_1_5, ↓hp_g_1_6, ↓hp_g_1_7, ↓hp_g_1_8, ↓hp_p_1_8, ↓hp_g_1_9, ↓hp_p_1_9, ↓hp_g_1_10, ↓hp_p_1_10, ↓hp_a_2, ↓hp_n_2, ↓hp_a_3, ↓hp_n_3, ↓hp_a_4, ↓hp_cc_9, ↓hp_g_9_0, ↓hp_g_9_1, ↓hp_g_9_2, ↓hp_g_9_3, ↓hp_g_9_4, ↓hp_p_9_4, ↓hp_g_9_5, ↓hp_g_9_6, ↓hp_p_9_7, ↓hp_g_9_7, ↓hp_a_10, ↓hp_s_10, ↓hp_l_10, ↓hp_a_11, ↓hp_s_11, ↓hp_l_11, ↓hp_a_12, ↓hp_s_12, ↓hp_l_12, ↓hp_a_13, ↓hp_s_13, ↓hp_l_13, ↓hp_a_14, ↓hp_s_14, ↓hp_l_14, ↓hp_a_15, ↓hp_s_15, ↓hp_l_15, h1, h5, t1]
        · simp (disch := (first | assumption | (unfold i32; omega) | (unfold i64; omega) | omega)) only [↓reduceIte, ki_0, ki_1, ki_2, ki_3, ki_4, ki_5, ki_6, ki_7, ki_8, ki_9, ki_10, ki_11, ki_12, ki_13, ki_14, ki_15, ki_20, ki_21, ki_30, ki_31, ki_40, ki_41, ki_50, ki_51, ki_60, ki_63, ki_64, ki_65, ki_100, ki_158, ki_160, ki_200, ki_212, ki_1000, ki_2000, ki_2001, ki_5000, ki_10000, ki_10001, ki_100000, ki_200000, ki_1000000, ki_2000000, ki_3000000, iO_neg, iO_add, iO_sub, iO_mul, kn_4, kn_8, kn_10, kn_20, kn_24, kn_40, kn_41, kn_50, kn_60, kn_158, kn_160, kn_200, kn_212, kn_2001, tn_lt, fn_lt, tn_le, fn_le, tn_eq, fn_eq, x_lt, x_le, x_eq, x_ix, x_nat, t_lt, f_lt, t_le, f_le, t_eq, f_eq, eq_self, and_self, true_and, and_true, false_and, and_false, if_true, if_false, Int.toNat_natCast, bI_s, bL_s, bA_s, bA_n, bV_s, mq_s, mq_n, en_le, bl_0, bl_1, u_eq, u_ne, w_eq, w_ne, v_eq, v_ne, ↓hp_cc_1, ↓hp_g_1_0, ↓hp_g_1_1, ↓hp_g_1_2, ↓hp_g_1_3, ↓hp_g_1_4, ↓hp_g_1_5, ↓hp_g_1_6, ↓hp_g_1_7, ↓hp_g_1_8, ↓hp_p_1_8, ↓hp_g_1_9, ↓hp_p_1_9, ↓hp_g_1_10, ↓hp_p_1_10, ↓hp_a_2, ↓hp_n_2, ↓hp_a_3, ↓hp_n_3, ↓hp_a_4, ↓hp_cc_9, ↓hp_g_9_0, ↓hp_g_9_1, ↓hp_g_9_2, ↓hp_g_9_3, ↓hp_g_9_4, ↓hp_p_9_4, ↓hp_g_9_5, ↓hp_g_9_6, ↓hp_p_9_7, ↓hp_g_9_7, ↓hp_a_10, ↓hp_s_10, ↓hp_l_10, ↓hp_a_11, ↓hp_s_11, ↓hp_l_11, ↓hp_a_12, ↓hp_s_12, ↓hp_l_12, ↓hp_a_13, ↓hp_s_13, ↓hp_l_13, ↓hp_a_14, ↓hp_s_14, ↓hp_l_14, ↓hp_a_15, ↓hp_s_15, ↓hp_l_15, h1, h5, t2]
        · simp (disch := (first | assumption | (unfold i32; omega) | (unfold i64; omega) | omega)) only [↓reduceIte, ki_0, ki_1, ki_2, ki_3, ki_4, ki_5, ki_6, ki_7, ki_8, ki_9, ki_10, ki_11, ki_12, ki_13, ki_14, ki_15, ki_20, ki_21, ki_30, ki_31, ki_40, ki_41, ki_50, ki_51, ki_60, ki_63, ki_64, ki_65, ki_100, ki_158, ki_160, ki_200, ki_212, ki_1000, ki_2000, ki_2001, ki_5000, ki_10000, ki_10001, ki_100000, ki_200000, ki_1000000, ki_2000000, ki_3000000, iO_neg, iO_add, iO_sub, iO_mul, kn_4, kn_8, kn_10, kn_20, kn_24, kn_40, kn_41, kn_50, kn_60, kn_158, kn_160, kn_200, kn_212, kn_2001, tn_lt, fn_lt, tn_le, fn_le, tn_eq, fn_eq, x_lt, x_le, x_eq, x_ix, x_nat, t_lt, f_lt, t_le, f_le, t_eq, f_eq, eq_self, and_self, true_and, and_true, false_and, and_false, if_true, if_false, Int.toNat_natCast, bI_s, bL_s, bA_s, bA_n, bV_s, mq_s, mq_n, en_le, bl_0, bl_1, u_eq, u_ne, w_eq, w_ne, v_eq, v_ne, ↓hp_cc_1, ↓hp_g_1_0, ↓hp_g_1_1, ↓hp_g_1_2, ↓hp_g_1_3, ↓hp_g_1_4, ↓hp_g_1_5, ↓hp_g_1_6, ↓hp_g_1_7, ↓hp_g_1_8, ↓hp_p_1_8, ↓hp_g_1_9, ↓hp_p_1_9, ↓hp_g_1_10, ↓hp_p_1_10, ↓hp_a_2, ↓hp_n_2, ↓hp_a_3, ↓hp_n_3, ↓hp_a_4, ↓hp_cc_9, ↓hp_g_9_0, ↓hp_g_9_1, ↓hp_g_9_2, ↓hp_g_9_3, ↓hp_g_9_4, ↓hp_p_9_4, ↓hp_g_9_5, ↓hp_g_9_6, ↓hp_p_9_7, ↓hp_g_9_7, ↓hp_a_10, ↓hp_s_10, ↓hp_l_10, ↓hp_a_11, ↓hp_s_11, ↓hp_l_11, ↓hp_a_12, ↓hp_s_12, ↓hp_l_12, ↓hp_a_13, ↓hp_s_13, ↓hp_l_13, ↓hp_a_14, ↓hp_s_14, ↓hp_l_14, ↓hp_a_15, ↓hp_s_15, ↓hp_l_15, h1, h5, t3]
      · rw [if_neg (show ¬ (0 ≤ w ∧ w ≤ 2 ∧ 0 ≤ (v : Int) ∧ (v : Int) < (st.1 : Int)) by omega)]
        have n0 : w ≠ 0 := by omega
        have n1 : w ≠ 1 := by omega
        have n2 : w ≠ 2 := by omega
        clear gw
        simp (disch := (first | assumption | (unfold i32; omega) | (unfold i64; omega) | omega)) only [↓reduceIte, ki_0, ki_1, ki_2, ki_3, ki_4, ki_5, ki_6, ki_7, ki_8, ki_9, ki_10, ki_11, ki_12, ki_13, ki_14, ki_15, ki_20, ki_21, ki_30, ki_31, ki_40, ki_41, ki_50, ki_51, ki_60, ki_63, ki_64, ki_65, ki_100, ki_158, ki_160, ki_200, ki_212, ki_1000, ki_2000, ki_2001, ki_5000, ki_10000, ki_10001, ki_100000, ki_200000, ki_1000000, ki_2000000, ki_3000000, iO_neg, iO_add, iO_sub, iO_mul, kn_4, kn_8, kn_10, kn_20, kn_24, kn_40, kn_41, kn_50, kn_60, kn_158, kn_160, kn_200, kn_212, kn_2001, tn_lt, fn_lt, tn_le, fn_le, tn_eq, fn_eq, x_lt, x_le, x_eq, x_ix, x_nat, t_lt, f_lt, t_le, f_le, t_eq, f_eq, eq_self, and_self, true_and, and_true, false_and, and_false, if_true, if_false, Int.toNat_natCast, bI_s, bL_s, bA_s, bA_n, bV_s, mq_s, mq_n, en_le, bl_0, bl_1, u_eq, u_ne, w_eq, w_ne, v_eq, v_ne, ↓hp_cc_1, ↓hp_g_1_0, ↓hp_g_1_1, ↓hp_g_1_2, ↓hp_g_1_3, ↓hp_g_1_4, ↓hp_g_1_5, ↓hp_g_1_6, ↓hp_g_1_7, ↓hp_g_1_8, ↓hp_p_1_8, ↓hp_g_1_9, ↓hp_p_1_9, ↓hp_g_1_10, ↓hp_p_1_10, ↓hp_a_2, ↓hp_n_2, ↓hp_a_3, ↓hp_n_3, ↓hp_a_4, ↓hp_cc_9, ↓hp_g_9_0, ↓hp_g_9_1, ↓hp_g_9_2, ↓hp_g_9_3, ↓hp_g_9_4, ↓hp_p_9_4, ↓hp_g_9_5, ↓hp_g_9_6, ↓hp_p_9_7, ↓hp_g_9_7, ↓hp_a_10, ↓hp_s_10, ↓hp_l_10, ↓hp_a_11, ↓hp_s_11, ↓hp_l_11, ↓hp_a_12, ↓hp_s_12, ↓hp_l_12, ↓hp_a_13, ↓hp_s_13, ↓hp_l_13, ↓hp_a_14, ↓hp_s_14, ↓hp_l_14, ↓hp_a_15, ↓hp_s_15, ↓hp_l_15, h1, h5]
    · rw [if_neg (show ¬ (0 ≤ w ∧ w ≤ 2 ∧ 0 ≤ i ∧ i < (st.1 : Int)) by omega)]
      clear hV l0 l1 h2 h4 h6 hB
      by_cases t1 : i < 0
      · clear gi; simp (disch := (first | assumption | (unfold i32; omega) | (unfold i64; omega) | omega)) only [↓reduceIte, ki_0, ki_1, ki_2, ki_3, ki_4, ki_5, ki_6, ki_7, ki_8, ki_9, ki_10, ki_11, ki_12, ki_13, ki_14, ki_15, ki_20, ki_21, ki_30, ki_31, ki_40, ki_41, ki_50, ki_51, ki_60, ki_63, ki_64, ki_65, ki_100, ki_158, ki_160, ki_200, ki_212, ki_1000, ki_2000, ki_2001, ki_5000, ki_10000, ki_10001, ki_100000, ki_200000, ki_1000000, ki_2000000, ki_3000000, iO_neg, iO_add, iO_sub, iO_mul, kn_4, kn_8, kn_10, kn_20, kn_24, kn_40, kn_41, kn_50, kn_60, kn_158, kn_160, kn_200, kn_212, kn_2001, tn_lt, fn_lt, tn_le, fn_le, tn_eq, fn_eq, x_lt, x_le, x_eq, x_ix, x_nat, t_lt, f_lt, t_le, f_le, t_eq, f_eq, eq_self, and_self, true_and, and_true, false_and, and_false, if_true, if_false, Int.toNat_natCast, bI_s, bL_s, bA_s, bA_n, bV_s, mq_s, mq_n, en_le, bl_0, bl_1, u_eq, u_ne, w_eq, w_ne, v_eq, v_ne, ↓hp_cc_1, ↓hp_g_1_0, ↓hp_g_1_1, ↓hp_g_1_2, ↓hp_g_1_3, ↓hp_g_1_4, ↓hp_g_1_5, ↓hp_g_1_6, ↓hp_g_1_7, ↓hp_g_1_8, ↓hp_p_1_8, ↓hp_g_1_9, ↓hp_p_1_9, ↓hp_g_1_10, ↓hp_p_1_10, ↓hp_a_2, ↓hp_n_2, ↓hp_a_3, ↓hp_n_3, ↓hp_a_4, ↓hp_cc_9, ↓hp_g_9_0, ↓hp_g_9_1, ↓hp_g_9_2, ↓hp_g_9_3, ↓hp_g_9_4, ↓hp_p_9_4, ↓hp_g_9_5, ↓hp_g_9_6, ↓hp_p_9_7, ↓hp_g_9_7, ↓hp_a_10, ↓hp_s_10, ↓hp_l_10, ↓hp_a_11, ↓hp_s_11, ↓hp_l_11, ↓hp_a_12, ↓hp_s_12, ↓hp_l_12, ↓hp_a_13, ↓hp_s_13, ↓hp_l_13, ↓hp_a_14, ↓hp_s_14, ↓hp_l_14, ↓hp_a_15, ↓hp_s_15, ↓hp_l_15, h1, h5]
      · have t2 : (st.1 : Int) ≤ i := by omega
        clear gi; simp (disch := (first | assumption | (unfold i32; omega) | (unfold i64; omega) | omega)) only [↓reduceIte, ki_0, ki_1, ki_2, ki_3, ki_4, ki_5, ki_6, ki_7, ki_8, ki_9, ki_10, ki_11, ki_12, ki_13, ki_14, ki_15, ki_20, ki_21, ki_30, ki_31, ki_40, ki_41, ki_50, ki_51, ki_60, ki_63, ki_64, ki_65, ki_100, ki_158, ki_160, ki_200, ki_212, ki_1000, ki_2000, ki_2001, ki_5000, ki_10000, ki_10001, ki_100000, ki_200000, ki_1000000, ki_2000000, ki_3000000, iO_neg, iO_add, iO_sub, iO_mul, kn_4, kn_8, kn_10, kn_20, kn_24, kn_40, kn_41, kn_50, kn_60, kn_158, kn_160, kn_200, kn_212, kn_2001, tn_lt, fn_lt, tn_le, fn_le, tn_eq, fn_eq, x_lt, x_le, x_eq, x_ix, x_nat, t_lt, f_lt, t_le, f_le, t_eq, f_eq, eq_self, and_self, true_and, and_true, false_and, and_false, if_true, if_false, Int.toNat_natCast, bI_s, bL_s, bA_s, bA_n, bV_s, mq_s, mq_n, en_le, bl_0, bl_1, u_eq, u_ne, w_eq, w_ne, v_eq, v_ne, ↓hp_cc_1, ↓hp_g_1_0, ↓hp_g_1_1, ↓hp_g_1_2, ↓hp_g_1_3, ↓hp_g_1_4, ↓hp_g_1_5, ↓hp_g_1_6, ↓hp_g_1_7, ↓hp_g_1_8, ↓hp_p_1_8, ↓hp_g_1_9, ↓hp_p_1_9, ↓hp_g_1_10, ↓hp_p_1_10, ↓hp_a_2, ↓hp_n_2, ↓hp_a_3, ↓hp_n_3, ↓hp_a_4, ↓hp_cc_9, ↓hp_g_9_0, ↓hp_g_9_1, ↓hp_g_9_2, ↓hp_g_9_3, ↓hp_g_9_4, ↓hp_p_9_4, ↓hp_g_9_5, ↓hp_g_9_6, ↓hp_p_9_7, ↓hp_g_9_7, ↓hp_a_10, ↓hp_s_10, ↓hp_l_10, ↓hp_a_11, ↓hp_s_11, ↓hp_l_11, ↓hp_a_12, ↓hp_s_12, ↓hp_l_12, ↓hp_a_13, ↓hp_s_13, ↓hp_l_13, ↓hp_a_14, ↓hp_s_14, ↓hp_l_14, ↓hp_a_15, ↓hp_s_15, ↓hp_l_15, h1, h5]
theorem cs_follows (hS : OK5 S) {r m i : Int} (hr : i32 r) (hm : i32 m) (hi : i32 i) : CS S S (p_follows S r m i) (fun z => f_X11_follows sc (n + 40) 1 (iO r) (iO m) (iO i) z) := by
  intro XI XA XP XC MI MA ML D Γ hV
  obtain ⟨i1, i2⟩ := id hi
  obtain ⟨m1, m2⟩ := id hm
  obtain ⟨l0, l1⟩ := x_layPoints (sc := sc) (n := n) hS hr hm XI XA XP XC MI MA ML D Γ hV
  by_cases gi : 0 ≤ i ∧ i < m
  · obtain ⟨gi1, gi2⟩ := gi
    unfold p_follows
    cases hq : ptq S r m with
    | none =>
      have h0 := l0 hq
      refine ⟨XI, XA, XP, XC, D, Γ, ?_, hV, GR.rfl'⟩
      show f_X11_follows sc (n + 40) 1 (iO r) (iO m) (iO i) _ = _
      rw [e_X11_follows]
      clear hV l0 l1
      simp (disch := (first | assumption | (unfold i32; omega) | (unfold i64; omega) | omega)) only [↓reduceIte, ki_0, ki_1, ki_2, ki_3, ki_4, ki_5, ki_6, ki_7, ki_8, ki_9, ki_10, ki_11, ki_12, ki_13, ki_14, ki_15, ki_20, ki_21, ki_30, ki_31, ki_40, ki_41, ki_50, ki_51, ki_60, ki_63, ki_64, ki_65, ki_100, ki_158, ki_160, ki_200, ki_212, ki_1000, ki_2000, ki_2001, ki_5000, ki_10000, ki_10001, ki_100000, ki_200000, ki_1000000, ki_2000000, ki_3000000, iO_neg, iO_add, iO_sub, iO_mul, kn_4, kn_8, kn_10, kn_20, kn_24, kn_40, kn_41, kn_50, kn_60, kn_158, kn_160, kn_200, kn_212, kn_2001, tn_lt, fn_lt, tn_le, fn_le, tn_eq, fn_eq, x_lt, x_le, x_eq, x_ix, x_nat, t_lt, f_lt, t_le, f_le, t_eq, f_eq, eq_self, and_self, true_and, and_true, false_and, and_false, if_true, if_false, Int.toNat_natCast, bI_s, bL_s, bA_s, bA_n, bV_s, mq_s, mq_n, en_le, bl_0, bl_1, u_eq, u_ne, w_eq, w_ne, v_eq, v_ne, ↓hp_cc_1, ↓hp_g_1_0, ↓hp_g_1_1, ↓hp_g_1_2, ↓hp_g_1_3, ↓hp_g_1_4, ↓hp_g_1_5, ↓hp_g_1_6, ↓hp_g_1_7, ↓hp_g_1_8, ↓hp_p_1_8, ↓hp_g_1_9, ↓hp_p_1_9, ↓hp_g_1_10, ↓hp_p_1_10, ↓hp_a_2, ↓hp_n_2, ↓hp_a_3, ↓hp_n_3, ↓hp_a_4, h0]
    | some l =>
      obtain ⟨q, q1, q2, q3, q4, q5, q6⟩ := ptq_some hq
      obtain ⟨XI', XA', XC', h1, h2, h3, h4⟩ := l1 l hq
      refine ⟨XI', XA', XP, XC', D, Γ, ?_, h2, GR.rfl'⟩
      show f_X11_follows sc (n + 40) 1 (iO r) (iO m) (iO i) _ = _
      rw [e_X11_follows]
      dsimp only
      rw [if_pos (show 0 ≤ i ∧ i < m from ⟨gi1, gi2⟩)]
      obtain ⟨v, rfl⟩ : ∃ v : Nat, i = v := ⟨i.toNat, by omega⟩
      have h5 := h4 v (by omega)
      rw [Int.toNat_natCast]
      clear hV l0 l1 h2 h3 h4
      simp (disch := (first | assumption | (unfold i32; omega) | (unfold i64; omega) | omega)) only [↓reduceIte, ki_0, ki_1, ki_2, ki_3, ki_4, ki_5, ki_6, ki_7, ki_8, ki_9, ki_10, ki_11, ki_12, ki_13, ki_14, ki_15, ki_20, ki_21, ki_30, ki_31, ki_40, ki_41, ki_50, ki_51, ki_60, ki_63, ki_64, ki_65, ki_100, ki_158, ki_160, ki_200, ki_212, ki_1000, ki_2000, ki_2001, ki_5000, ki_10000, ki_10001, ki_100000, ki_200000, ki_1000000, ki_2000000, ki_3000000, iO_neg, iO_add, iO_sub, iO_mul, kn_4, kn_8, kn_10, kn_20, kn_24, kn_40, kn_41, kn_50, kn_60, kn_158, kn_160, kn_200, kn_212, kn_2001, tn_lt, fn_lt, tn_le, fn_le, tn_eq, fn_eq, x_lt, x_le, x_eq, x_ix, x_nat, t_lt, f_lt, t_le, f_le, t_eq, f_eq, eq_self, and_self, true_and, and_true, false_and, and_false, if_true, if_false, Int.toNat_natCast, bI_s, bL_s, bA_s, bA_n, bV_s, mq_s, mq_n, en_le, bl_0, bl_1, u_eq, u_ne, w_eq, w_ne, v_eq, v_ne, ↓hp_cc_1, ↓hp_g_1_0, ↓hp_g_1_1, ↓hp_g_1_2, ↓hp_g_1_3, ↓hp_g_1_4, ↓hp_g_1_5, ↓hp_g_1_6, ↓hp_g_1_7, ↓hp_g_1_8, ↓hp_p_1_8, ↓hp_g_1_9, ↓hp_p_1_9, ↓hp_g_1_10, ↓hp_p_1_10, ↓hp_a_2, ↓hp_n_2, ↓hp_a_3, ↓hp_n_3, ↓hp_a_4, ↓hp_cc_9, ↓hp_g_9_0, ↓hp_g_9_1, ↓hp_g_9_2, ↓hp_g_9_3, ↓hp_g_9_4, ↓hp_p_9_4, ↓hp_g_9_5, ↓hp_g_9_6, ↓hp_p_9_7, ↓hp_g_9_7, ↓hp_a_10, ↓hp_s_10, ↓hp_l_10, ↓hp_a_11, ↓hp_s_11, ↓hp_l_11, ↓hp_a_12, ↓hp_s_12, ↓hp_l_12, ↓hp_a_13, ↓hp_s_13, ↓hp_l_13, ↓hp_a_14, ↓hp_s_14, ↓hp_l_14, ↓hp_a_15, ↓hp_s_15, ↓hp_l_15, h1, h5]
  · have hno : p_follows S r m i = -1 := by
      unfold p_follows
      cases ptq S r m with
      | none => rfl
      | some l => exact if_neg gi
    rw [hno]
    refine ⟨XI, XA, XP, XC, D, Γ, ?_, hV, GR.rfl'⟩
    show f_X11_follows sc (n + 40) 1 (iO r) (iO m) (iO i) _ = _
    rw [e_X11_follows]
    clear hV l0 l1 hno
    by_cases t1 : i < 0
    · clear gi; simp (disch := (first | assumption | (unfold i32; omega) | (unfold i64; omega) | omega)) only [↓reduceIte, ki_0, ki_1, ki_2, ki_3, ki_4, ki_5, ki_6, ki_7, ki_8, ki_9, ki_10, ki_11, ki_12, ki_13, ki_14, ki_15, ki_20, ki_21, ki_30, ki_31, ki_40, ki_41, ki_50, ki_51, ki_60, ki_63, ki_64, ki_65, ki_100, ki_158, ki_160, ki_200, ki_212, ki_1000, ki_2000, ki_2001, ki_5000, ki_10000, ki_10001, ki_100000, ki_200000, ki_1000000, ki_2000000, ki_3000000, iO_neg, iO_add, iO_sub, iO_mul, kn_4, kn_8, kn_10, kn_20, kn_24, kn_40, kn_41, kn_50, kn_60, kn_158, kn_160, kn_200, kn_212, kn_2001, tn_lt, fn_lt, tn_le, fn_le, tn_eq, fn_eq, x_lt, x_le, x_eq, x_ix, x_nat, t_lt, f_lt, t_le, f_le, t_eq, f_eq, eq_self, and_self, true_and, and_true, false_and, and_false, if_true, if_false, Int.toNat_natCast, bI_s, bL_s, bA_s, bA_n, bV_s, mq_s, mq_n, en_le, bl_0, bl_1, u_eq, u_ne, w_eq, w_ne, v_eq, v_ne]
    · have t2 : m ≤ i := by omega
      clear gi; simp (disch := (first | assumption | (unfold i32; omega) | (unfold i64; omega) | omega)) only [↓reduceIte, ki_0, ki_1, ki_2, ki_3, ki_4, ki_5, ki_6, ki_7, ki_8, ki_9, ki_10, ki_11, ki_12, ki_13, ki_14, ki_15, ki_20, ki_21, ki_30, ki_31, ki_40, ki_41, ki_50, ki_51, ki_60, ki_63, ki_64, ki_65, ki_100, ki_158, ki_160, ki_200, ki_212, ki_1000, ki_2000, ki_2001, ki_5000, ki_10000, ki_10001, ki_100000, ki_200000, ki_1000000, ki_2000000, ki_3000000, iO_neg, iO_add, iO_sub, iO_mul, kn_4, kn_8, kn_10, kn_20, kn_24, kn_40, kn_41, kn_50, kn_60, kn_158, kn_160, kn_200, kn_212, kn_2001, tn_lt, fn_lt, tn_le, fn_le, tn_eq, fn_eq, x_lt, x_le, x_eq, x_ix, x_nat, t_lt, f_lt, t_le, f_le, t_eq, f_eq, eq_self, and_self, true_and, and_true, false_and, and_false, if_true, if_false, Int.toNat_natCast, bI_s, bL_s, bA_s, bA_n, bV_s, mq_s, mq_n, en_le, bl_0, bl_1, u_eq, u_ne, w_eq, w_ne, v_eq, v_ne]
end PTS
-- FILE 99e
/-! share: when the multiples of two slopes share out all numbers -/
/-- the model's test -/
def oneP (l m : SL4) : Prop := l.2.1 ≠ 0 ∧ m.2.1 ≠ 0
  ∧ (l.1 * (l.1 - l.2.2.1) - l.2.1 * l.2.1 * l.2.2.2) * m.2.2.1 = m.1 * ((l.1 - l.2.2.1) * (l.1 - l.2.2.1) - l.2.1 * l.2.1 * l.2.2.2)
  ∧ ((0 < -l.2.1 * l.2.2.1 ↔ 0 < (l.1 - l.2.2.1) * (l.1 - l.2.2.1) - l.2.1 * l.2.1 * l.2.2.2) ↔ 0 < m.2.1)
  ∧ -l.2.1 * l.2.2.1 * (-l.2.1 * l.2.2.1) * l.2.2.2 * m.2.2.1 * m.2.2.1 = m.2.1 * m.2.1 * m.2.2.2 * ((l.1 - l.2.2.1) * (l.1 - l.2.2.1) - l.2.1 * l.2.1 * l.2.2.2) * ((l.1 - l.2.2.1) * (l.1 - l.2.2.1) - l.2.1 * l.2.1 * l.2.2.2)
/-- the class's test -/
def shr2 (a b c d a' b' c' d' : Int) : Prop := b ≠ 0 ∧ b' ≠ 0 ∧ d = d' ∧ (a - c) * (a' - c') + b * b' * d = c * c' ∧ (a - c) * b' + (a' - c') * b = 0
theorem sq_eq {x y : Int} (h : x * x = y * y) : x = y ∨ x = -y := by
  have : (x - y) * (x + y) = 0 := by grind
  rcases Int.mul_eq_zero.mp this with g | g
  · exact Or.inl (by omega)
  · exact Or.inr (by omega)
theorem pos_mul_iff {x y : Int} (hy : 0 < y) : 0 < x * y ↔ 0 < x := by
  constructor
  · intro h
    rcases Int.lt_or_le 0 x with g | g
    · exact g
    · have := Int.mul_le_mul_of_nonneg_right g (Int.le_of_lt hy)
      omega
  · intro h
    exact Int.mul_pos h hy
theorem sgn_pr {x y : Int} (hx : x ≠ 0) (hy : y ≠ 0) : 0 < x * y ↔ (0 < x ↔ 0 < y) := by
  rcases Int.lt_or_gt_of_ne hx with g | g <;> rcases Int.lt_or_gt_of_ne hy with k | k
  · have := Int.mul_pos (a := -x) (b := -y) (by omega) (by omega)
    rw [Int.neg_mul_neg] at this
    exact ⟨fun _ => ⟨fun h => by omega, fun h => by omega⟩, fun _ => this⟩
  · have := Int.mul_pos (a := -x) (b := y) (by omega) (by omega)
    rw [Int.neg_mul] at this
    exact ⟨fun h => by omega, fun h => by have := h.mpr k; omega⟩
  · have := Int.mul_pos (a := x) (b := -y) (by omega) (by omega)
    rw [Int.mul_neg] at this
    exact ⟨fun h => by omega, fun h => by have := h.mp g; omega⟩
  · have := Int.mul_pos g k
    exact ⟨fun _ => ⟨fun _ => k, fun _ => g⟩, fun _ => this⟩
/-- the normal forms: numbers as they stand in the class -/
theorem one_norm {a b c d a' b' c' d' : Int} (hc : 0 < c) (hc' : 0 < c') (hd : d ∈ sqfl) (hd' : d' ∈ sqfl) (hb : b ≠ 0) (hb' : b' ≠ 0) :
    ((a * (a - c) - b * b * d) * c' = a' * ((a - c) * (a - c) - b * b * d) ∧ ((0 < -b * c ↔ 0 < (a - c) * (a - c) - b * b * d) ↔ 0 < b') ∧ -b * c * (-b * c) * d * c' * c' = b' * b' * d' * ((a - c) * (a - c) - b * b * d) * ((a - c) * (a - c) - b * b * d)) ↔ (d = d' ∧ (a - c) * (a' - c') + b * b' * d = c * c' ∧ (a - c) * b' + (a' - c') * b = 0) := by
  have hden : (a - c) * (a - c) - b * b * d ≠ 0 := fun h => by
    have := nc_ne (e := a - c) (b := b) (d := d) hb (sqfl_nsq d hd)
    apply this
    omega
  have hbc : -b * c ≠ 0 := fun h => by
    rcases Int.mul_eq_zero.mp h with g | g <;> omega
  generalize hx : a - c = x at *
  generalize hN : x * x - b * b * d = N at *
  have ea : a = x + c := by omega
  subst ea
  constructor
  · rintro ⟨h1, h2, h3⟩
    have hbb : b * c * c' ≠ 0 := fun h => by
      rcases Int.mul_eq_zero.mp h with g | g
      · rcases Int.mul_eq_zero.mp g with k | k <;> omega
      · omega
    have hbN : b' * N ≠ 0 := fun h => by
      rcases Int.mul_eq_zero.mp h with g | g
      · exact hb' g
      · exact hden g
    have h4 : (b * c * c') * (b * c * c') * d = (b' * N) * (b' * N) * d' := by grind
    have hdd : d = d' := sqfl_one hd hd' hbb hbN h4
    subst hdd
    have hd0 : 0 < d := by have := sqfl_ok d hd; omega
    have h5 : (b * c * c') * (b * c * c') = (b' * N) * (b' * N) := Int.eq_of_mul_eq_mul_right (by omega) h4
    -- the sign tells which
    have h6 : b' * N = -(b * c * c') := by
      rcases sq_eq h5 with g | g
      · exfalso
        have s1 := sgn_pr hbc hden
        have s2 : 0 < -b * c * N * b' ↔ (0 < -b * c * N ↔ 0 < b') := sgn_pr (fun h => by
          rcases Int.mul_eq_zero.mp h with k | k
          · exact hbc k
          · exact hden k) hb'
        have s3 : 0 < -b * c * N * b' := s2.mpr (s1.trans h2)
        have s4 : -b * c * N * b' = -(b * c * (b * c)) * c' := by
          have : -b * c * N * b' = -b * c * (b' * N) := by grind
          rw [this, ← g]
          grind
        rw [s4] at s3
        have s5 := (pos_mul_iff hc').mp s3
        have := sq_nn (b * c)
        omega
      · omega
    have h7 : (a' - c') * N = c * c' * x := by grind
    refine ⟨rfl, ?_, ?_⟩
    · have : (x * (a' - c') + b * b' * d) * N = (c * c') * N := by grind
      exact Int.eq_of_mul_eq_mul_right hden this
    · have : (x * b' + (a' - c') * b) * N = 0 * N := by grind
      exact Int.eq_of_mul_eq_mul_right hden this
  · rintro ⟨rfl, h1, h2⟩
    have h6 : b' * N = -(b * c * c') := by rw [← hN]; grind
    have h7 : (a' - c') * N = c * c' * x := by rw [← hN]; grind
    refine ⟨?_, ?_, ?_⟩
    · have : (x + c) * x - b * b * d = N + c * x := by rw [← hN]; grind
      rw [this]
      grind
    · have s1 := sgn_pr hbc hden
      rw [← s1]
      have s2 : -b * c * N * b' = (b * c * (b * c)) * c' := by
        have : -b * c * N * b' = -b * c * (b' * N) := by grind
        rw [this, h6]
        grind
      have s3 : 0 < -b * c * N * b' := by
        rw [s2]
        apply Int.mul_pos _ hc'
        have hbc2 : b * c ≠ 0 := fun h => hbc (by rw [Int.neg_mul, h]; rfl)
        have := sq_nn (b * c)
        rcases Int.lt_or_gt_of_ne (show b * c * (b * c) ≠ 0 from fun h => by rcases Int.mul_eq_zero.mp h with k | k <;> exact hbc2 k) with k | k
        · omega
        · exact k
      have hcN : -b * c * N ≠ 0 := fun h => by
        rcases Int.mul_eq_zero.mp h with k | k
        · exact hbc k
        · exact hden k
      exact (sgn_pr hcN hb').mp s3
    · have : -b * c * (-b * c) * d * c' * c' = (b' * N) * (b' * N) * d := by
        rw [h6]
        grind
      rw [this]
      grind
theorem one_iff {A B C D A' B' C' D' t a b c d t' a' b' c' d' : Int} (hE : EQN A B C t a b c) (hD : D = d * (t * t)) (hE' : EQN A' B' C' t' a' b' c') (hD' : D' = d' * (t' * t')) (hd : b ≠ 0 → d ∈ sqfl) (hd' : b' ≠ 0 → d' ∈ sqfl) : oneP (A, B, C, D) (A', B', C', D') ↔ shr2 a b c d a' b' c' d' := by
  obtain ⟨c1, c2, c3, e1, e2⟩ := id hE
  obtain ⟨c1', c2', c3', e1', e2'⟩ := id hE'
  have z1 := hE.zero
  have z2 := hE'.zero
  unfold oneP shr2
  by_cases g1 : B = 0
  · exact ⟨fun h => absurd g1 h.1, fun h => absurd (z1.mp g1) h.1⟩
  by_cases g2 : B' = 0
  · exact ⟨fun h => absurd g2 h.2.1, fun h => absurd (z2.mp g2) h.2.1⟩
  have hb : b ≠ 0 := fun h => g1 (z1.mpr h)
  have hb' : b' ≠ 0 := fun h => g2 (z2.mpr h)
  have key := one_norm (a := a) (b := b) (c := c) (d := d) (a' := a') (b' := b') (c' := c') (d' := d') c2 c2' (hd hb) (hd' hb') hb hb'
  show (B ≠ 0 ∧ B' ≠ 0 ∧ (A * (A - C) - B * B * D) * C' = A' * ((A - C) * (A - C) - B * B * D) ∧ ((0 < -B * C ↔ 0 < (A - C) * (A - C) - B * B * D) ↔ 0 < B') ∧ -B * C * (-B * C) * D * C' * C' = B' * B' * D' * ((A - C) * (A - C) - B * B * D) * ((A - C) * (A - C) - B * B * D)) ↔ _
  -- from one form to the other
  have hUp : (A * (A - C) - B * B * D) * (c * c) = (a * (a - c) - b * b * d) * (C * C) := by
    subst hD
    have q1 : (A * (A - C)) * (c * c) = (a * (a - c)) * (C * C) := by
      have : (A * (A - C)) * (c * c) = (A * c) * (A * c - C * c) := by grind
      rw [this, e1]
      grind
    have q2 : (B * B * (d * (t * t))) * (c * c) = (b * b * d) * (C * C) := by
      have : (B * B * (d * (t * t))) * (c * c) = (B * t * c) * (B * t * c) * d := by grind
      rw [this, e2]
      grind
    rw [Int.sub_mul _ _ (c * c), Int.sub_mul _ _ (C * C), q1, q2]
  have hDn : ((A - C) * (A - C) - B * B * D) * (c * c) = ((a - c) * (a - c) - b * b * d) * (C * C) := by
    subst hD
    have q1 : ((A - C) * (A - C)) * (c * c) = ((a - c) * (a - c)) * (C * C) := by
      have : ((A - C) * (A - C)) * (c * c) = (A * c - C * c) * (A * c - C * c) := by grind
      rw [this, e1]
      grind
    have q2 : (B * B * (d * (t * t))) * (c * c) = (b * b * d) * (C * C) := by
      have : (B * B * (d * (t * t))) * (c * c) = (B * t * c) * (B * t * c) * d := by grind
      rw [this, e2]
      grind
    rw [Int.sub_mul _ _ (c * c), Int.sub_mul _ _ (C * C), q1, q2]
  have hM : (-B * C * (-B * C) * D) * (c * c * (c * c)) = (-b * c * (-b * c) * d) * (C * C * (C * C)) := by
    subst hD
    have : (-B * C * (-B * C) * (d * (t * t))) * (c * c * (c * c)) = (B * t * c) * (B * t * c) * d * (C * C) * (c * c) := by grind
    rw [this, e2]
    grind
  have hN : (B' * B' * D') * (c' * c') = (b' * b' * d') * (C' * C') := by
    subst hD'
    have : (B' * B' * (d' * (t' * t'))) * (c' * c') = (B' * t' * c') * (B' * t' * c') * d' := by grind
    rw [this, e2']
    grind
  have pcc := Int.mul_pos c2 c2
  have pCC := Int.mul_pos c1 c1
  have pcc' := Int.mul_pos c2' c2'
  have pCC' := Int.mul_pos c1' c1'
  have sB : 0 < B ↔ 0 < b := by
    rw [← pos_mul_iff (x := B) (Int.mul_pos c3 c2), show B * (t * c) = b * C by rw [← Int.mul_assoc]; exact e2, pos_mul_iff c1]
  have sB' : 0 < B' ↔ 0 < b' := by
    rw [← pos_mul_iff (x := B') (Int.mul_pos c3' c2'), show B' * (t' * c') = b' * C' by rw [← Int.mul_assoc]; exact e2', pos_mul_iff c1']
  have sM : 0 < -B * C ↔ 0 < -b * c := by
    rw [pos_mul_iff c1, pos_mul_iff c2]
    omega
  have sD : 0 < (A - C) * (A - C) - B * B * D ↔ 0 < (a - c) * (a - c) - b * b * d := by
    rw [← pos_mul_iff (x := (A - C) * (A - C) - B * B * D) pcc, hDn, pos_mul_iff pCC]
  generalize (A - C) * (A - C) - B * B * D = DN at *
  generalize A * (A - C) - B * B * D = UP at *
  generalize (a - c) * (a - c) - b * b * d = dn at *
  generalize a * (a - c) - b * b * d = up at *
  have k1 : UP * C' = A' * DN ↔ up * c' = a' * dn := by
    have l1 : (UP * C') * (c * c * c') = (up * c') * (C * C * C') := by grind
    have l2 : (A' * DN) * (c * c * c') = (a' * dn) * (C * C * C') := by
      have : (A' * DN) * (c * c * c') = (A' * c') * (DN * (c * c)) := by grind
      rw [this, e1', hDn]
      grind
    have p1 : c * c * c' ≠ 0 := by have := Int.mul_pos pcc c2'; omega
    have p2 : C * C * C' ≠ 0 := by have := Int.mul_pos pCC c1'; omega
    constructor
    · intro h
      rw [h, l2] at l1
      exact (Int.eq_of_mul_eq_mul_right p2 l1).symm
    · intro h
      rw [h, ← l2] at l1
      exact Int.eq_of_mul_eq_mul_right p1 l1
  have k3 : -B * C * (-B * C) * D * C' * C' = B' * B' * D' * DN * DN ↔ -b * c * (-b * c) * d * c' * c' = b' * b' * d' * dn * dn := by
    have l1 : (-B * C * (-B * C) * D * C' * C') * (c * c * (c * c) * (c' * c')) = (-b * c * (-b * c) * d * c' * c') * (C * C * (C * C) * (C' * C')) := by
      have : (-B * C * (-B * C) * D * C' * C') * (c * c * (c * c) * (c' * c')) = ((-B * C * (-B * C) * D) * (c * c * (c * c))) * (C' * C' * (c' * c')) := by grind
      rw [this, hM]
      grind
    have l2 : (B' * B' * D' * DN * DN) * (c * c * (c * c) * (c' * c')) = (b' * b' * d' * dn * dn) * (C * C * (C * C) * (C' * C')) := by
      have : (B' * B' * D' * DN * DN) * (c * c * (c * c) * (c' * c')) = ((B' * B' * D') * (c' * c')) * (DN * (c * c)) * (DN * (c * c)) := by grind
      rw [this, hN, hDn]
      grind
    have p1 : c * c * (c * c) * (c' * c') ≠ 0 := by have := Int.mul_pos (Int.mul_pos pcc pcc) pcc'; omega
    have p2 : C * C * (C * C) * (C' * C') ≠ 0 := by have := Int.mul_pos (Int.mul_pos pCC pCC) pCC'; omega
    constructor
    · intro h
      rw [h, l2] at l1
      exact (Int.eq_of_mul_eq_mul_right p2 l1).symm
    · intro h
      rw [h, ← l2] at l1
      exact Int.eq_of_mul_eq_mul_right p1 l1
  rw [k1, k3, sM, sD, sB']
  constructor
  · rintro ⟨-, -, h⟩
    exact ⟨hb, hb', key.mp h⟩
  · rintro ⟨-, -, h⟩
    exact ⟨g1, g2, key.mpr h⟩
/-! the numbers that are told -/
def cntw (W : Nat → Int) (i v : Nat) : Nat := if W i = (v : Int) then (if W (i + 1) = (v : Int) then 2 else 1) else 0
def idxw (W : Nat → Int) : Nat → Nat
  | 0 => 1
  | v + 1 => idxw W v + cntw W (idxw W v) v
def shrw (W V : Nat → Int) : Nat → Nat → Int
  | 0, _ => -2
  | j + 1, v => if cntw W (idxw W v) v + cntw V (idxw V v) v = 1 then shrw W V j (v + 1) else (v : Int)
theorem idxw_le {W : Nat → Int} : ∀ v, idxw W v ≤ 2 * v + 1
  | 0 => Nat.le_refl _
  | v + 1 => by
    have := idxw_le (W := W) v
    rw [idxw]
    unfold cntw
    split
    · split <;> omega
    · omega
theorem idxw_ge {W : Nat → Int} (h0 : ∀ i, 0 ≤ W i) (h1 : ∀ i, W i ≤ W (i + 1)) (h2 : ∀ i, W i + 1 ≤ W (i + 2)) : ∀ v : Nat, (v : Int) ≤ W (idxw W v)
  | 0 => h0 1
  | v + 1 => by
    have ih := idxw_ge h0 h1 h2 v
    rw [idxw]
    unfold cntw
    have a1 := h1 (idxw W v)
    have a2 := h2 (idxw W v)
    split
    · rename_i g
      split
      · have : idxw W v + 2 = idxw W v + 2 := rfl
        omega
      · rename_i g2
        omega
    · rename_i g
      rw [Nat.add_zero]
      omega
noncomputable def WNn (l : SL4) (i : Nat) : Int := WN l i
noncomputable def p_share (S : ST5) (r s : Int) : Int := match slq S r with
  | none => -1
  | some l => match slq S s with
    | none => -1
    | some m => (haveI := Classical.propDecidable (oneP l m); if oneP l m then 0 else if sgn l (-1) 2 ≤ 0 ∨ sgn m (-1) 2 ≤ 0 then 1 else shrw (WNn l) (WNn m) 5000 1)
theorem WNn_ok {l : SL4} (hS : SL l.1 l.2.1 l.2.2.1 l.2.2.2) (hs : 0 < sgn l (-1) 2) : (∀ i, 0 ≤ WNn l i) ∧ (∀ i, WNn l i ≤ WNn l (i + 1)) ∧ (∀ i, WNn l i + 1 ≤ WNn l (i + 2)) ∧ (∀ i : Nat, WNn l i ≤ 20 * (i : Int)) := by
  have hd := hS.dpos
  have hc := hS.cpos
  refine ⟨fun i => ?_, fun i => ?_, fun i => ?_, fun i => ?_⟩
  · exact hS.w0 (N := (i : Int)) (by omega)
  · have := (EW_mono (u := 0) (v := 1) hS (by omega) (i : Int)).1
    rw [EW_01, EW_01] at this
    exact this
  · show WN l i + 1 ≤ WN l ((i + 2 : Nat) : Int)
    have h1 : nn (2 * l.1 + -1 * l.2.2.1) (2 * l.2.1) l.2.2.2 := (sg_nn hd).mp (by have : 0 < sg (2 * l.1 + -1 * l.2.2.1) (2 * l.2.1) l.2.2.2 := hs; omega)
    have h2 := (whl_iff (k := WN l i) hd (hS.hn (N := (i : Int))) hc).mpr (Int.le_refl _)
    have h3 := nn_add (by omega) h2 h1
    unfold WN
    rw [← whl_iff hd hS.hn hc]
    have e1 : l.1 * (i : Int) - WN l i * l.2.2.1 + (2 * l.1 + -1 * l.2.2.1) = l.1 * ((i + 2 : Nat) : Int) - (WN l i + 1) * l.2.2.1 := by
      rw [show ((i + 2 : Nat) : Int) = (i : Int) + 2 by omega]
      generalize WN l i = P
      grind
    have e2 : l.2.1 * (i : Int) + 2 * l.2.1 = l.2.1 * ((i + 2 : Nat) : Int) := by
      rw [show ((i + 2 : Nat) : Int) = (i : Int) + 2 by omega]
      grind
    rw [e1, e2] at h3
    exact h3
  · exact hS.w20 (N := (i : Int)) (by omega)
section SHC
variable {sc : en_S} {n : Nat} {XI : Nat → Int32} {XA : Nat → Nat → Int32} {XP : Nat → Nat → Option Nat} {XC : Value} {MI : Nat → Int32} {MA : Nat → Nat → Int32} {ML : Nat → Nat → Int64} {D : en_H}
theorem x_tellings {p : Nat} {l : SL4} (hs : SlO D p l) (hS : SL l.1 l.2.1 l.2.2.1 l.2.2.2) {i v : Nat} (hi : i ≤ 20000) (hv : v ≤ 5000) : f_X11_tellings sc (n + 6) (p + 51) (iO (i : Int)) (iO (v : Int)) (hp XI XA XP XC MI MA ML D) = some (some (.int (iO (cntw (WNn l) i v : Int))), hp XI XA XP XC MI MA ML D) := by
  have hw : ∀ N : Nat, N ≤ 30000 → f_X7_wholeOf sc (n + 5) (p + 51) (lO (N : Int)) (lO 0) (lO 1) (hp XI XA XP XC MI MA ML D) = some (some (.long (lO (WNn l N))), hp XI XA XP XC MI MA ML D) := fun N hN => x_whole0 (n := n + 1) hs hS (by omega) (by omega)
  have c3 := hs
  obtain ⟨a, b, c, d, t, qs, ls, k1, -⟩ := c3
  have gc : ∀ (g : Nat → Option en_R), en_cc (hp XI XA XP XC MI MA ML D) (p + 51) g = g 6 := fun g => d_cc k1 g
  have b0 : 0 ≤ WNn l i ∧ WNn l i ≤ 400000 := ⟨hS.w0 (N := (i : Int)) (by omega), by have : WNn l i ≤ 20 * (i : Int) := hS.w20 (N := (i : Int)) (by omega); omega⟩
  have b1 : 0 ≤ WNn l (i + 1) ∧ WNn l (i + 1) ≤ 400020 := ⟨hS.w0 (N := ((i + 1 : Nat) : Int)) (by omega), by have : WNn l (i + 1) ≤ 20 * ((i + 1 : Nat) : Int) := hS.w20 (N := ((i + 1 : Nat) : Int)) (by omega); omega⟩
  have h0 := hw i (by omega)
  have h1 := hw (i + 1) (by omega)
  rw [show ((i + 1 : Nat) : Int) = (i : Int) + 1 by omega] at h1
  rw [e_X11_tellings, eb_X11_tellings_1]
  unfold cntw
  generalize WNn l i = P at *
  generalize WNn l (i + 1) = Q at *
  have ez : (i : Int) + 0 = (i : Int) := by omega
  clear hw hs
  by_cases g1 : P = (v : Int)
  · rw [if_pos g1]
    by_cases g2 : Q = (v : Int)
    · rw [if_pos g2]
      simp (disch := (first | assumption | (unfold i32; omega) | (unfold i64; omega) | omega)) only [↓reduceIte, ki_0, ki_1, ki_2, ki_3, ki_4, ki_5, ki_6, ki_7, ki_8, ki_9, ki_10, ki_11, ki_12, ki_13, ki_14, ki_15, ki_20, ki_21, ki_30, ki_31, ki_40, ki_41, ki_50, ki_51, ki_60, ki_63, ki_64, ki_65, ki_100, ki_158, ki_160, ki_200, ki_212, ki_1000, ki_2000, ki_2001, ki_5000, ki_10000, ki_10001, ki_100000, ki_200000, ki_1000000, ki_2000000, ki_3000000, iO_neg, iO_add, iO_sub, iO_mul, kn_4, kn_8, kn_10, kn_20, kn_24, kn_40, kn_41, kn_50, kn_60, kn_158, kn_160, kn_200, kn_212, kn_2001, tn_lt, fn_lt, tn_le, fn_le, tn_eq, fn_eq, x_lt, x_le, x_eq, x_ix, x_nat, t_lt, f_lt, t_le, f_le, t_eq, f_eq, eq_self, and_self, true_and, and_true, false_and, and_false, if_true, if_false, Int.toNat_natCast, bI_s, bL_s, bA_s, bA_n, bV_s, mq_s, mq_n, en_le, bl_0, bl_1, u_eq, u_ne, w_eq, w_ne, v_eq, v_ne, ez, iO_wide, kl_0, kl_1, gc, h0, lc_lt, lc_le, lc_gt, lc_ge, lc_eq, y_lt, y_le, y_eq, eb_X11_tellings_1, h1]
      try rfl
    · rw [if_neg g2]
      simp (disch := (first | assumption | (unfold i32; omega) | (unfold i64; omega) | omega)) only [↓reduceIte, ki_0, ki_1, ki_2, ki_3, ki_4, ki_5, ki_6, ki_7, ki_8, ki_9, ki_10, ki_11, ki_12, ki_13, ki_14, ki_15, ki_20, ki_21, ki_30, ki_31, ki_40, ki_41, ki_50, ki_51, ki_60, ki_63, ki_64, ki_65, ki_100, ki_158, ki_160, ki_200, ki_212, ki_1000, ki_2000, ki_2001, ki_5000, ki_10000, ki_10001, ki_100000, ki_200000, ki_1000000, ki_2000000, ki_3000000, iO_neg, iO_add, iO_sub, iO_mul, kn_4, kn_8, kn_10, kn_20, kn_24, kn_40, kn_41, kn_50, kn_60, kn_158, kn_160, kn_200, kn_212, kn_2001, tn_lt, fn_lt, tn_le, fn_le, tn_eq, fn_eq, x_lt, x_le, x_eq, x_ix, x_nat, t_lt, f_lt, t_le, f_le, t_eq, f_eq, eq_self, and_self, true_and, and_true, false_and, and_false, if_true, if_false, Int.toNat_natCast, bI_s, bL_s, bA_s, bA_n, bV_s, mq_s, mq_n, en_le, bl_0, bl_1, u_eq, u_ne, w_eq, w_ne, v_eq, v_ne, ez, iO_wide, kl_0, kl_1, gc, h0, lc_lt, lc_le, lc_gt, lc_ge, lc_eq, y_lt, y_le, y_eq, eb_X11_tellings_1, h1]
      try rfl
  · rw [if_neg g1]
    simp (disch := (first | assumption | (unfold i32; omega) | (unfold i64; omega) | omega)) only [↓reduceIte, ki_0, ki_1, ki_2, ki_3, ki_4, ki_5, ki_6, ki_7, ki_8, ki_9, ki_10, ki_11, ki_12, ki_13, ki_14, ki_15, ki_20, ki_21, ki_30, ki_31, ki_40, ki_41, ki_50, ki_51, ki_60, ki_63, ki_64, ki_65, ki_100, ki_158, ki_160, ki_200, ki_212, ki_1000, ki_2000, ki_2001, ki_5000, ki_10000, ki_10001, ki_100000, ki_200000, ki_1000000, ki_2000000, ki_3000000, iO_neg, iO_add, iO_sub, iO_mul, kn_4, kn_8, kn_10, kn_20, kn_24, kn_40, kn_41, kn_50, kn_60, kn_158, kn_160, kn_200, kn_212, kn_2001, tn_lt, fn_lt, tn_le, fn_le, tn_eq, fn_eq, x_lt, x_le, x_eq, x_ix, x_nat, t_lt, f_lt, t_le, f_le, t_eq, f_eq, eq_self, and_self, true_and, and_true, false_and, and_false, if_true, if_false, Int.toNat_natCast, bI_s, bL_s, bA_s, bA_n, bV_s, mq_s, mq_n, en_le, bl_0, bl_1, u_eq, u_ne, w_eq, w_ne, v_eq, v_ne, ez, iO_wide, kl_0, kl_1, gc, h0, lc_lt, lc_le, lc_gt, lc_ge, lc_eq, y_lt, y_le, y_eq]
    try rfl
theorem x_unshared3 {p q : Nat} {l m : SL4} (hs : SlO D p l) (hS : SL l.1 l.2.1 l.2.2.1 l.2.2.2) (hs' : SlO D q m) (hS' : SL m.1 m.2.1 m.2.2.1 m.2.2.2) : ∀ (j v : Nat), v + j = 5001 → b_X11_unshared_3 sc (n + 6) (p + 51) (q + 51) (iO (idxw (WNn l) v : Int)) (iO (idxw (WNn m) v : Int)) (iO (v : Int)) (hp XI XA XP XC MI MA ML D) = some (some (.int (iO (if v = 0 then shrw (WNn l) (WNn m) (j - 1) 1 else shrw (WNn l) (WNn m) j v))), hp XI XA XP XC MI MA ML D) := by
  intro j
  induction j with
  | zero =>
    intro v hv
    rw [eb_X11_unshared_3, if_neg (show ¬ v = 0 by omega), shrw]
    simp (disch := (first | assumption | (unfold i32; omega) | (unfold i64; omega) | omega)) only [↓reduceIte, ki_0, ki_1, ki_2, ki_3, ki_4, ki_5, ki_6, ki_7, ki_8, ki_9, ki_10, ki_11, ki_12, ki_13, ki_14, ki_15, ki_20, ki_21, ki_30, ki_31, ki_40, ki_41, ki_50, ki_51, ki_60, ki_63, ki_64, ki_65, ki_100, ki_158, ki_160, ki_200, ki_212, ki_1000, ki_2000, ki_2001, ki_5000, ki_10000, ki_10001, ki_100000, ki_200000, ki_1000000, ki_2000000, ki_3000000, iO_neg, iO_add, iO_sub, iO_mul, kn_4, kn_8, kn_10, kn_20, kn_24, kn_40, kn_41, kn_50, kn_60, kn_158, kn_160, kn_200, kn_212, kn_2001, tn_lt, fn_lt, tn_le, fn_le, tn_eq, fn_eq, x_lt, x_le, x_eq, x_ix, x_nat, t_lt, f_lt, t_le, f_le, t_eq, f_eq, eq_self, and_self, true_and, and_true, false_and, and_false, if_true, if_false, Int.toNat_natCast, bI_s, bL_s, bA_s, bA_n, bV_s, mq_s, mq_n, en_le, bl_0, bl_1, u_eq, u_ne, w_eq, w_ne, v_eq, v_ne]
  | succ j ih =>
    intro v hv
    have i1 := idxw_le (W := WNn l) v
    have i2 := idxw_le (W := WNn m) v
    have t1 := x_tellings (sc := sc) (n := n) (XI := XI) (XA := XA) (XP := XP) (XC := XC) (MI := MI) (MA := MA) (ML := ML) hs hS (i := idxw (WNn l) v) (v := v) (by omega) (by omega)
    have t2 := x_tellings (sc := sc) (n := n) (XI := XI) (XA := XA) (XP := XP) (XC := XC) (MI := MI) (MA := MA) (ML := ML) hs' hS' (i := idxw (WNn m) v) (v := v) (by omega) (by omega)
    have ih' := ih (v + 1) (by omega)
    rw [if_neg (show ¬ v + 1 = 0 by omega), idxw, idxw] at ih'
    have c1 : cntw (WNn l) (idxw (WNn l) v) v ≤ 2 := by unfold cntw; split <;> (try split) <;> omega
    have c2 : cntw (WNn m) (idxw (WNn m) v) v ≤ 2 := by unfold cntw; split <;> (try split) <;> omega
    rw [eb_X11_unshared_3]
    by_cases g0 : v = 0
    · rw [if_pos g0]
      subst g0
      rw [show j + 1 - 1 = j by omega, ← ih']
      generalize cntw (WNn l) (idxw (WNn l) 0) 0 = C1 at *
      generalize cntw (WNn m) (idxw (WNn m) 0) 0 = C2 at *
      generalize idxw (WNn l) 0 = I1 at *
      generalize idxw (WNn m) 0 = I2 at *
      clear ih ih' hs hs'
      have t1 : f_X11_tellings sc (n + 6) (p + 51) (iO (I1 : Int)) (iO 0) (hp XI XA XP XC MI MA ML D) = _ := t1
      have t2 : f_X11_tellings sc (n + 6) (q + 51) (iO (I2 : Int)) (iO 0) (hp XI XA XP XC MI MA ML D) = _ := t2
      have e0 : ((0 : Nat) : Int) = 0 := rfl
      simp (disch := (first | assumption | (unfold i32; omega) | (unfold i64; omega) | omega)) only [↓reduceIte, ki_0, ki_1, ki_2, ki_3, ki_4, ki_5, ki_6, ki_7, ki_8, ki_9, ki_10, ki_11, ki_12, ki_13, ki_14, ki_15, ki_20, ki_21, ki_30, ki_31, ki_40, ki_41, ki_50, ki_51, ki_60, ki_63, ki_64, ki_65, ki_100, ki_158, ki_160, ki_200, ki_212, ki_1000, ki_2000, ki_2001, ki_5000, ki_10000, ki_10001, ki_100000, ki_200000, ki_1000000, ki_2000000, ki_3000000, iO_neg, iO_add, iO_sub, iO_mul, kn_4, kn_8, kn_10, kn_20, kn_24, kn_40, kn_41, kn_50, kn_60, kn_158, kn_160, kn_200, kn_212, kn_2001, tn_lt, fn_lt, tn_le, fn_le, tn_eq, fn_eq, x_lt, x_le, x_eq, x_ix, x_nat, t_lt, f_lt, t_le, f_le, t_eq, f_eq, eq_self, and_self, true_and, and_true, false_and, and_false, if_true, if_false, Int.toNat_natCast, bI_s, bL_s, bA_s, bA_n, bV_s, mq_s, mq_n, en_le, bl_0, bl_1, u_eq, u_ne, w_eq, w_ne, v_eq, v_ne, e0, t1, t2, eb_X11_unshared_4]
      try rfl
    · rw [if_neg g0, shrw]
      generalize hC1 : cntw (WNn l) (idxw (WNn l) v) v = C1 at *
      generalize hC2 : cntw (WNn m) (idxw (WNn m) v) v = C2 at *
      generalize idxw (WNn l) v = I1 at *
      generalize idxw (WNn m) v = I2 at *
      by_cases g1 : C1 + C2 = 1
      · rw [if_pos g1, ← ih']
        clear ih ih' hs hs' hC1 hC2
        simp (disch := (first | assumption | (unfold i32; omega) | (unfold i64; omega) | omega)) only [↓reduceIte, ki_0, ki_1, ki_2, ki_3, ki_4, ki_5, ki_6, ki_7, ki_8, ki_9, ki_10, ki_11, ki_12, ki_13, ki_14, ki_15, ki_20, ki_21, ki_30, ki_31, ki_40, ki_41, ki_50, ki_51, ki_60, ki_63, ki_64, ki_65, ki_100, ki_158, ki_160, ki_200, ki_212, ki_1000, ki_2000, ki_2001, ki_5000, ki_10000, ki_10001, ki_100000, ki_200000, ki_1000000, ki_2000000, ki_3000000, iO_neg, iO_add, iO_sub, iO_mul, kn_4, kn_8, kn_10, kn_20, kn_24, kn_40, kn_41, kn_50, kn_60, kn_158, kn_160, kn_200, kn_212, kn_2001, tn_lt, fn_lt, tn_le, fn_le, tn_eq, fn_eq, x_lt, x_le, x_eq, x_ix, x_nat, t_lt, f_lt, t_le, f_le, t_eq, f_eq, eq_self, and_self, true_and, and_true, false_and, and_false, if_true, if_false, Int.toNat_natCast, bI_s, bL_s, bA_s, bA_n, bV_s, mq_s, mq_n, en_le, bl_0, bl_1, u_eq, u_ne, w_eq, w_ne, v_eq, v_ne, t1, t2, eb_X11_unshared_4]
        try rfl
      · rw [if_neg g1]
        clear ih ih' hs hs' hC1 hC2
        simp (disch := (first | assumption | (unfold i32; omega) | (unfold i64; omega) | omega)) only [↓reduceIte, ki_0, ki_1, ki_2, ki_3, ki_4, ki_5, ki_6, ki_7, ki_8, ki_9, ki_10, ki_11, ki_12, ki_13, ki_14, ki_15, ki_20, ki_21, ki_30, ki_31, ki_40, ki_41, ki_50, ki_51, ki_60, ki_63, ki_64, ki_65, ki_100, ki_158, ki_160, ki_200, ki_212, ki_1000, ki_2000, ki_2001, ki_5000, ki_10000, ki_10001, ki_100000, ki_200000, ki_1000000, ki_2000000, ki_3000000, iO_neg, iO_add, iO_sub, iO_mul, kn_4, kn_8, kn_10, kn_20, kn_24, kn_40, kn_41, kn_50, kn_60, kn_158, kn_160, kn_200, kn_212, kn_2001, tn_lt, fn_lt, tn_le, fn_le, tn_eq, fn_eq, x_lt, x_le, x_eq, x_ix, x_nat, t_lt, f_lt, t_le, f_le, t_eq, f_eq, eq_self, and_self, true_and, and_true, false_and, and_false, if_true, if_false, Int.toNat_natCast, bI_s, bL_s, bA_s, bA_n, bV_s, mq_s, mq_n, en_le, bl_0, bl_1, u_eq, u_ne, w_eq, w_ne, v_eq, v_ne, t1, t2]
theorem x_sharesWith {p q : Nat} {l m : SL4} (hs : SlO D p l) (hs' : SlO D q m) : ∃ w : Int, (w = 1 ↔ oneP l m) ∧ (w = 0 ∨ w = 1) ∧ f_X7_sharesWith sc (n + 1) (p + 51) (q + 51) (hp XI XA XP XC MI MA ML D) = some (some (.int (iO w)), hp XI XA XP XC MI MA ML D) := by
  obtain ⟨a, b, c, d, t, qs, ls, k1, k2, k3, hC, hE, hD, hsq, -⟩ := hs
  obtain ⟨a', b', c', d', t', qs', ls', k1', k2', k3', hC', hE', hD', hsq', -⟩ := hs'
  have key := one_iff hE hD hE' hD' hsq hsq'
  have g4 : ∀ (f : Int64 → Option en_R), en_gL (hp XI XA XP XC MI MA ML D) (p + 51) [(6, 0)] 4 f = f (lO a) := fun f => d_gL k1 rfl rfl f
  have g5 : ∀ (f : Int64 → Option en_R), en_gL (hp XI XA XP XC MI MA ML D) (p + 51) [(6, 0)] 5 f = f (lO b) := fun f => d_gL k1 rfl rfl f
  have g6 : ∀ (f : Int64 → Option en_R), en_gL (hp XI XA XP XC MI MA ML D) (p + 51) [(6, 0)] 6 f = f (lO c) := fun f => d_gL k1 rfl rfl f
  have g7 : ∀ (f : Int64 → Option en_R), en_gL (hp XI XA XP XC MI MA ML D) (p + 51) [(6, 0)] 7 f = f (lO d) := fun f => d_gL k1 rfl rfl f
  have h4 : ∀ (f : Int64 → Option en_R), en_gL (hp XI XA XP XC MI MA ML D) (q + 51) [(6, 0)] 4 f = f (lO a') := fun f => d_gL k1' rfl rfl f
  have h5 : ∀ (f : Int64 → Option en_R), en_gL (hp XI XA XP XC MI MA ML D) (q + 51) [(6, 0)] 5 f = f (lO b') := fun f => d_gL k1' rfl rfl f
  have h6 : ∀ (f : Int64 → Option en_R), en_gL (hp XI XA XP XC MI MA ML D) (q + 51) [(6, 0)] 6 f = f (lO c') := fun f => d_gL k1' rfl rfl f
  have h7 : ∀ (f : Int64 → Option en_R), en_gL (hp XI XA XP XC MI MA ML D) (q + 51) [(6, 0)] 7 f = f (lO d') := fun f => d_gL k1' rfl rfl f
  obtain ⟨x1, x2, x3, x4, x5, x6, x7, x8, x9, -⟩ := id hC
  obtain ⟨y1, y2, y3, y4, y5, y6, y7, y8, y9, -⟩ := id hC'
  have pr : ∀ (x y : Int), -2000 ≤ x → x ≤ 2000 → -2000 ≤ y → y ≤ 2000 → -12000000 ≤ x * y ∧ x * y ≤ 12000000 := by
    intro x y a1 a2 a3 a4
    have := mul_bd (x := x) (y := y + 2000) (a := 2000) (b := 4000) (by omega) (by omega) (by omega) (by omega)
    rw [Int.mul_add] at this
    omega
  have m1 := pr (a - c) (a' - c') (by omega) (by omega) (by omega) (by omega)
  have m2 := pr b b' (by omega) (by omega) (by omega) (by omega)
  have m3 := mul_bd (x := b * b') (y := d) (a := 12000000) (b := 50) (by omega) (by omega) (by omega) (by omega)
  have m4 := pr c c' (by omega) (by omega) (by omega) (by omega)
  have m5 := pr (a - c) b' (by omega) (by omega) (by omega) (by omega)
  have m6 := pr (a' - c') b (by omega) (by omega) (by omega) (by omega)
  rw [e_X7_sharesWith]
  unfold shr2 at key
  have key : oneP l m ↔ _ := key
  by_cases q1 : b = 0
  · refine ⟨0, ⟨fun h => by omega, fun h => absurd q1 (key.mp h).1⟩, Or.inl rfl, ?_⟩
    simp (disch := (first | assumption | (unfold i32; omega) | (unfold i64; omega) | omega)) only [↓reduceIte, ki_0, ki_1, ki_2, ki_3, ki_4, ki_5, ki_6, ki_7, ki_8, ki_9, ki_10, ki_11, ki_12, ki_13, ki_14, ki_15, ki_20, ki_21, ki_30, ki_31, ki_40, ki_41, ki_50, ki_51, ki_60, ki_63, ki_64, ki_65, ki_100, ki_158, ki_160, ki_200, ki_212, ki_1000, ki_2000, ki_2001, ki_5000, ki_10000, ki_10001, ki_100000, ki_200000, ki_1000000, ki_2000000, ki_3000000, iO_neg, iO_add, iO_sub, iO_mul, kn_4, kn_8, kn_10, kn_20, kn_24, kn_40, kn_41, kn_50, kn_60, kn_158, kn_160, kn_200, kn_212, kn_2001, tn_lt, fn_lt, tn_le, fn_le, tn_eq, fn_eq, x_lt, x_le, x_eq, x_ix, x_nat, t_lt, f_lt, t_le, f_le, t_eq, f_eq, eq_self, and_self, true_and, and_true, false_and, and_false, if_true, if_false, Int.toNat_natCast, bI_s, bL_s, bA_s, bA_n, bV_s, mq_s, mq_n, en_le, bl_0, bl_1, u_eq, u_ne, w_eq, w_ne, v_eq, v_ne, g5, kl_0, lc_lt, lc_le, lc_gt, lc_ge, lc_eq, y_lt, y_le, y_eq]
  by_cases q2 : b' = 0
  · refine ⟨0, ⟨fun h => by omega, fun h => absurd q2 (key.mp h).2.1⟩, Or.inl rfl, ?_⟩
    simp (disch := (first | assumption | (unfold i32; omega) | (unfold i64; omega) | omega)) only [↓reduceIte, ki_0, ki_1, ki_2, ki_3, ki_4, ki_5, ki_6, ki_7, ki_8, ki_9, ki_10, ki_11, ki_12, ki_13, ki_14, ki_15, ki_20, ki_21, ki_30, ki_31, ki_40, ki_41, ki_50, ki_51, ki_60, ki_63, ki_64, ki_65, ki_100, ki_158, ki_160, ki_200, ki_212, ki_1000, ki_2000, ki_2001, ki_5000, ki_10000, ki_10001, ki_100000, ki_200000, ki_1000000, ki_2000000, ki_3000000, iO_neg, iO_add, iO_sub, iO_mul, kn_4, kn_8, kn_10, kn_20, kn_24, kn_40, kn_41, kn_50, kn_60, kn_158, kn_160, kn_200, kn_212, kn_2001, tn_lt, fn_lt, tn_le, fn_le, tn_eq, fn_eq, x_lt, x_le, x_eq, x_ix, x_nat, t_lt, f_lt, t_le, f_le, t_eq, f_eq, eq_self, and_self, true_and, and_true, false_and, and_false, if_true, if_false, Int.toNat_natCast, bI_s, bL_s, bA_s, bA_n, bV_s, mq_s, mq_n, en_le, bl_0, bl_1, u_eq, u_ne, w_eq, w_ne, v_eq, v_ne, g5, h5, kl_0, lc_lt, lc_le, lc_gt, lc_ge, lc_eq, y_lt, y_le, y_eq]
  by_cases q3 : d = d'
  · by_cases q4 : (a - c) * (a' - c') + b * b' * d = c * c'
    · by_cases q5 : (a - c) * b' + (a' - c') * b = 0
      · refine ⟨1, ⟨fun _ => key.mpr ⟨q1, q2, q3, q4, q5⟩, fun _ => rfl⟩, Or.inr rfl, ?_⟩
        simp (disch := (first | assumption | (unfold i32; omega) | (unfold i64; omega) | omega)) only [↓reduceIte, ki_0, ki_1, ki_2, ki_3, ki_4, ki_5, ki_6, ki_7, ki_8, ki_9, ki_10, ki_11, ki_12, ki_13, ki_14, ki_15, ki_20, ki_21, ki_30, ki_31, ki_40, ki_41, ki_50, ki_51, ki_60, ki_63, ki_64, ki_65, ki_100, ki_158, ki_160, ki_200, ki_212, ki_1000, ki_2000, ki_2001, ki_5000, ki_10000, ki_10001, ki_100000, ki_200000, ki_1000000, ki_2000000, ki_3000000, iO_neg, iO_add, iO_sub, iO_mul, kn_4, kn_8, kn_10, kn_20, kn_24, kn_40, kn_41, kn_50, kn_60, kn_158, kn_160, kn_200, kn_212, kn_2001, tn_lt, fn_lt, tn_le, fn_le, tn_eq, fn_eq, x_lt, x_le, x_eq, x_ix, x_nat, t_lt, f_lt, t_le, f_le, t_eq, f_eq, eq_self, and_self, true_and, and_true, false_and, and_false, if_true, if_false, Int.toNat_natCast, bI_s, bL_s, bA_s, bA_n, bV_s, mq_s, mq_n, en_le, bl_0, bl_1, u_eq, u_ne, w_eq, w_ne, v_eq, v_ne, g4, g5, g6, g7, h4, h5, h6, h7, kl_0, lO_sub, lO_mul, lO_add, lc_lt, lc_le, lc_gt, lc_ge, lc_eq, y_lt, y_le, y_eq]
      · refine ⟨0, ⟨fun h => by omega, fun h => absurd (key.mp h).2.2.2.2 q5⟩, Or.inl rfl, ?_⟩
        simp (disch := (first | assumption | (unfold i32; omega) | (unfold i64; omega) | omega)) only [↓reduceIte, ki_0, ki_1, ki_2, ki_3, ki_4, ki_5, ki_6, ki_7, ki_8, ki_9, ki_10, ki_11, ki_12, ki_13, ki_14, ki_15, ki_20, ki_21, ki_30, ki_31, ki_40, ki_41, ki_50, ki_51, ki_60, ki_63, ki_64, ki_65, ki_100, ki_158, ki_160, ki_200, ki_212, ki_1000, ki_2000, ki_2001, ki_5000, ki_10000, ki_10001, ki_100000, ki_200000, ki_1000000, ki_2000000, ki_3000000, iO_neg, iO_add, iO_sub, iO_mul, kn_4, kn_8, kn_10, kn_20, kn_24, kn_40, kn_41, kn_50, kn_60, kn_158, kn_160, kn_200, kn_212, kn_2001, tn_lt, fn_lt, tn_le, fn_le, tn_eq, fn_eq, x_lt, x_le, x_eq, x_ix, x_nat, t_lt, f_lt, t_le, f_le, t_eq, f_eq, eq_self, and_self, true_and, and_true, false_and, and_false, if_true, if_false, Int.toNat_natCast, bI_s, bL_s, bA_s, bA_n, bV_s, mq_s, mq_n, en_le, bl_0, bl_1, u_eq, u_ne, w_eq, w_ne, v_eq, v_ne, g4, g5, g6, g7, h4, h5, h6, h7, kl_0, lO_sub, lO_mul, lO_add, lc_lt, lc_le, lc_gt, lc_ge, lc_eq, y_lt, y_le, y_eq]
    · refine ⟨0, ⟨fun h => by omega, fun h => absurd (key.mp h).2.2.2.1 q4⟩, Or.inl rfl, ?_⟩
      simp (disch := (first | assumption | (unfold i32; omega) | (unfold i64; omega) | omega)) only [↓reduceIte, ki_0, ki_1, ki_2, ki_3, ki_4, ki_5, ki_6, ki_7, ki_8, ki_9, ki_10, ki_11, ki_12, ki_13, ki_14, ki_15, ki_20, ki_21, ki_30, ki_31, ki_40, ki_41, ki_50, ki_51, ki_60, ki_63, ki_64, ki_65, ki_100, ki_158, ki_160, ki_200, ki_212, ki_1000, ki_2000, ki_2001, ki_5000, ki_10000, ki_10001, ki_100000, ki_200000, ki_1000000, ki_2000000, ki_3000000, iO_neg, iO_add, iO_sub, iO_mul, kn_4, kn_8, kn_10, kn_20, kn_24, kn_40, kn_41, kn_50, kn_60, kn_158, kn_160, kn_200, kn_212, kn_2001, tn_lt, fn_lt, tn_le, fn_le, tn_eq, fn_eq, x_lt, x_le, x_eq, x_ix, x_nat, t_lt, f_lt, t_le, f_le, t_eq, f_eq, eq_self, and_self, true_and, and_true, false_and, and_false, if_true, if_false, Int.toNat_natCast, bI_s, bL_s, bA_s, bA_n, bV_s, mq_s, mq_n, en_le, bl_0, bl_1, u_eq, u_ne, w_eq, w_ne, v_eq, v_ne, g4, g5, g6, g7, h4, h5, h6, h7, kl_0, lO_sub, lO_mul, lO_add, lc_lt, lc_le, lc_gt, lc_ge, lc_eq, y_lt, y_le, y_eq]
  · refine ⟨0, ⟨fun h => by omega, fun h => absurd (key.mp h).2.2.1 q3⟩, Or.inl rfl, ?_⟩
    simp (disch := (first | assumption | (unfold i32; omega) | (unfold i64; omega) | omega)) only [↓reduceIte, ki_0, ki_1, ki_2, ki_3, ki_4, ki_5, ki_6, ki_7, ki_8, ki_9, ki_10, ki_11, ki_12, ki_13, ki_14, ki_15, ki_20, ki_21, ki_30, ki_31, ki_40, ki_41, ki_50, ki_51, ki_60, ki_63, ki_64, ki_65, ki_100, ki_158, ki_160, ki_200, ki_212, ki_1000, ki_2000, ki_2001, ki_5000, ki_10000, ki_10001, ki_100000, ki_200000, ki_1000000, ki_2000000, ki_3000000, iO_neg, iO_add, iO_sub, iO_mul, kn_4, kn_8, kn_10, kn_20, kn_24, kn_40, kn_41, kn_50, kn_60, kn_158, kn_160, kn_200, kn_212, kn_2001, tn_lt, fn_lt, tn_le, fn_le, tn_eq, fn_eq, x_lt, x_le, x_eq, x_ix, x_nat, t_lt, f_lt, t_le, f_le, t_eq, f_eq, eq_self, and_self, true_and, and_true, false_and, and_false, if_true, if_false, Int.toNat_natCast, bI_s, bL_s, bA_s, bA_n, bV_s, mq_s, mq_n, en_le, bl_0, bl_1, u_eq, u_ne, w_eq, w_ne, v_eq, v_ne, g5, h5, g7, h7, kl_0, lc_lt, lc_le, lc_gt, lc_ge, lc_eq, y_lt, y_le, y_eq]
end SHC
section SHS
variable {sc : en_S} {n : Nat} {S : ST5}
theorem cs_share (hS : OK5 S) {r s : Int} (hr : i32 r) (hs : i32 s) : CS S S (p_share S r s) (fun z => f_X11_share sc (n + 40) 1 (iO r) (iO s) z) := by
  apply cs_ask
  intro XI XA XP XC MI MA ML D Γ hV
  show f_X11_share sc (n + 40) 1 (iO r) (iO s) _ = _
  rw [e_X11_share]
  unfold p_share
  cases hq : slq S r with
  | none =>
    have h1 := x_slopeAt0 (sc := sc) (n := n + 38) (XC := XC) (MI := MI) (MA := MA) (ML := ML) hV hS hr hq
    cases hq2 : slq S s with
    | none =>
      have h2 := x_slopeAt0 (sc := sc) (n := n + 38) (XC := XC) (MI := MI) (MA := MA) (ML := ML) hV hS hs hq2
      clear hV
      simp (disch := (first | assumption | (unfold i32; omega) | (unfold i64; omega) | omega)) only [↓reduceIte, ki_0, ki_1, ki_2, ki_3, ki_4, ki_5, ki_6, ki_7, ki_8, ki_9, ki_10, ki_11, ki_12, ki_13, ki_14, ki_15, ki_20, ki_21, ki_30, ki_31, ki_40, ki_41, ki_50, ki_51, ki_60, ki_63, ki_64, ki_65, ki_100, ki_158, ki_160, ki_200, ki_212, ki_1000, ki_2000, ki_2001, ki_5000, ki_10000, ki_10001, ki_100000, ki_200000, ki_1000000, ki_2000000, ki_3000000, iO_neg, iO_add, iO_sub, iO_mul, kn_4, kn_8, kn_10, kn_20, kn_24, kn_40, kn_41, kn_50, kn_60, kn_158, kn_160, kn_200, kn_212, kn_2001, tn_lt, fn_lt, tn_le, fn_le, tn_eq, fn_eq, x_lt, x_le, x_eq, x_ix, x_nat, t_lt, f_lt, t_le, f_le, t_eq, f_eq, eq_self, and_self, true_and, and_true, false_and, and_false, if_true, if_false, Int.toNat_natCast, bI_s, bL_s, bA_s, bA_n, bV_s, mq_s, mq_n, en_le, bl_0, bl_1, u_eq, u_ne, w_eq, w_ne, v_eq, v_ne, ↓hp_cc_1, ↓hp_g_1_0, ↓hp_g_1_1, ↓hp_g_1_2, ↓hp_g_1_3, ↓hp_g_1_4, ↓hp_g_1_5, ↓hp_g_1_6, ↓hp_g_1_7, ↓hp_g_1_8, ↓hp_p_1_8, ↓hp_g_1_9, ↓hp_p_1_9, ↓hp_g_1_10, ↓hp_p_1_10, ↓hp_a_2, ↓hp_n_2, ↓hp_a_3, ↓hp_n_3, ↓hp_a_4, h1, h2]
    | some m =>
      obtain ⟨k', rfl, hk', hq2'⟩ := slq_some hq2
      obtain ⟨p', c1', c2'⟩ := hV.2.2.2.2.1 k' m hq2'
      have h2 := x_slopeAt1 (sc := sc) (n := n + 38) (XC := XC) (MI := MI) (MA := MA) (ML := ML) hV hS hq2' c1'
      clear hV
      simp (disch := (first | assumption | (unfold i32; omega) | (unfold i64; omega) | omega)) only [↓reduceIte, ki_0, ki_1, ki_2, ki_3, ki_4, ki_5, ki_6, ki_7, ki_8, ki_9, ki_10, ki_11, ki_12, ki_13, ki_14, ki_15, ki_20, ki_21, ki_30, ki_31, ki_40, ki_41, ki_50, ki_51, ki_60, ki_63, ki_64, ki_65, ki_100, ki_158, ki_160, ki_200, ki_212, ki_1000, ki_2000, ki_2001, ki_5000, ki_10000, ki_10001, ki_100000, ki_200000, ki_1000000, ki_2000000, ki_3000000, iO_neg, iO_add, iO_sub, iO_mul, kn_4, kn_8, kn_10, kn_20, kn_24, kn_40, kn_41, kn_50, kn_60, kn_158, kn_160, kn_200, kn_212, kn_2001, tn_lt, fn_lt, tn_le, fn_le, tn_eq, fn_eq, x_lt, x_le, x_eq, x_ix, x_nat, t_lt, f_lt, t_le, f_le, t_eq, f_eq, eq_self, and_self, true_and, and_true, false_and, and_false, if_true, if_false, Int.toNat_natCast, bI_s, bL_s, bA_s, bA_n, bV_s, mq_s, mq_n, en_le, bl_0, bl_1, u_eq, u_ne, w_eq, w_ne, v_eq, v_ne, ↓hp_cc_1, ↓hp_g_1_0, ↓hp_g_1_1, ↓hp_g_1_2, ↓hp_g_1_3, ↓hp_g_1_4, ↓hp_g_1_5, ↓hp_g_1_6, ↓hp_g_1_7, ↓hp_g_1_8, ↓hp_p_1_8, ↓hp_g_1_9, ↓hp_p_1_9, ↓hp_g_1_10, ↓hp_p_1_10, ↓hp_a_2, ↓hp_n_2, ↓hp_a_3, ↓hp_n_3, ↓hp_a_4, h1, h2]
  | some l =>
    obtain ⟨k, rfl, hk, hq1'⟩ := slq_some hq
    obtain ⟨p, c1, c2⟩ := hV.2.2.2.2.1 k l hq1'
    have h1 := x_slopeAt1 (sc := sc) (n := n + 38) (XC := XC) (MI := MI) (MA := MA) (ML := ML) hV hS hq1' c1
    cases hq2 : slq S s with
    | none =>
      have h2 := x_slopeAt0 (sc := sc) (n := n + 38) (XC := XC) (MI := MI) (MA := MA) (ML := ML) hV hS hs hq2
      clear hV
      simp (disch := (first | assumption | (unfold i32; omega) | (unfold i64; omega) | omega)) only [↓reduceIte, ki_0, ki_1, ki_2, ki_3, ki_4, ki_5, ki_6, ki_7, ki_8, ki_9, ki_10, ki_11, ki_12, ki_13, ki_14, ki_15, ki_20, ki_21, ki_30, ki_31, ki_40, ki_41, ki_50, ki_51, ki_60, ki_63, ki_64, ki_65, ki_100, ki_158, ki_160, ki_200, ki_212, ki_1000, ki_2000, ki_2001, ki_5000, ki_10000, ki_10001, ki_100000, ki_200000, ki_1000000, ki_2000000, ki_3000000, iO_neg, iO_add, iO_sub, iO_mul, kn_4, kn_8, kn_10, kn_20, kn_24, kn_40, kn_41, kn_50, kn_60, kn_158, kn_160, kn_200, kn_212, kn_2001, tn_lt, fn_lt, tn_le, fn_le, tn_eq, fn_eq, x_lt, x_le, x_eq, x_ix, x_nat, t_lt, f_lt, t_le, f_le, t_eq, f_eq, eq_self, and_self, true_and, and_true, false_and, and_false, if_true, if_false, Int.toNat_natCast, bI_s, bL_s, bA_s, bA_n, bV_s, mq_s, mq_n, en_le, bl_0, bl_1, u_eq, u_ne, w_eq, w_ne, v_eq, v_ne, ↓hp_cc_1, ↓hp_g_1_0, ↓hp_g_1_1, ↓hp_g_1_2, ↓hp_g_1_3, ↓hp_g_1_4, ↓hp_g_1_5, ↓hp_g_1_6, ↓hp_g_1_7, ↓hp_g_1_8, ↓hp_p_1_8, ↓hp_g_1_9, ↓hp_p_1_9, ↓hp_g_1_10, ↓hp_p_1_10, ↓hp_a_2, ↓hp_n_2, ↓hp_a_3, ↓hp_n_3, ↓hp_a_4, h1, h2]
    | some m =>
      obtain ⟨k', rfl, hk', hq2'⟩ := slq_some hq2
      obtain ⟨p', c1', c2'⟩ := hV.2.2.2.2.1 k' m hq2'
      have h2 := x_slopeAt1 (sc := sc) (n := n + 38) (XC := XC) (MI := MI) (MA := MA) (ML := ML) hV hS hq2' c1'
      have hSl := hS.2.2.1 l (List.mem_of_getElem? hq1')
      have hSm := hS.2.2.1 m (List.mem_of_getElem? hq2')
      obtain ⟨w, w1, w2, w3⟩ := x_sharesWith (sc := sc) (n := n + 38) (XI := XI) (XA := XA) (XP := XP) (XC := XC) (MI := MI) (MA := MA) (ML := ML) c2 c2'
      have d2 := c2
      obtain ⟨a, b, c, d, t, qs, ls, k1, -⟩ := d2
      have d2' := c2'
      obtain ⟨a', b', c', d', t', qs', ls', k1', -⟩ := d2'
      have gc : ∀ (g : Nat → Option en_R), en_cc (hp XI XA XP XC MI MA ML D) (p + 51) g = g 6 := fun g => d_cc k1 g
      have gc' : ∀ (g : Nat → Option en_R), en_cc (hp XI XA XP XC MI MA ML D) (p' + 51) g = g 6 := fun g => d_cc k1' g
      have s1 := x_sum (sc := sc) (n := n + 36) (XI := XI) (XA := XA) (XP := XP) (XC := XC) (MI := MI) (MA := MA) (ML := ML) c2 (x := -1) (y := 2) (by omega) (by omega) (by omega) (by omega)
      have s2 := x_sum (sc := sc) (n := n + 36) (XI := XI) (XA := XA) (XP := XP) (XC := XC) (MI := MI) (MA := MA) (ML := ML) c2' (x := -1) (y := 2) (by omega) (by omega) (by omega) (by omega)
      have s1 : f_X7_signOfSum sc (n + 38) (p + 51) (-1) 2 (hp XI XA XP XC MI MA ML D) = some (some (.int (iO (sgn l (-1) 2))), hp XI XA XP XC MI MA ML D) := s1
      have s2 : f_X7_signOfSum sc (n + 38) (p' + 51) (-1) 2 (hp XI XA XP XC MI MA ML D) = some (some (.int (iO (sgn m (-1) 2))), hp XI XA XP XC MI MA ML D) := s2
      have u3 := x_unshared3 (sc := sc) (n := n + 32) (XI := XI) (XA := XA) (XP := XP) (XC := XC) (MI := MI) (MA := MA) (ML := ML) c2 hSl c2' hSm 5001 0 (by omega)
      rw [if_pos rfl] at u3
      have u3 : b_X11_unshared_3 sc (n + 38) (p + 51) (p' + 51) 1 1 0 (hp XI XA XP XC MI MA ML D) = some (some (.int (iO (shrw (WNn l) (WNn m) 5000 1))), hp XI XA XP XC MI MA ML D) := u3
      have r1 : sgn l (-1) 2 = -1 ∨ sgn l (-1) 2 = 0 ∨ sgn l (-1) 2 = 1 := sg_range _ _ _
      have r2 : sgn m (-1) 2 = -1 ∨ sgn m (-1) 2 = 0 ∨ sgn m (-1) 2 = 1 := sg_range _ _ _
      dsimp only
      generalize sgn l (-1) 2 = P at *
      generalize sgn m (-1) 2 = Q at *
      generalize shrw (WNn l) (WNn m) 5000 1 = R at *
      clear hV c2 c2' k1 k1'
      rcases w2 with e | e
      · rw [if_neg (show ¬ oneP l m from fun h => by have := w1.mpr h; omega)]
        rw [e] at w3
        have hun : f_X11_unshared sc (n + 39) (p + 51) (p' + 51) (hp XI XA XP XC MI MA ML D) = some (some (.int (iO (if P ≤ 0 ∨ Q ≤ 0 then 1 else R))), hp XI XA XP XC MI MA ML D) := by
          rw [e_X11_unshared, gc, if_pos rfl, s1, bI_s]
          by_cases g1 : P ≤ 0
          · rw [if_pos (show iO P ≤ 0 from ple (a := P) (b := 0) (by unfold i32; omega) (by unfold i32; omega) g1), if_pos (Or.inl g1)]
            rfl
          · rw [if_neg (show ¬ iO P ≤ 0 from nle (a := P) (b := 0) (by unfold i32; omega) (by unfold i32; omega) (by omega)), gc', if_pos rfl, s2, bI_s]
            by_cases g2 : Q ≤ 0
            · rw [if_neg (show ¬ 0 < iO Q from nlt (a := 0) (b := Q) (by unfold i32; omega) (by unfold i32; omega) (by omega)), if_pos (Or.inr g2)]
              rfl
            · rw [if_pos (show 0 < iO Q from plt (a := 0) (b := Q) (by unfold i32; omega) (by unfold i32; omega) (by omega)), if_neg (by omega), u3]
        clear w1 r1 r2
        simp (disch := (first | assumption | (unfold i32; omega) | (unfold i64; omega) | omega)) only [↓reduceIte, ki_0, ki_1, ki_2, ki_3, ki_4, ki_5, ki_6, ki_7, ki_8, ki_9, ki_10, ki_11, ki_12, ki_13, ki_14, ki_15, ki_20, ki_21, ki_30, ki_31, ki_40, ki_41, ki_50, ki_51, ki_60, ki_63, ki_64, ki_65, ki_100, ki_158, ki_160, ki_200, ki_212, ki_1000, ki_2000, ki_2001, ki_5000, ki_10000, ki_10001, ki_100000, ki_200000, ki_1000000, ki_2000000, ki_3000000, iO_neg, iO_add, iO_sub, iO_mul, kn_4, kn_8, kn_10, kn_20, kn_24, kn_40, kn_41, kn_50, kn_60, kn_158, kn_160, kn_200, kn_212, kn_2001, tn_lt, fn_lt, tn_le, fn_le, tn_eq, fn_eq, x_lt, x_le, x_eq, x_ix, x_nat, t_lt, f_lt, t_le, f_le, t_eq, f_eq, eq_self, and_self, true_and, and_true, false_and, and_false, if_true, if_false, Int.toNat_natCast, bI_s, bL_s, bA_s, bA_n, bV_s, mq_s, mq_n, en_le, bl_0, bl_1, u_eq, u_ne, w_eq, w_ne, v_eq, v_ne, ↓hp_cc_1, ↓hp_g_1_0, ↓hp_g_1_1, ↓hp_g_1_2, ↓hp_g_1_3, ↓hp_g_1_4, ↓hp_g_1_5, ↓hp_g_1_6, ↓hp_g_1_7, ↓hp_g_1_8, ↓hp_p_1_8, ↓hp_g_1_9, ↓hp_p_1_9, ↓hp_g_1_10, ↓hp_p_1_10, ↓hp_a_2, ↓hp_n_2, ↓hp_a_3, ↓hp_n_3, ↓hp_a_4, h1, h2, gc, w3, hun]
      · rw [if_pos (w1.mp e)]
        rw [e] at w3
        clear w1 r1 r2
        simp (disch := (first | assumption | (unfold i32; omega) | (unfold i64; omega) | omega)) only [↓reduceIte, ki_0, ki_1, ki_2, ki_3, ki_4, ki_5, ki_6, ki_7, ki_8, ki_9, ki_10, ki_11, ki_12, ki_13, ki_14, ki_15, ki_20, ki_21, ki_30, ki_31, ki_40, ki_41, ki_50, ki_51, ki_60, ki_63, ki_64, ki_65, ki_100, ki_158, ki_160, ki_200, ki_212, ki_1000, ki_2000, ki_2001, ki_5000, ki_10000, ki_10001, ki_100000, ki_200000, ki_1000000, ki_2000000, ki_3000000, iO_neg, iO_add, iO_sub, iO_mul, kn_4, kn_8, kn_10, kn_20, kn_24, kn_40, kn_41, kn_50, kn_60, kn_158, kn_160, kn_200, kn_212, kn_2001, tn_lt, fn_lt, tn_le, fn_le, tn_eq, fn_eq, x_lt, x_le, x_eq, x_ix, x_nat, t_lt, f_lt, t_le, f_le, t_eq, f_eq, eq_self, and_self, true_and, and_true, false_and, and_false, if_true, if_false, Int.toNat_natCast, bI_s, bL_s, bA_s, bA_n, bV_s, mq_s, mq_n, en_le, bl_0, bl_1, u_eq, u_ne, w_eq, w_ne, v_eq, v_ne, ↓hp_cc_1, ↓hp_g_1_0, ↓hp_g_1_1, ↓hp_g_1_2, ↓hp_g_1_3, ↓hp_g_1_4, ↓hp_g_1_5, ↓hp_g_1_6, ↓hp_g_1_7, ↓hp_g_1_8, ↓hp_p_1_8, ↓hp_g_1_9, ↓hp_p_1_9, ↓hp_g_1_10, ↓hp_p_1_10, ↓hp_a_2, ↓hp_n_2, ↓hp_a_3, ↓hp_n_3, ↓hp_a_4, h1, h2, gc, w3]
end SHS
-- FILE 94
/-! cut: both sides -/
/-- how many steps of its source a cut takes -/
def ckk (ns : Nat) (fs : Nat → Int) (z : Int) (zs : Nat) (o : Int) (os : Nat) : Nat → Nat → Nat
  | 0, p => p
  | j + 1, p => if (cutL fs z zs o os p).length < 10001 ∧ p < ns ∧ fs p ≤ 1 then ckk ns fs z zs o os j (p + 1) else p
def cutK0 (ns : Nat) (fs : Nat → Int) (z : Int) (zs : Nat) (o : Int) (os : Nat) : Nat := ckk ns fs z zs o os 10002 0
def cutN (ns : Nat) (fs : Nat → Int) (z : Int) (zs : Nat) (o : Int) (os : Nat) : Nat := min (cutL fs z zs o os (cutK0 ns fs z zs o os)).length 10001
def cutF (ns : Nat) (fs : Nat → Int) (z : Int) (zs : Nat) (o : Int) (os : Nat) (i : Nat) : Int := (cutL fs z zs o os (cutK0 ns fs z zs o os))[i]?.getD 0
theorem ckk_ok {ns : Nat} {fs : Nat → Int} {z o : Int} {zs os : Nat} (hf : ∀ i, i < ns → 0 ≤ fs i) (h1 : 1 ≤ zs) (h2 : 1 ≤ os) : ∀ (j p : Nat), p + j = 10002 → (∀ i, i < p → okc ns fs i) → (∀ i, i < ckk ns fs z zs o os j p → okc ns fs i) ∧ (10001 ≤ (cutL fs z zs o os (ckk ns fs z zs o os j p)).length ∨ ¬ okc ns fs (ckk ns fs z zs o os j p))
  | 0, p, hp, h => ⟨h, Or.inl (by
    have := cutL_len (fs := fs) (z := z) (o := o) h1 h2 p
    show 10001 ≤ (cutL fs z zs o os p).length
    omega)⟩
  | j + 1, p, hp, h => by
    rw [ckk]
    split
    · rename_i g
      refine ckk_ok hf h1 h2 j (p + 1) (by omega) (fun i hi => ?_)
      by_cases e : i = p
      · subst e
        have := hf i g.2.1
        exact ⟨g.2.1, by omega⟩
      · exact h i (by omega)
    · rename_i g
      refine ⟨h, ?_⟩
      by_cases e : 10001 ≤ (cutL fs z zs o os p).length
      · exact Or.inl e
      · right
        intro q
        exact g ⟨by omega, q.1, by have := q.2; omega⟩
theorem cut_of {ns : Nat} {fs : Nat → Int} {z o : Int} {zs os : Nat} (hf : ∀ i, i < ns → 0 ≤ fs i) (h1 : 1 ≤ zs) (h2 : 1 ≤ os) : CutOf ns fs z zs o os (cutN ns fs z zs o os) (cutF ns fs z zs o os) := by
  obtain ⟨q1, q2⟩ := ckk_ok (z := z) (o := o) hf h1 h2 10002 0 (by omega) (fun i hi => by omega)
  refine ⟨cutK0 ns fs z zs o os, q1, ?_, ?_⟩
  · rcases q2 with g | g
    · exact Or.inl ⟨g, Nat.min_eq_right g⟩
    · exact Or.inr ⟨g, rfl⟩
  · intro i hi
    have hl : i < (cutL fs z zs o os (cutK0 ns fs z zs o os)).length := by unfold cutN at hi; omega
    unfold cutF
    rw [List.getElem?_eq_getElem hl]
    rfl
theorem cutF_bd {ns : Nat} {fs : Nat → Int} {z o : Int} {zs os : Nat} (i : Nat) : 0 ≤ cutF ns fs z zs o os i ∧ cutF ns fs z zs o os i ≤ 100 := by
  unfold cutF
  cases h : (cutL fs z zs o os (cutK0 ns fs z zs o os))[i]? with
  | none => exact ⟨by show (0 : Int) ≤ 0; omega, by show (0 : Int) ≤ 100; omega⟩
  | some y =>
    have := cutL_01 h
    show 0 ≤ y ∧ y ≤ 100
    omega
def p_cut (S : ST5) (r z zs o os : Int) : Int × ST5 := match rowq S r with
  | none => (-1, sst S 1)
  | some q => if 1 ≤ zs ∧ zs ≤ 6 ∧ 1 ≤ os ∧ os ≤ 6 ∧ 0 ≤ z ∧ z < 2 ^ zs.toNat ∧ 0 ≤ o ∧ o < 2 ^ os.toNat then
      (if 10 ≤ S.2.1.length then (-1, sst S 2) else ((S.2.1.length : Int), addr S (3, -1, cutN q.2.2.1 q.2.2.2 z zs.toNat o os.toNat, cutF q.2.2.1 q.2.2.2 z zs.toNat o os.toNat)))
    else (-1, sst S 1)
theorem ok_cut {S : ST5} (hS : OK5 S) {r z zs o os : Int} : OK5 (p_cut S r z zs o os).2 := by
  unfold p_cut
  split
  · exact hS.st (by decide) (by decide)
  · split
    · split
      · exact hS.st (by decide) (by decide)
      · refine ok_addr hS (by omega) ⟨(by show (0 : Int) ≤ 3; decide), (by show (3 : Int) ≤ 4; decide), Int.le_refl _, (by show (-1 : Int) < _; omega), Nat.min_le_right _ _, fun i _ => cutF_bd i, (fun h => absurd (show (3 : Int) = 4 from h) (by decide)), (fun h => absurd (show (3 : Int) = 1 from h) (by decide)), fun _ _ => rfl⟩
    · exact hS.st (by decide) (by decide)
theorem sl31 : ∀ k : Nat, k < 7 → (1 : Int32) <<< (iO (k : Int) &&& 31) = iO (2 ^ k) := by decide +kernel
theorem p2_64 : ∀ k : Nat, k < 7 → (2 : Int) ^ k ≤ 64 := by decide
theorem pt_bit32 : ∀ z : Nat, z < 64 → ∀ i : Nat, i < 6 → ((iO (z : Int) >>> (iO (i : Int) &&& 31)) &&& 1 : Int32) = iO (((z : Int) / 2 ^ i) % 2) := by decide +kernel
section MCT
variable {sc : en_S} {d : Nat} {XI : Nat → Int32} {XA : Nat → Nat → Int32} {XP : Nat → Nat → Option Nat} {XC : Value} {MI : Nat → Int32} {ML : Nat → Nat → Int64} {D : en_H}
/-- the model has written the first n of a list -/
def hold (MA : Nat → Nat → Int32) (R : Nat) (W : List Int) (n : Nat) : Prop := ∀ t, t < n → ∃ y, W[t]? = some y ∧ MA 7 (10001 * R + t) = iO y
theorem m_cut_11 {R L x many : Nat} (hR : R < 10) (hMI : MI 1 = iO (R : Nat)) {l : List Int} (hL : l.length = L) (hL2 : L ≤ 10001) (hx : x < 64) (hm : many ≤ 6) {a1 z zs o os : Int32} {p : Nat} (hpp : p ≤ 10002) {s0 : Int32} (hsel : (s0 = 0 ∧ z = iO (x : Int)) ∨ (s0 ≠ 0 ∧ o = iO (x : Int))) : ∀ (j i : Nat) (MA : Nat → Nat → Int32), i + j = many → hold MA R (l ++ cbits x many) (min (L + i) 10001) →
    ∃ MA', b_X12_cut_11 sc (d + 1) 26 a1 z zs o os (iO ((min (L + i) 10001 : Nat) : Int)) (iO (p : Int)) s0 (iO (many : Int)) (iO (i : Int)) (hp XI XA XP XC MI MA ML D) = b_X12_cut_6 sc (d + 1) 26 a1 z zs o os (iO ((min (L + many) 10001 : Nat) : Int)) (iO ((p : Int) + 1)) (hp XI XA XP XC MI MA' ML D) ∧ (∀ m, m ≠ 7 → MA' m = MA m) ∧ (∀ t, t < 10001 * R → MA' 7 t = MA 7 t) ∧ hold MA' R (l ++ cbits x many) (min (L + many) 10001) := by
  intro j
  induction j with
  | zero =>
    intro i MA hi hh
    obtain rfl : i = many := by omega
    refine ⟨MA, ?_, fun _ _ => rfl, fun _ _ => rfl, hh⟩
    rw [eb_X12_cut_11]
    clear hh hsel
    simp (disch := (first | assumption | (unfold i32; omega) | (unfold i64; omega) | omega)) only [↓reduceIte, ki_0, ki_1, ki_2, ki_3, ki_4, ki_5, ki_6, ki_7, ki_8, ki_9, ki_10, ki_11, ki_12, ki_13, ki_14, ki_15, ki_20, ki_21, ki_30, ki_31, ki_40, ki_41, ki_50, ki_51, ki_60, ki_63, ki_64, ki_65, ki_100, ki_158, ki_160, ki_200, ki_212, ki_1000, ki_2000, ki_2001, ki_5000, ki_10000, ki_10001, ki_100000, ki_200000, ki_1000000, ki_2000000, ki_3000000, iO_neg, iO_add, iO_sub, iO_mul, kn_4, kn_8, kn_10, kn_20, kn_24, kn_40, kn_41, kn_50, kn_60, kn_158, kn_160, kn_200, kn_212, kn_2001, tn_lt, fn_lt, tn_le, fn_le, tn_eq, fn_eq, x_lt, x_le, x_eq, x_ix, x_nat, t_lt, f_lt, t_le, f_le, t_eq, f_eq, eq_self, and_self, true_and, and_true, false_and, and_false, if_true, if_false, Int.toNat_natCast, bI_s, bL_s, bA_s, bA_n, bV_s, mq_s, mq_n, en_le, bl_0, bl_1, u_eq, u_ne, w_eq, w_ne, v_eq, v_ne]
  | succ j ih =>
    intro i MA hi hh
    by_cases e : 10001 ≤ L + i
    · have e1 : min (L + i) 10001 = 10001 := by omega
      have e2 : min (L + many) 10001 = 10001 := by omega
      rw [e1] at hh
      rw [e1, e2]
      refine ⟨MA, ?_, fun _ _ => rfl, fun _ _ => rfl, hh⟩
      rw [eb_X12_cut_11]
      clear hh hsel ih
      simp (disch := (first | assumption | (unfold i32; omega) | (unfold i64; omega) | omega)) only [↓reduceIte, ki_0, ki_1, ki_2, ki_3, ki_4, ki_5, ki_6, ki_7, ki_8, ki_9, ki_10, ki_11, ki_12, ki_13, ki_14, ki_15, ki_20, ki_21, ki_30, ki_31, ki_40, ki_41, ki_50, ki_51, ki_60, ki_63, ki_64, ki_65, ki_100, ki_158, ki_160, ki_200, ki_212, ki_1000, ki_2000, ki_2001, ki_5000, ki_10000, ki_10001, ki_100000, ki_200000, ki_1000000, ki_2000000, ki_3000000, iO_neg, iO_add, iO_sub, iO_mul, kn_4, kn_8, kn_10, kn_20, kn_24, kn_40, kn_41, kn_50, kn_60, kn_158, kn_160, kn_200, kn_212, kn_2001, tn_lt, fn_lt, tn_le, fn_le, tn_eq, fn_eq, x_lt, x_le, x_eq, x_ix, x_nat, t_lt, f_lt, t_le, f_le, t_eq, f_eq, eq_self, and_self, true_and, and_true, false_and, and_false, if_true, if_false, Int.toNat_natCast, bI_s, bL_s, bA_s, bA_n, bV_s, mq_s, mq_n, en_le, bl_0, bl_1, u_eq, u_ne, w_eq, w_ne, v_eq, v_ne]
    · have e1 : min (L + i) 10001 = L + i := by omega
      have e3 : min (L + (i + 1)) 10001 = L + i + 1 := by omega
      have hb := pt_bit32 x hx i (by omega)
      rw [e1] at hh
      obtain ⟨MA', f1, f2, f3, f4⟩ := ih (i + 1) (va_up MA 7 (upd (MA 7) (10001 * R + (L + i)) (iO (((x : Int) / 2 ^ i) % 2)))) (by omega) (by
        rw [e3]
        intro t ht
        by_cases g : t = L + i
        · subst g
          refine ⟨((x : Int) / 2 ^ i) % 2, ?_, by rw [w_eq rfl, u_eq rfl]⟩
          rw [List.getElem?_append_right (by omega), hL, show L + i - L = i by omega]
          unfold cbits
          rw [List.getElem?_map, List.getElem?_range (by omega)]
          rfl
        · obtain ⟨y, y1, y2⟩ := hh t (by omega)
          exact ⟨y, y1, by rw [w_eq rfl, u_ne (by omega)]; exact y2⟩)
      refine ⟨MA', ?_, fun m hm => by rw [f2 m hm, w_ne hm], fun t ht => by rw [f3 t ht, w_eq rfl, u_ne (by omega)], f4⟩
      rw [e1, ← f1, e3, eb_X12_cut_11]
      have e5 : (10001 * (R : Int) + ((L + i : Nat) : Int)).toNat = 10001 * R + (L + i) := by omega
      rw [ki_1] at hb
      clear f1 f2 f3 f4 ih hh
      rcases hsel with ⟨g1, g2⟩ | ⟨g1, g2⟩
      · subst g1 g2
        rw [if_neg (nle (a := (many : Int)) (b := (i : Int)) (by unfold i32; omega) (by unfold i32; omega) (by omega)), if_neg (show ¬ 10001 ≤ iO ((L + i : Nat) : Int) from nle (a := 10001) (b := ((L + i : Nat) : Int)) (by unfold i32; omega) (by unfold i32; omega) (by omega)), hp_g_26_10, hp_g_26_1, hMI, en_le, if_pos rfl]
        rw [show ((iO (x : Int) >>> (iO (i : Int) &&& 31)) &&& 1 : Int32) = iO (((x : Int) / 2 ^ i) % 2) from hb]
        simp (disch := (first | assumption | (unfold i32; omega) | (unfold i64; omega) | omega)) only [↓reduceIte, ki_0, ki_1, ki_2, ki_3, ki_4, ki_5, ki_6, ki_7, ki_8, ki_9, ki_10, ki_11, ki_12, ki_13, ki_14, ki_15, ki_20, ki_21, ki_30, ki_31, ki_40, ki_41, ki_50, ki_51, ki_60, ki_63, ki_64, ki_65, ki_100, ki_158, ki_160, ki_200, ki_212, ki_1000, ki_2000, ki_2001, ki_5000, ki_10000, ki_10001, ki_100000, ki_200000, ki_1000000, ki_2000000, ki_3000000, iO_neg, iO_add, iO_sub, iO_mul, kn_4, kn_8, kn_10, kn_20, kn_24, kn_40, kn_41, kn_50, kn_60, kn_158, kn_160, kn_200, kn_212, kn_2001, tn_lt, fn_lt, tn_le, fn_le, tn_eq, fn_eq, x_lt, x_le, x_eq, x_ix, x_nat, t_lt, f_lt, t_le, f_le, t_eq, f_eq, eq_self, and_self, true_and, and_true, false_and, and_false, if_true, if_false, Int.toNat_natCast, bI_s, bL_s, bA_s, bA_n, bV_s, mq_s, mq_n, en_le, bl_0, bl_1, u_eq, u_ne, w_eq, w_ne, v_eq, v_ne, ↓hp_cc_26, ↓hp_g_26_0, ↓hp_p_26_0, ↓hp_g_26_1, ↓hp_p_26_1, ↓hp_g_26_2, ↓hp_p_26_2, ↓hp_g_26_3, ↓hp_g_26_4, ↓hp_g_26_5, ↓hp_g_26_6, ↓hp_g_26_7, ↓hp_g_26_8, ↓hp_g_26_9, ↓hp_g_26_10, ↓hp_g_26_11, ↓hp_g_26_12, ↓hp_g_26_13, ↓hp_g_26_14, ↓hp_g_26_15, ↓hp_p_26_15, ↓hp_g_26_16, ↓hp_g_26_17, ↓hp_g_26_18, ↓hp_p_26_18, ↓hp_g_26_19, ↓hp_p_26_19, ↓hp_g_26_20, ↓hp_g_26_21, ↓hp_p_26_21, ↓hp_g_26_22, ↓hp_g_26_23, ↓hp_g_26_24, ↓hp_g_26_25, ↓hp_g_26_26, ↓hp_g_26_27, ↓hp_g_26_28, ↓hp_g_26_29, ↓hp_g_26_30, ↓hp_p_26_30, ↓hp_g_26_31, ↓hp_g_26_32, ↓hp_p_26_32, ↓hp_a_27, ↓hp_s_27, ↓hp_l_27, ↓hp_a_28, ↓hp_s_28, ↓hp_l_28, ↓hp_a_29, ↓hp_s_29, ↓hp_l_29, ↓hp_a_30, ↓hp_s_30, ↓hp_l_30, ↓hp_a_31, ↓hp_s_31, ↓hp_l_31, ↓hp_a_32, ↓hp_s_32, ↓hp_l_32, ↓hp_a_33, ↓hp_s_33, ↓hp_l_33, ↓hp_a_34, ↓hp_s_34, ↓hp_l_34, ↓hp_a_35, ↓hp_s_35, ↓hp_l_35, ↓hp_a_36, ↓hp_s_36, ↓hp_l_36, ↓hp_a_37, ↓hp_s_37, ↓hp_l_37, ↓hp_a_38, ↓hp_s_38, ↓hp_l_38, ↓hp_a_39, ↓hp_s_39, ↓hp_a_40, ↓hp_s_40, ↓hp_a_41, ↓hp_s_41, ↓hp_l_41, ↓hp_a_42, ↓hp_s_42, ↓hp_l_42, ↓hp_a_43, ↓hp_s_43, ↓hp_l_43, ↓hp_a_44, ↓hp_s_44, ↓hp_l_44, ↓hp_a_45, ↓hp_s_45, ↓hp_l_45, ↓hp_a_46, ↓hp_s_46, ↓hp_l_46, ↓hp_a_47, ↓hp_s_47, ↓hp_l_47, ↓hp_a_48, ↓hp_s_48, ↓hp_l_48, ↓hp_a_49, ↓hp_s_49, ↓hp_l_49, ↓hp_a_50, ↓hp_s_50, ↓hp_l_50, e5]
        try rfl
      · subst g2
        rw [if_neg (nle (a := (many : Int)) (b := (i : Int)) (by unfold i32; omega) (by unfold i32; omega) (by omega)), if_neg (show ¬ 10001 ≤ iO ((L + i : Nat) : Int) from nle (a := 10001) (b := ((L + i : Nat) : Int)) (by unfold i32; omega) (by unfold i32; omega) (by omega)), hp_g_26_10, hp_g_26_1, hMI, en_le, if_neg g1]
        rw [show ((iO (x : Int) >>> (iO (i : Int) &&& 31)) &&& 1 : Int32) = iO (((x : Int) / 2 ^ i) % 2) from hb]
        simp (disch := (first | assumption | (unfold i32; omega) | (unfold i64; omega) | omega)) only [↓reduceIte, ki_0, ki_1, ki_2, ki_3, ki_4, ki_5, ki_6, ki_7, ki_8, ki_9, ki_10, ki_11, ki_12, ki_13, ki_14, ki_15, ki_20, ki_21, ki_30, ki_31, ki_40, ki_41, ki_50, ki_51, ki_60, ki_63, ki_64, ki_65, ki_100, ki_158, ki_160, ki_200, ki_212, ki_1000, ki_2000, ki_2001, ki_5000, ki_10000, ki_10001, ki_100000, ki_200000, ki_1000000, ki_2000000, ki_3000000, iO_neg, iO_add, iO_sub, iO_mul, kn_4, kn_8, kn_10, kn_20, kn_24, kn_40, kn_41, kn_50, kn_60, kn_158, kn_160, kn_200, kn_212, kn_2001, tn_lt, fn_lt, tn_le, fn_le, tn_eq, fn_eq, x_lt, x_le, x_eq, x_ix, x_nat, t_lt, f_lt, t_le, f_le, t_eq, f_eq, eq_self, and_self, true_and, and_true, false_and, and_false, if_true, if_false, Int.toNat_natCast, bI_s, bL_s, bA_s, bA_n, bV_s, mq_s, mq_n, en_le, bl_0, bl_1, u_eq, u_ne, w_eq, w_ne, v_eq, v_ne, ↓hp_cc_26, ↓hp_g_26_0, ↓hp_p_26_0, ↓hp_g_26_1, ↓hp_p_26_1, ↓hp_g_26_2, ↓hp_p_26_2, ↓hp_g_26_3, ↓hp_g_26_4, ↓hp_g_26_5, ↓hp_g_26_6, ↓hp_g_26_7, ↓hp_g_26_8, ↓hp_g_26_9, ↓hp_g_26_10, ↓hp_g_26_11, ↓hp_g_26_12, ↓hp_g_26_13, ↓hp_g_26_14, ↓hp_g_26_15, ↓hp_p_26_15, ↓hp_g_26_16, ↓hp_g_26_17, ↓hp_g_26_18, ↓hp_p_26_18, ↓hp_g_26_19, ↓hp_p_26_19, ↓hp_g_26_20, ↓hp_g_26_21, ↓hp_p_26_21, ↓hp_g_26_22, ↓hp_g_26_23, ↓hp_g_26_24, ↓hp_g_26_25, ↓hp_g_26_26, ↓hp_g_26_27, ↓hp_g_26_28, ↓hp_g_26_29, ↓hp_g_26_30, ↓hp_p_26_30, ↓hp_g_26_31, ↓hp_g_26_32, ↓hp_p_26_32, ↓hp_a_27, ↓hp_s_27, ↓hp_l_27, ↓hp_a_28, ↓hp_s_28, ↓hp_l_28, ↓hp_a_29, ↓hp_s_29, ↓hp_l_29, ↓hp_a_30, ↓hp_s_30, ↓hp_l_30, ↓hp_a_31, ↓hp_s_31, ↓hp_l_31, ↓hp_a_32, ↓hp_s_32, ↓hp_l_32, ↓hp_a_33, ↓hp_s_33, ↓hp_l_33, ↓hp_a_34, ↓hp_s_34, ↓hp_l_34, ↓hp_a_35, ↓hp_s_35, ↓hp_l_35, ↓hp_a_36, ↓hp_s_36, ↓hp_l_36, ↓hp_a_37, ↓hp_s_37, ↓hp_l_37, ↓hp_a_38, ↓hp_s_38, ↓hp_l_38, ↓hp_a_39, ↓hp_s_39, ↓hp_a_40, ↓hp_s_40, ↓hp_a_41, ↓hp_s_41, ↓hp_l_41, ↓hp_a_42, ↓hp_s_42, ↓hp_l_42, ↓hp_a_43, ↓hp_s_43, ↓hp_l_43, ↓hp_a_44, ↓hp_s_44, ↓hp_l_44, ↓hp_a_45, ↓hp_s_45, ↓hp_l_45, ↓hp_a_46, ↓hp_s_46, ↓hp_l_46, ↓hp_a_47, ↓hp_s_47, ↓hp_l_47, ↓hp_a_48, ↓hp_s_48, ↓hp_l_48, ↓hp_a_49, ↓hp_s_49, ↓hp_l_49, ↓hp_a_50, ↓hp_s_50, ↓hp_l_50, e5]
        try rfl
theorem m_cut_6 {R r ns : Nat} (hR : R < 10) (hr : r < R) (hMI : MI 1 = iO (R : Nat)) {fs : Nat → Int} (hns : ns ≤ 10001) (hf : ∀ i, i < ns → 0 ≤ fs i ∧ fs i ≤ 100) {z o zs os : Nat} (hz : z < 64) (ho : o < 64) (hzs : zs ≤ 6) (hos : os ≤ 6) (hzs1 : 1 ≤ zs) (hos1 : 1 ≤ os) : ∀ (j p : Nat) (MA : Nat → Nat → Int32), p + j = 10002 → MA 5 r = iO (ns : Nat) → (∀ i, i < ns → MA 7 (10001 * r + i) = iO (fs i)) → hold MA R (cutL fs z zs o os p) (min (cutL fs z zs o os p).length 10001) →
    ∃ MA', b_X12_cut_6 sc (d + 1) 26 (iO (r : Int)) (iO (z : Int)) (iO (zs : Int)) (iO (o : Int)) (iO (os : Int)) (iO ((min (cutL fs z zs o os p).length 10001 : Nat) : Int)) (iO (p : Int)) (hp XI XA XP XC MI MA ML D) = b_X12_cut_15 sc (d + 1) 26 (iO ((min (cutL fs z zs o os (ckk ns fs z zs o os j p)).length 10001 : Nat) : Int)) (hp XI XA XP XC MI MA' ML D) ∧ (∀ m, m ≠ 7 → MA' m = MA m) ∧ (∀ t, t < 10001 * R → MA' 7 t = MA 7 t) ∧ hold MA' R (cutL fs z zs o os (ckk ns fs z zs o os j p)) (min (cutL fs z zs o os (ckk ns fs z zs o os j p)).length 10001) := by
  intro j
  induction j with
  | zero =>
    intro p MA hpp h5 h7 hh
    have hl := cutL_len (fs := fs) (z := (z : Int)) (o := (o : Int)) hzs1 hos1 p
    refine ⟨MA, ?_, fun _ _ => rfl, fun _ _ => rfl, hh⟩
    rw [eb_X12_cut_6, ckk, if_pos (show 10001 ≤ iO ((min (cutL fs z zs o os p).length 10001 : Nat) : Int) from ple (a := 10001) (b := ((min (cutL fs z zs o os p).length 10001 : Nat) : Int)) (by unfold i32; omega) (by unfold i32; omega) (by omega))]
  | succ j ih =>
    intro p MA hpp h5 h7 hh
    rw [ckk]
    by_cases g : (cutL fs z zs o os p).length < 10001 ∧ p < ns ∧ fs p ≤ 1
    · rw [if_pos g]
      obtain ⟨g1, g2, g3⟩ := g
      obtain ⟨v1, v2⟩ := hf p g2
      have e1 : min (cutL fs z zs o os p).length 10001 = (cutL fs z zs o os p).length := by omega
      have hp7 := h7 p g2
      have e5 : (10001 * (r : Int) + (p : Int)).toNat = 10001 * r + p := by omega
      -- one of the two stretches
      have go : ∀ (x many : Nat) (s0 : Int32), ((s0 = 0 ∧ x = z ∧ many = zs ∧ fs p = 0) ∨ (s0 = 1 ∧ x = o ∧ many = os ∧ fs p = 1)) → ∃ MA', b_X12_cut_11 sc (d + 1) 26 (iO (r : Int)) (iO (z : Int)) (iO (zs : Int)) (iO (o : Int)) (iO (os : Int)) (iO (((cutL fs z zs o os p).length : Nat) : Int)) (iO (p : Int)) s0 (iO (many : Int)) (iO 0) (hp XI XA XP XC MI MA ML D) = b_X12_cut_15 sc (d + 1) 26 (iO ((min (cutL fs z zs o os (ckk ns fs z zs o os j (p + 1))).length 10001 : Nat) : Int)) (hp XI XA XP XC MI MA' ML D) ∧ (∀ m, m ≠ 7 → MA' m = MA m) ∧ (∀ t, t < 10001 * R → MA' 7 t = MA 7 t) ∧ hold MA' R (cutL fs z zs o os (ckk ns fs z zs o os j (p + 1))) (min (cutL fs z zs o os (ckk ns fs z zs o os j (p + 1))).length 10001) := by
        intro x many s0 hs0
        have hW : cutL fs z zs o os (p + 1) = cutL fs z zs o os p ++ cbits x many := by
          rw [cutL]
          rcases hs0 with ⟨-, rfl, rfl, q⟩ | ⟨-, rfl, rfl, q⟩
          · rw [if_pos q]
          · rw [if_neg (by omega)]
        have hmany : many ≤ 6 := by rcases hs0 with ⟨-, -, rfl, -⟩ | ⟨-, -, rfl, -⟩ <;> assumption
        have hx64 : x < 64 := by rcases hs0 with ⟨-, rfl, -⟩ | ⟨-, rfl, -⟩ <;> assumption
        obtain ⟨MA1, f1, f2, f3, f4⟩ := m_cut_11 (sc := sc) (d := d) (XI := XI) (XA := XA) (XP := XP) (XC := XC) (ML := ML) (D := D) hR hMI (l := cutL fs z zs o os p) rfl (by omega) hx64 hmany (a1 := iO (r : Int)) (z := iO (z : Int)) (zs := iO (zs : Int)) (o := iO (o : Int)) (os := iO (os : Int)) (p := p) (by omega) (s0 := s0) (by
          rcases hs0 with ⟨q1, rfl, -⟩ | ⟨q1, rfl, -⟩
          · exact Or.inl ⟨q1, rfl⟩
          · exact Or.inr ⟨by rw [q1]; decide, rfl⟩) many 0 MA (by omega) (by
          rw [Nat.add_zero]
          intro t ht
          obtain ⟨y, y1, y2⟩ := hh t (by omega)
          exact ⟨y, by rw [List.getElem?_append_left (by omega)]; exact y1, y2⟩)
        rw [show (cutL fs z zs o os p).length + 0 = (cutL fs z zs o os p).length from rfl, e1] at f1
        have hlen : (cutL fs z zs o os p).length + many = (cutL fs z zs o os (p + 1)).length := by rw [hW, List.length_append, cbits_len]
        rw [hlen] at f1 f4
        rw [← hW] at f4
        obtain ⟨MA2, k1, k2, k3, k4⟩ := ih (p + 1) MA1 (by omega) (by rw [f2 5 (by decide)]; exact h5) (fun i hi => by rw [f3 _ (by omega)]; exact h7 i hi) f4
        refine ⟨MA2, ?_, fun m hm => by rw [k2 m hm, f2 m hm], fun t ht => by rw [k3 t ht, f3 t ht], k4⟩
        rw [← k1]
        exact f1
      rw [e1]
      by_cases q : fs p = 1
      · obtain ⟨MA', f1, f2⟩ := go o os 1 (Or.inr ⟨rfl, rfl, rfl, q⟩)
        refine ⟨MA', ?_, f2⟩
        rw [← f1, eb_X12_cut_6]
        clear go f1 f2 ih hh h7 hf
        simp (disch := (first | assumption | (unfold i32; omega) | (unfold i64; omega) | omega)) only [↓reduceIte, ki_0, ki_1, ki_2, ki_3, ki_4, ki_5, ki_6, ki_7, ki_8, ki_9, ki_10, ki_11, ki_12, ki_13, ki_14, ki_15, ki_20, ki_21, ki_30, ki_31, ki_40, ki_41, ki_50, ki_51, ki_60, ki_63, ki_64, ki_65, ki_100, ki_158, ki_160, ki_200, ki_212, ki_1000, ki_2000, ki_2001, ki_5000, ki_10000, ki_10001, ki_100000, ki_200000, ki_1000000, ki_2000000, ki_3000000, iO_neg, iO_add, iO_sub, iO_mul, kn_4, kn_8, kn_10, kn_20, kn_24, kn_40, kn_41, kn_50, kn_60, kn_158, kn_160, kn_200, kn_212, kn_2001, tn_lt, fn_lt, tn_le, fn_le, tn_eq, fn_eq, x_lt, x_le, x_eq, x_ix, x_nat, t_lt, f_lt, t_le, f_le, t_eq, f_eq, eq_self, and_self, true_and, and_true, false_and, and_false, if_true, if_false, Int.toNat_natCast, bI_s, bL_s, bA_s, bA_n, bV_s, mq_s, mq_n, en_le, bl_0, bl_1, u_eq, u_ne, w_eq, w_ne, v_eq, v_ne, ↓hp_cc_26, ↓hp_g_26_0, ↓hp_p_26_0, ↓hp_g_26_1, ↓hp_p_26_1, ↓hp_g_26_2, ↓hp_p_26_2, ↓hp_g_26_3, ↓hp_g_26_4, ↓hp_g_26_5, ↓hp_g_26_6, ↓hp_g_26_7, ↓hp_g_26_8, ↓hp_g_26_9, ↓hp_g_26_10, ↓hp_g_26_11, ↓hp_g_26_12, ↓hp_g_26_13, ↓hp_g_26_14, ↓hp_g_26_15, ↓hp_p_26_15, ↓hp_g_26_16, ↓hp_g_26_17, ↓hp_g_26_18, ↓hp_p_26_18, ↓hp_g_26_19, ↓hp_p_26_19, ↓hp_g_26_20, ↓hp_g_26_21, ↓hp_p_26_21, ↓hp_g_26_22, ↓hp_g_26_23, ↓hp_g_26_24, ↓hp_g_26_25, ↓hp_g_26_26, ↓hp_g_26_27, ↓hp_g_26_28, ↓hp_g_26_29, ↓hp_g_26_30, ↓hp_p_26_30, ↓hp_g_26_31, ↓hp_g_26_32, ↓hp_p_26_32, ↓hp_a_27, ↓hp_s_27, ↓hp_l_27, ↓hp_a_28, ↓hp_s_28, ↓hp_l_28, ↓hp_a_29, ↓hp_s_29, ↓hp_l_29, ↓hp_a_30, ↓hp_s_30, ↓hp_l_30, ↓hp_a_31, ↓hp_s_31, ↓hp_l_31, ↓hp_a_32, ↓hp_s_32, ↓hp_l_32, ↓hp_a_33, ↓hp_s_33, ↓hp_l_33, ↓hp_a_34, ↓hp_s_34, ↓hp_l_34, ↓hp_a_35, ↓hp_s_35, ↓hp_l_35, ↓hp_a_36, ↓hp_s_36, ↓hp_l_36, ↓hp_a_37, ↓hp_s_37, ↓hp_l_37, ↓hp_a_38, ↓hp_s_38, ↓hp_l_38, ↓hp_a_39, ↓hp_s_39, ↓hp_a_40, ↓hp_s_40, ↓hp_a_41, ↓hp_s_41, ↓hp_l_41, ↓hp_a_42, ↓hp_s_42, ↓hp_l_42, ↓hp_a_43, ↓hp_s_43, ↓hp_l_43, ↓hp_a_44, ↓hp_s_44, ↓hp_l_44, ↓hp_a_45, ↓hp_s_45, ↓hp_l_45, ↓hp_a_46, ↓hp_s_46, ↓hp_l_46, ↓hp_a_47, ↓hp_s_47, ↓hp_l_47, ↓hp_a_48, ↓hp_s_48, ↓hp_l_48, ↓hp_a_49, ↓hp_s_49, ↓hp_l_49, ↓hp_a_50, ↓hp_s_50, ↓hp_l_50, h5, e5, hp7, eb_X12_cut_8]
        try rfl
      · have q : fs p = 0 := by omega
        obtain ⟨MA', f1, f2⟩ := go z zs 0 (Or.inl ⟨rfl, rfl, rfl, q⟩)
        refine ⟨MA', ?_, f2⟩
        rw [← f1, eb_X12_cut_6]
        clear go f1 f2 ih hh h7 hf
        simp (disch := (first | assumption | (unfold i32; omega) | (unfold i64; omega) | omega)) only [↓reduceIte, ki_0, ki_1, ki_2, ki_3, ki_4, ki_5, ki_6, ki_7, ki_8, ki_9, ki_10, ki_11, ki_12, ki_13, ki_14, ki_15, ki_20, ki_21, ki_30, ki_31, ki_40, ki_41, ki_50, ki_51, ki_60, ki_63, ki_64, ki_65, ki_100, ki_158, ki_160, ki_200, ki_212, ki_1000, ki_2000, ki_2001, ki_5000, ki_10000, ki_10001, ki_100000, ki_200000, ki_1000000, ki_2000000, ki_3000000, iO_neg, iO_add, iO_sub, iO_mul, kn_4, kn_8, kn_10, kn_20, kn_24, kn_40, kn_41, kn_50, kn_60, kn_158, kn_160, kn_200, kn_212, kn_2001, tn_lt, fn_lt, tn_le, fn_le, tn_eq, fn_eq, x_lt, x_le, x_eq, x_ix, x_nat, t_lt, f_lt, t_le, f_le, t_eq, f_eq, eq_self, and_self, true_and, and_true, false_and, and_false, if_true, if_false, Int.toNat_natCast, bI_s, bL_s, bA_s, bA_n, bV_s, mq_s, mq_n, en_le, bl_0, bl_1, u_eq, u_ne, w_eq, w_ne, v_eq, v_ne, ↓hp_cc_26, ↓hp_g_26_0, ↓hp_p_26_0, ↓hp_g_26_1, ↓hp_p_26_1, ↓hp_g_26_2, ↓hp_p_26_2, ↓hp_g_26_3, ↓hp_g_26_4, ↓hp_g_26_5, ↓hp_g_26_6, ↓hp_g_26_7, ↓hp_g_26_8, ↓hp_g_26_9, ↓hp_g_26_10, ↓hp_g_26_11, ↓hp_g_26_12, ↓hp_g_26_13, ↓hp_g_26_14, ↓hp_g_26_15, ↓hp_p_26_15, ↓hp_g_26_16, ↓hp_g_26_17, ↓hp_g_26_18, ↓hp_p_26_18, ↓hp_g_26_19, ↓hp_p_26_19, ↓hp_g_26_20, ↓hp_g_26_21, ↓hp_p_26_21, ↓hp_g_26_22, ↓hp_g_26_23, ↓hp_g_26_24, ↓hp_g_26_25, ↓hp_g_26_26, ↓hp_g_26_27, ↓hp_g_26_28, ↓hp_g_26_29, ↓hp_g_26_30, ↓hp_p_26_30, ↓hp_g_26_31, ↓hp_g_26_32, ↓hp_p_26_32, ↓hp_a_27, ↓hp_s_27, ↓hp_l_27, ↓hp_a_28, ↓hp_s_28, ↓hp_l_28, ↓hp_a_29, ↓hp_s_29, ↓hp_l_29, ↓hp_a_30, ↓hp_s_30, ↓hp_l_30, ↓hp_a_31, ↓hp_s_31, ↓hp_l_31, ↓hp_a_32, ↓hp_s_32, ↓hp_l_32, ↓hp_a_33, ↓hp_s_33, ↓hp_l_33, ↓hp_a_34, ↓hp_s_34, ↓hp_l_34, ↓hp_a_35, ↓hp_s_35, ↓hp_l_35, ↓hp_a_36, ↓hp_s_36, ↓hp_l_36, ↓hp_a_37, ↓hp_s_37, ↓hp_l_37, ↓hp_a_38, ↓hp_s_38, ↓hp_l_38, ↓hp_a_39, ↓hp_s_39, ↓hp_a_40, ↓hp_s_40, ↓hp_a_41, ↓hp_s_41, ↓hp_l_41, ↓hp_a_42, ↓hp_s_42, ↓hp_l_42, ↓hp_a_43, ↓hp_s_43, ↓hp_l_43, ↓hp_a_44, ↓hp_s_44, ↓hp_l_44, ↓hp_a_45, ↓hp_s_45, ↓hp_l_45, ↓hp_a_46, ↓hp_s_46, ↓hp_l_46, ↓hp_a_47, ↓hp_s_47, ↓hp_l_47, ↓hp_a_48, ↓hp_s_48, ↓hp_l_48, ↓hp_a_49, ↓hp_s_49, ↓hp_l_49, ↓hp_a_50, ↓hp_s_50, ↓hp_l_50, h5, e5, hp7, eb_X12_cut_8]
        try rfl
    · rw [if_neg g]
      refine ⟨MA, ?_, fun _ _ => rfl, fun _ _ => rfl, hh⟩
      rw [eb_X12_cut_6]
      by_cases g1 : 10001 ≤ (cutL fs z zs o os p).length
      · rw [if_pos (show 10001 ≤ iO ((min (cutL fs z zs o os p).length 10001 : Nat) : Int) from ple (a := 10001) (b := ((min (cutL fs z zs o os p).length 10001 : Nat) : Int)) (by unfold i32; omega) (by unfold i32; omega) (by omega))]
      · have e1 : min (cutL fs z zs o os p).length 10001 = (cutL fs z zs o os p).length := by omega
        rw [e1]
        by_cases g2 : ns ≤ p
        · clear g ih hh h7 hf
          simp (disch := (first | assumption | (unfold i32; omega) | (unfold i64; omega) | omega)) only [↓reduceIte, ki_0, ki_1, ki_2, ki_3, ki_4, ki_5, ki_6, ki_7, ki_8, ki_9, ki_10, ki_11, ki_12, ki_13, ki_14, ki_15, ki_20, ki_21, ki_30, ki_31, ki_40, ki_41, ki_50, ki_51, ki_60, ki_63, ki_64, ki_65, ki_100, ki_158, ki_160, ki_200, ki_212, ki_1000, ki_2000, ki_2001, ki_5000, ki_10000, ki_10001, ki_100000, ki_200000, ki_1000000, ki_2000000, ki_3000000, iO_neg, iO_add, iO_sub, iO_mul, kn_4, kn_8, kn_10, kn_20, kn_24, kn_40, kn_41, kn_50, kn_60, kn_158, kn_160, kn_200, kn_212, kn_2001, tn_lt, fn_lt, tn_le, fn_le, tn_eq, fn_eq, x_lt, x_le, x_eq, x_ix, x_nat, t_lt, f_lt, t_le, f_le, t_eq, f_eq, eq_self, and_self, true_and, and_true, false_and, and_false, if_true, if_false, Int.toNat_natCast, bI_s, bL_s, bA_s, bA_n, bV_s, mq_s, mq_n, en_le, bl_0, bl_1, u_eq, u_ne, w_eq, w_ne, v_eq, v_ne, ↓hp_cc_26, ↓hp_g_26_0, ↓hp_p_26_0, ↓hp_g_26_1, ↓hp_p_26_1, ↓hp_g_26_2, ↓hp_p_26_2, ↓hp_g_26_3, ↓hp_g_26_4, ↓hp_g_26_5, ↓hp_g_26_6, ↓hp_g_26_7, ↓hp_g_26_8, ↓hp_g_26_9, ↓hp_g_26_10, ↓hp_g_26_11, ↓hp_g_26_12, ↓hp_g_26_13, ↓hp_g_26_14, ↓hp_g_26_15, ↓hp_p_26_15, ↓hp_g_26_16, ↓hp_g_26_17, ↓hp_g_26_18, ↓hp_p_26_18, ↓hp_g_26_19, ↓hp_p_26_19, ↓hp_g_26_20, ↓hp_g_26_21, ↓hp_p_26_21, ↓hp_g_26_22, ↓hp_g_26_23, ↓hp_g_26_24, ↓hp_g_26_25, ↓hp_g_26_26, ↓hp_g_26_27, ↓hp_g_26_28, ↓hp_g_26_29, ↓hp_g_26_30, ↓hp_p_26_30, ↓hp_g_26_31, ↓hp_g_26_32, ↓hp_p_26_32, ↓hp_a_27, ↓hp_s_27, ↓hp_l_27, ↓hp_a_28, ↓hp_s_28, ↓hp_l_28, ↓hp_a_29, ↓hp_s_29, ↓hp_l_29, ↓hp_a_30, ↓hp_s_30, ↓hp_l_30, ↓hp_a_31, ↓hp_s_31, ↓hp_l_31, ↓hp_a_32, ↓hp_s_32, ↓hp_l_32, ↓hp_a_33, ↓hp_s_33, ↓hp_l_33, ↓hp_a_34, ↓hp_s_34, ↓hp_l_34, ↓hp_a_35, ↓hp_s_35, ↓hp_l_35, ↓hp_a_36, ↓hp_s_36, ↓hp_l_36, ↓hp_a_37, ↓hp_s_37, ↓hp_l_37, ↓hp_a_38, ↓hp_s_38, ↓hp_l_38, ↓hp_a_39, ↓hp_s_39, ↓hp_a_40, ↓hp_s_40, ↓hp_a_41, ↓hp_s_41, ↓hp_l_41, ↓hp_a_42, ↓hp_s_42, ↓hp_l_42, ↓hp_a_43, ↓hp_s_43, ↓hp_l_43, ↓hp_a_44, ↓hp_s_44, ↓hp_l_44, ↓hp_a_45, ↓hp_s_45, ↓hp_l_45, ↓hp_a_46, ↓hp_s_46, ↓hp_l_46, ↓hp_a_47, ↓hp_s_47, ↓hp_l_47, ↓hp_a_48, ↓hp_s_48, ↓hp_l_48, ↓hp_a_49, ↓hp_s_49, ↓hp_l_49, ↓hp_a_50, ↓hp_s_50, ↓hp_l_50, h5]
        · have g3 : 1 < fs p := by omega
          obtain ⟨v1, v2⟩ := hf p (by omega)
          have hp7 := h7 p (by omega)
          have e5 : (10001 * (r : Int) + (p : Int)).toNat = 10001 * r + p := by omega
          clear g ih hh h7 hf
          simp (disch := (first | assumption | (unfold i32; omega) | (unfold i64; omega) | omega)) only [↓reduceIte, ki_0, ki_1, ki_2, ki_3, ki_4, ki_5, ki_6, ki_7, ki_8, ki_9, ki_10, ki_11, ki_12, ki_13, ki_14, ki_15, ki_20, ki_21, ki_30, ki_31, ki_40, ki_41, ki_50, ki_51, ki_60, ki_63, ki_64, ki_65, ki_100, ki_158, ki_160, ki_200, ki_212, ki_1000, ki_2000, ki_2001, ki_5000, ki_10000, ki_10001, ki_100000, ki_200000, ki_1000000, ki_2000000, ki_3000000, iO_neg, iO_add, iO_sub, iO_mul, kn_4, kn_8, kn_10, kn_20, kn_24, kn_40, kn_41, kn_50, kn_60, kn_158, kn_160, kn_200, kn_212, kn_2001, tn_lt, fn_lt, tn_le, fn_le, tn_eq, fn_eq, x_lt, x_le, x_eq, x_ix, x_nat, t_lt, f_lt, t_le, f_le, t_eq, f_eq, eq_self, and_self, true_and, and_true, false_and, and_false, if_true, if_false, Int.toNat_natCast, bI_s, bL_s, bA_s, bA_n, bV_s, mq_s, mq_n, en_le, bl_0, bl_1, u_eq, u_ne, w_eq, w_ne, v_eq, v_ne, ↓hp_cc_26, ↓hp_g_26_0, ↓hp_p_26_0, ↓hp_g_26_1, ↓hp_p_26_1, ↓hp_g_26_2, ↓hp_p_26_2, ↓hp_g_26_3, ↓hp_g_26_4, ↓hp_g_26_5, ↓hp_g_26_6, ↓hp_g_26_7, ↓hp_g_26_8, ↓hp_g_26_9, ↓hp_g_26_10, ↓hp_g_26_11, ↓hp_g_26_12, ↓hp_g_26_13, ↓hp_g_26_14, ↓hp_g_26_15, ↓hp_p_26_15, ↓hp_g_26_16, ↓hp_g_26_17, ↓hp_g_26_18, ↓hp_p_26_18, ↓hp_g_26_19, ↓hp_p_26_19, ↓hp_g_26_20, ↓hp_g_26_21, ↓hp_p_26_21, ↓hp_g_26_22, ↓hp_g_26_23, ↓hp_g_26_24, ↓hp_g_26_25, ↓hp_g_26_26, ↓hp_g_26_27, ↓hp_g_26_28, ↓hp_g_26_29, ↓hp_g_26_30, ↓hp_p_26_30, ↓hp_g_26_31, ↓hp_g_26_32, ↓hp_p_26_32, ↓hp_a_27, ↓hp_s_27, ↓hp_l_27, ↓hp_a_28, ↓hp_s_28, ↓hp_l_28, ↓hp_a_29, ↓hp_s_29, ↓hp_l_29, ↓hp_a_30, ↓hp_s_30, ↓hp_l_30, ↓hp_a_31, ↓hp_s_31, ↓hp_l_31, ↓hp_a_32, ↓hp_s_32, ↓hp_l_32, ↓hp_a_33, ↓hp_s_33, ↓hp_l_33, ↓hp_a_34, ↓hp_s_34, ↓hp_l_34, ↓hp_a_35, ↓hp_s_35, ↓hp_l_35, ↓hp_a_36, ↓hp_s_36, ↓hp_l_36, ↓hp_a_37, ↓hp_s_37, ↓hp_l_37, ↓hp_a_38, ↓hp_s_38, ↓hp_l_38, ↓hp_a_39, ↓hp_s_39, ↓hp_a_40, ↓hp_s_40, ↓hp_a_41, ↓hp_s_41, ↓hp_l_41, ↓hp_a_42, ↓hp_s_42, ↓hp_l_42, ↓hp_a_43, ↓hp_s_43, ↓hp_l_43, ↓hp_a_44, ↓hp_s_44, ↓hp_l_44, ↓hp_a_45, ↓hp_s_45, ↓hp_l_45, ↓hp_a_46, ↓hp_s_46, ↓hp_l_46, ↓hp_a_47, ↓hp_s_47, ↓hp_l_47, ↓hp_a_48, ↓hp_s_48, ↓hp_l_48, ↓hp_a_49, ↓hp_s_49, ↓hp_l_49, ↓hp_a_50, ↓hp_s_50, ↓hp_l_50, h5, e5, hp7]
end MCT
section CTB
variable {sc : en_S} {n : Nat} {S : ST5}
theorem mc_cut (hS : OK5 S) {r z zs o os : Int} (h1 : i32 r) (h2 : i32 z) (h3 : i32 zs) (h4 : i32 o) (h5 : i32 os) : MC S (p_cut S r z zs o os).2 (p_cut S r z zs o os).1 (fun w => f_X12_cut sc (n + 40) 26 (iO r) (iO z) (iO zs) (iO o) (iO os) w) := by
  obtain ⟨a1, a2⟩ := id h2
  obtain ⟨a3, a4⟩ := id h3
  obtain ⟨a5, a6⟩ := id h4
  obtain ⟨a7, a8⟩ := id h5
  have h10 := hS.2.1
  unfold p_cut
  cases hq : rowq S r with
  | none =>
    apply mc_ref
    intro XI XA XP XC MI MA ML D hV
    have hrn := rowq_none hq
    show f_X12_cut sc (n + 40) 26 (iO r) (iO z) (iO zs) (iO o) (iO os) _ = _
    rw [e_X12_cut, hp_cc_26, if_pos rfl, e_misRow hV hS h1, if_neg (by omega), bI_s, if_pos (show iO 0 = 0 from rfl), hp_cc_26, if_pos rfl, m_refuse]
    rfl
  | some q =>
    obtain ⟨k, rfl, hk, hq2⟩ := rowq_some hq
    have hR := hS.2.2.2.1 q (List.mem_of_getElem? hq2)
    have hsz : q.2.2.1 ≤ 10001 := hR.2.2.2.2.1
    have hva := hR.2.2.2.2.2.1
    have hrow : ∀ (XI : Nat → Int32) (XA : Nat → Nat → Int32) (XP : Nat → Nat → Option Nat) (XC : Value) (MI : Nat → Int32) (MA : Nat → Nat → Int32) (ML : Nat → Nat → Int64) (D : en_H), MV S MI MA → f_X12_isRow sc (n + 39) 26 (iO (k : Int)) (hp XI XA XP XC MI MA ML D) = some (some (.int (iO 1)), hp XI XA XP XC MI MA ML D) := by
      intro XI XA XP XC MI MA ML D hV
      have := e_misRow (sc := sc) (n := n + 37) (XI := XI) (XA := XA) (XP := XP) (XC := XC) (ML := ML) (D0 := D) hV hS (s := (k : Int)) h1
      rw [if_pos (by omega)] at this
      exact this
    dsimp only
    by_cases g : 1 ≤ zs ∧ zs ≤ 6 ∧ 1 ≤ os ∧ os ≤ 6 ∧ 0 ≤ z ∧ z < 2 ^ zs.toNat ∧ 0 ≤ o ∧ o < 2 ^ os.toNat
    · rw [if_pos g]
      obtain ⟨g1, g2, g3, g4, g5, g6, g7, g8⟩ := g
      obtain ⟨y, rfl⟩ : ∃ y : Nat, zs = y := ⟨zs.toNat, by omega⟩
      obtain ⟨v, rfl⟩ : ∃ v : Nat, os = v := ⟨os.toNat, by omega⟩
      rw [Int.toNat_natCast] at g6
      rw [Int.toNat_natCast] at g8
      rw [Int.toNat_natCast, Int.toNat_natCast]
      have e1 := sl31 y (by omega)
      have e2 := sl31 v (by omega)
      have e3 := p2_64 y (by omega)
      have e4 := p2_64 v (by omega)
      rw [ki_1, ki_31] at e1 e2
      obtain ⟨z', rfl⟩ : ∃ z' : Nat, z = z' := ⟨z.toNat, by omega⟩
      obtain ⟨o', rfl⟩ : ∃ o' : Nat, o = o' := ⟨o.toNat, by omega⟩
      generalize hP : (2 : Int) ^ y = P at *
      generalize hQ : (2 : Int) ^ v = Q at *
      by_cases gl : 10 ≤ S.2.1.length
      · rw [if_pos gl]
        apply mc_ref
        intro XI XA XP XC MI MA ML D hV
        have w2 := hV.2.1
        have hr := hrow XI XA XP XC MI MA ML D hV
        show f_X12_cut sc (n + 40) 26 (iO (k : Int)) (iO (z' : Int)) (iO (y : Int)) (iO (o' : Int)) (iO (v : Int)) _ = _
        rw [e_X12_cut]
        clear hV hrow hva
        simp (disch := (first | assumption | (unfold i32; omega) | (unfold i64; omega) | omega)) only [↓reduceIte, ki_0, ki_1, ki_2, ki_3, ki_4, ki_5, ki_6, ki_7, ki_8, ki_9, ki_10, ki_11, ki_12, ki_13, ki_14, ki_15, ki_20, ki_21, ki_30, ki_31, ki_40, ki_41, ki_50, ki_51, ki_60, ki_63, ki_64, ki_65, ki_100, ki_158, ki_160, ki_200, ki_212, ki_1000, ki_2000, ki_2001, ki_5000, ki_10000, ki_10001, ki_100000, ki_200000, ki_1000000, ki_2000000, ki_3000000, iO_neg, iO_add, iO_sub, iO_mul, kn_4, kn_8, kn_10, kn_20, kn_24, kn_40, kn_41, kn_50, kn_60, kn_158, kn_160, kn_200, kn_212, kn_2001, tn_lt, fn_lt, tn_le, fn_le, tn_eq, fn_eq, x_lt, x_le, x_eq, x_ix, x_nat, t_lt, f_lt, t_le, f_le, t_eq, f_eq, eq_self, and_self, true_and, and_true, false_and, and_false, if_true, if_false, Int.toNat_natCast, bI_s, bL_s, bA_s, bA_n, bV_s, mq_s, mq_n, en_le, bl_0, bl_1, u_eq, u_ne, w_eq, w_ne, v_eq, v_ne, ↓hp_cc_26, ↓hp_g_26_0, ↓hp_p_26_0, ↓hp_g_26_1, ↓hp_p_26_1, ↓hp_g_26_2, ↓hp_p_26_2, ↓hp_g_26_3, ↓hp_g_26_4, ↓hp_g_26_5, ↓hp_g_26_6, ↓hp_g_26_7, ↓hp_g_26_8, ↓hp_g_26_9, ↓hp_g_26_10, ↓hp_g_26_11, ↓hp_g_26_12, ↓hp_g_26_13, ↓hp_g_26_14, ↓hp_g_26_15, ↓hp_p_26_15, ↓hp_g_26_16, ↓hp_g_26_17, ↓hp_g_26_18, ↓hp_p_26_18, ↓hp_g_26_19, ↓hp_p_26_19, ↓hp_g_26_20, ↓hp_g_26_21, ↓hp_p_26_21, ↓hp_g_26_22, ↓hp_g_26_23, ↓hp_g_26_24, ↓hp_g_26_25, ↓hp_g_26_26, ↓hp_g_26_27, ↓hp_g_26_28, ↓hp_g_26_29, ↓hp_g_26_30, ↓hp_p_26_30, ↓hp_g_26_31, ↓hp_g_26_32, ↓hp_p_26_32, ↓hp_a_27, ↓hp_s_27, ↓hp_l_27, ↓hp_a_28, ↓hp_s_28, ↓hp_l_28, ↓hp_a_29, ↓hp_s_29, ↓hp_l_29, ↓hp_a_30, ↓hp_s_30, ↓hp_l_30, ↓hp_a_31, ↓hp_s_31, ↓hp_l_31, ↓hp_a_32, ↓hp_s_32, ↓hp_l_32, ↓hp_a_33, ↓hp_s_33, ↓hp_l_33, ↓hp_a_34, ↓hp_s_34, ↓hp_l_34, ↓hp_a_35, ↓hp_s_35, ↓hp_l_35, ↓hp_a_36, ↓hp_s_36, ↓hp_l_36, ↓hp_a_37, ↓hp_s_37, ↓hp_l_37, ↓hp_a_38, ↓hp_s_38, ↓hp_l_38, ↓hp_a_39, ↓hp_s_39, ↓hp_a_40, ↓hp_s_40, ↓hp_a_41, ↓hp_s_41, ↓hp_l_41, ↓hp_a_42, ↓hp_s_42, ↓hp_l_42, ↓hp_a_43, ↓hp_s_43, ↓hp_l_43, ↓hp_a_44, ↓hp_s_44, ↓hp_l_44, ↓hp_a_45, ↓hp_s_45, ↓hp_l_45, ↓hp_a_46, ↓hp_s_46, ↓hp_l_46, ↓hp_a_47, ↓hp_s_47, ↓hp_l_47, ↓hp_a_48, ↓hp_s_48, ↓hp_l_48, ↓hp_a_49, ↓hp_s_49, ↓hp_l_49, ↓hp_a_50, ↓hp_s_50, ↓hp_l_50, hr, e_X12_in, e1, e2, w2, m_refuse]
      · rw [if_neg gl]
        intro XI XA XP XC MI MA ML D hV hP2
        have w2 := hV.2.1
        have hr := hrow XI XA XP XC MI MA ML D hV
        obtain ⟨c1, c2, c3, c4⟩ := hV.2.2.2.2.2.1 k q hq2
        obtain ⟨MA', f1, f2, f3, f4⟩ := m_cut_6 (sc := sc) (d := n + 38) (XI := XI) (XA := XA) (XP := XP) (XC := XC) (ML := ML) (D := D) (R := S.2.1.length) (r := k) (ns := q.2.2.1) (by omega) hk w2 hsz hva (z := z') (o := o') (zs := y) (os := v) (by omega) (by omega) (by omega) (by omega) (by omega) (by omega) 10002 0 MA (by omega) c2 c4 (fun t ht => by
          have : t < min ([] : List Int).length 10001 := ht
          simp at this)
        have f1 : b_X12_cut_6 sc (n + 39) 26 (iO (k : Int)) (iO (z' : Int)) (iO (y : Int)) (iO (o' : Int)) (iO (v : Int)) (iO 0) (iO 0) (hp XI XA XP XC MI MA ML D) = b_X12_cut_15 sc (n + 39) 26 (iO ((cutN q.2.2.1 q.2.2.2 z' y o' v : Nat) : Int)) (hp XI XA XP XC MI MA' ML D) := f1
        have f4 : hold MA' S.2.1.length (cutL q.2.2.2 z' y o' v (cutK0 q.2.2.1 q.2.2.2 z' y o' v)) (cutN q.2.2.1 q.2.2.2 z' y o' v) := f4
        have hN : cutN q.2.2.1 q.2.2.2 z' y o' v ≤ 10001 := Nat.min_le_right _ _
        refine ⟨va_up (va_up MI 1 (iO ((S.2.1.length : Int) + 1))) 2 (iO 0), va_up (va_up (va_up MA' 5 (upd (MA' 5) S.2.1.length (iO ((cutN q.2.2.1 q.2.2.2 z' y o' v : Nat) : Int)))) 4 (upd (MA' 4) S.2.1.length (iO 3))) 6 (upd (MA' 6) S.2.1.length (iO (-1))), ML, ?_, ?_, ?_⟩
        · show f_X12_cut sc (n + 40) 26 (iO (k : Int)) (iO (z' : Int)) (iO (y : Int)) (iO (o' : Int)) (iO (v : Int)) _ = _
          rw [e_X12_cut]
          generalize cutN q.2.2.1 q.2.2.2 z' y o' v = CN at *
          clear hV hrow hva f2 f3 f4 hP2 c4
          simp (disch := (first | assumption | (unfold i32; omega) | (unfold i64; omega) | omega)) only [↓reduceIte, ki_0, ki_1, ki_2, ki_3, ki_4, ki_5, ki_6, ki_7, ki_8, ki_9, ki_10, ki_11, ki_12, ki_13, ki_14, ki_15, ki_20, ki_21, ki_30, ki_31, ki_40, ki_41, ki_50, ki_51, ki_60, ki_63, ki_64, ki_65, ki_100, ki_158, ki_160, ki_200, ki_212, ki_1000, ki_2000, ki_2001, ki_5000, ki_10000, ki_10001, ki_100000, ki_200000, ki_1000000, ki_2000000, ki_3000000, iO_neg, iO_add, iO_sub, iO_mul, kn_4, kn_8, kn_10, kn_20, kn_24, kn_40, kn_41, kn_50, kn_60, kn_158, kn_160, kn_200, kn_212, kn_2001, tn_lt, fn_lt, tn_le, fn_le, tn_eq, fn_eq, x_lt, x_le, x_eq, x_ix, x_nat, t_lt, f_lt, t_le, f_le, t_eq, f_eq, eq_self, and_self, true_and, and_true, false_and, and_false, if_true, if_false, Int.toNat_natCast, bI_s, bL_s, bA_s, bA_n, bV_s, mq_s, mq_n, en_le, bl_0, bl_1, u_eq, u_ne, w_eq, w_ne, v_eq, v_ne, ↓hp_cc_26, ↓hp_g_26_0, ↓hp_p_26_0, ↓hp_g_26_1, ↓hp_p_26_1, ↓hp_g_26_2, ↓hp_p_26_2, ↓hp_g_26_3, ↓hp_g_26_4, ↓hp_g_26_5, ↓hp_g_26_6, ↓hp_g_26_7, ↓hp_g_26_8, ↓hp_g_26_9, ↓hp_g_26_10, ↓hp_g_26_11, ↓hp_g_26_12, ↓hp_g_26_13, ↓hp_g_26_14, ↓hp_g_26_15, ↓hp_p_26_15, ↓hp_g_26_16, ↓hp_g_26_17, ↓hp_g_26_18, ↓hp_p_26_18, ↓hp_g_26_19, ↓hp_p_26_19, ↓hp_g_26_20, ↓hp_g_26_21, ↓hp_p_26_21, ↓hp_g_26_22, ↓hp_g_26_23, ↓hp_g_26_24, ↓hp_g_26_25, ↓hp_g_26_26, ↓hp_g_26_27, ↓hp_g_26_28, ↓hp_g_26_29, ↓hp_g_26_30, ↓hp_p_26_30, ↓hp_g_26_31, ↓hp_g_26_32, ↓hp_p_26_32, ↓hp_a_27, ↓hp_s_27, ↓hp_l_27, ↓hp_a_28, ↓hp_s_28, ↓hp_l_28, ↓hp_a_29, ↓hp_s_29, ↓hp_l_29, ↓hp_a_30, ↓hp_s_30, ↓hp_l_30, ↓hp_a_31, ↓hp_s_31, ↓hp_l_31, ↓hp_a_32, ↓hp_s_32, ↓hp_l_32, ↓hp_a_33, ↓hp_s_33, ↓hp_l_33, ↓hp_a_34, ↓hp_s_34, ↓hp_l_34, ↓hp_a_35, ↓hp_s_35, ↓hp_l_35, ↓hp_a_36, ↓hp_s_36, ↓hp_l_36, ↓hp_a_37, ↓hp_s_37, ↓hp_l_37, ↓hp_a_38, ↓hp_s_38, ↓hp_l_38, ↓hp_a_39, ↓hp_s_39, ↓hp_a_40, ↓hp_s_40, ↓hp_a_41, ↓hp_s_41, ↓hp_l_41, ↓hp_a_42, ↓hp_s_42, ↓hp_l_42, ↓hp_a_43, ↓hp_s_43, ↓hp_l_43, ↓hp_a_44, ↓hp_s_44, ↓hp_l_44, ↓hp_a_45, ↓hp_s_45, ↓hp_l_45, ↓hp_a_46, ↓hp_s_46, ↓hp_l_46, ↓hp_a_47, ↓hp_s_47, ↓hp_l_47, ↓hp_a_48, ↓hp_s_48, ↓hp_l_48, ↓hp_a_49, ↓hp_s_49, ↓hp_l_49, ↓hp_a_50, ↓hp_s_50, ↓hp_l_50, hr, e_X12_in, e1, e2, w2, f1, eb_X12_cut_15, m_done]
        · refine mv_add hS hV ?_ ?_ ?_ ?_ ?_ ?_
          · show upd (MA' 4) S.2.1.length (iO 3) = upd (MA 4) S.2.1.length (iO 3)
            rw [f2 4 (by decide)]
          · show upd (MA' 5) S.2.1.length _ = upd (MA 5) S.2.1.length _
            rw [f2 5 (by decide)]
          · show upd (MA' 6) S.2.1.length (iO (-1)) = upd (MA 6) S.2.1.length (iO (-1))
            rw [f2 6 (by decide)]
          · intro t t4 t5 t6 t7
            rw [w_ne t6, w_ne t4, w_ne t5, f2 t t7]
          · intro i hi
            exact f3 i hi
          · intro i hi
            obtain ⟨yy, y1, y2⟩ := f4 i hi
            show MA' 7 _ = _
            rw [y2]
            unfold cutF
            rw [y1]
            rfl
        · exact pv_of hP2 rfl (f2 21 (by decide))
    · rw [if_neg g]
      apply mc_ref
      intro XI XA XP XC MI MA ML D hV
      have hr := hrow XI XA XP XC MI MA ML D hV
      show f_X12_cut sc (n + 40) 26 (iO (k : Int)) (iO z) (iO zs) (iO o) (iO os) _ = _
      rw [e_X12_cut]
      clear hV hrow hva
      by_cases t1 : zs < 1
      · clear g; simp (disch := (first | assumption | (unfold i32; omega) | (unfold i64; omega) | omega)) only [↓reduceIte, ki_0, ki_1, ki_2, ki_3, ki_4, ki_5, ki_6, ki_7, ki_8, ki_9, ki_10, ki_11, ki_12, ki_13, ki_14, ki_15, ki_20, ki_21, ki_30, ki_31, ki_40, ki_41, ki_50, ki_51, ki_60, ki_63, ki_64, ki_65, ki_100, ki_158, ki_160, ki_200, ki_212, ki_1000, ki_2000, ki_2001, ki_5000, ki_10000, ki_10001, ki_100000, ki_200000, ki_1000000, ki_2000000, ki_3000000, iO_neg, iO_add, iO_sub, iO_mul, kn_4, kn_8, kn_10, kn_20, kn_24, kn_40, kn_41, kn_50, kn_60, kn_158, kn_160, kn_200, kn_212, kn_2001, tn_lt, fn_lt, tn_le, fn_le, tn_eq, fn_eq, x_lt, x_le, x_eq, x_ix, x_nat, t_lt, f_lt, t_le, f_le, t_eq, f_eq, eq_self, and_self, true_and, and_true, false_and, and_false, if_true, if_false, Int.toNat_natCast, bI_s, bL_s, bA_s, bA_n, bV_s, mq_s, mq_n, en_le, bl_0, bl_1, u_eq, u_ne, w_eq, w_ne, v_eq, v_ne, ↓hp_cc_26, ↓hp_g_26_0, ↓hp_p_26_0, ↓hp_g_26_1, ↓hp_p_26_1, ↓hp_g_26_2, ↓hp_p_26_2, ↓hp_g_26_3, ↓hp_g_26_4, ↓hp_g_26_5, ↓hp_g_26_6, ↓hp_g_26_7, ↓hp_g_26_8, ↓hp_g_26_9, ↓hp_g_26_10, ↓hp_g_26_11, ↓hp_g_26_12, ↓hp_g_26_13, ↓hp_g_26_14, ↓hp_g_26_15, ↓hp_p_26_15, ↓hp_g_26_16, ↓hp_g_26_17, ↓hp_g_26_18, ↓hp_p_26_18, ↓hp_g_26_19, ↓hp_p_26_19, ↓hp_g_26_20, ↓hp_g_26_21, ↓hp_p_26_21, ↓hp_g_26_22, ↓hp_g_26_23, ↓hp_g_26_24, ↓hp_g_26_25, ↓hp_g_26_26, ↓hp_g_26_27, ↓hp_g_26_28, ↓hp_g_26_29, ↓hp_g_26_30, ↓hp_p_26_30, ↓hp_g_26_31, ↓hp_g_26_32, ↓hp_p_26_32, ↓hp_a_27, ↓hp_s_27, ↓hp_l_27, ↓hp_a_28, ↓hp_s_28, ↓hp_l_28, ↓hp_a_29, ↓hp_s_29, ↓hp_l_29, ↓hp_a_30, ↓hp_s_30, ↓hp_l_30, ↓hp_a_31, ↓hp_s_31, ↓hp_l_31, ↓hp_a_32, ↓hp_s_32, ↓hp_l_32, ↓hp_a_33, ↓hp_s_33, ↓hp_l_33, ↓hp_a_34, ↓hp_s_34, ↓hp_l_34, ↓hp_a_35, ↓hp_s_35, ↓hp_l_35, ↓hp_a_36, ↓hp_s_36, ↓hp_l_36, ↓hp_a_37, ↓hp_s_37, ↓hp_l_37, ↓hp_a_38, ↓hp_s_38, ↓hp_l_38, ↓hp_a_39, ↓hp_s_39, ↓hp_a_40, ↓hp_s_40, ↓hp_a_41, ↓hp_s_41, ↓hp_l_41, ↓hp_a_42, ↓hp_s_42, ↓hp_l_42, ↓hp_a_43, ↓hp_s_43, ↓hp_l_43, ↓hp_a_44, ↓hp_s_44, ↓hp_l_44, ↓hp_a_45, ↓hp_s_45, ↓hp_l_45, ↓hp_a_46, ↓hp_s_46, ↓hp_l_46, ↓hp_a_47, ↓hp_s_47, ↓hp_l_47, ↓hp_a_48, ↓hp_s_48, ↓hp_l_48, ↓hp_a_49, ↓hp_s_49, ↓hp_l_49, ↓hp_a_50, ↓hp_s_50, ↓hp_l_50, hr, e_X12_in, m_refuse]
      by_cases t2 : 6 < zs
      · clear g; simp (disch := (first | assumption | (unfold i32; omega) | (unfold i64; omega) | omega)) only [↓reduceIte, ki_0, ki_1, ki_2, ki_3, ki_4, ki_5, ki_6, ki_7, ki_8, ki_9, ki_10, ki_11, ki_12, ki_13, ki_14, ki_15, ki_20, ki_21, ki_30, ki_31, ki_40, ki_41, ki_50, ki_51, ki_60, ki_63, ki_64, ki_65, ki_100, ki_158, ki_160, ki_200, ki_212, ki_1000, ki_2000, ki_2001, ki_5000, ki_10000, ki_10001, ki_100000, ki_200000, ki_1000000, ki_2000000, ki_3000000, iO_neg, iO_add, iO_sub, iO_mul, kn_4, kn_8, kn_10, kn_20, kn_24, kn_40, kn_41, kn_50, kn_60, kn_158, kn_160, kn_200, kn_212, kn_2001, tn_lt, fn_lt, tn_le, fn_le, tn_eq, fn_eq, x_lt, x_le, x_eq, x_ix, x_nat, t_lt, f_lt, t_le, f_le, t_eq, f_eq, eq_self, and_self, true_and, and_true, false_and, and_false, if_true, if_false, Int.toNat_natCast, bI_s, bL_s, bA_s, bA_n, bV_s, mq_s, mq_n, en_le, bl_0, bl_1, u_eq, u_ne, w_eq, w_ne, v_eq, v_ne, ↓hp_cc_26, ↓hp_g_26_0, ↓hp_p_26_0, ↓hp_g_26_1, ↓hp_p_26_1, ↓hp_g_26_2, ↓hp_p_26_2, ↓hp_g_26_3, ↓hp_g_26_4, ↓hp_g_26_5, ↓hp_g_26_6, ↓hp_g_26_7, ↓hp_g_26_8, ↓hp_g_26_9, ↓hp_g_26_10, ↓hp_g_26_11, ↓hp_g_26_12, ↓hp_g_26_13, ↓hp_g_26_14, ↓hp_g_26_15, ↓hp_p_26_15, ↓hp_g_26_16, ↓hp_g_26_17, ↓hp_g_26_18, ↓hp_p_26_18, ↓hp_g_26_19, ↓hp_p_26_19, ↓hp_g_26_20, ↓hp_g_26_21, ↓hp_p_26_21, ↓hp_g_26_22, ↓hp_g_26_23, ↓hp_g_26_24, ↓hp_g_26_25, ↓hp_g_26_26, ↓hp_g_26_27, ↓hp_g_26_28, ↓hp_g_26_29, ↓hp_g_26_30, ↓hp_p_26_30, ↓hp_g_26_31, ↓hp_g_26_32, ↓hp_p_26_32, ↓hp_a_27, ↓hp_s_27, ↓hp_l_27, ↓hp_a_28, ↓hp_s_28, ↓hp_l_28, ↓hp_a_29, ↓hp_s_29, ↓hp_l_29, ↓hp_a_30, ↓hp_s_30, ↓hp_l_30, ↓hp_a_31, ↓hp_s_31, ↓hp_l_31, ↓hp_a_32, ↓hp_s_32, ↓hp_l_32, ↓hp_a_33, ↓hp_s_33, ↓hp_l_33, ↓hp_a_34, ↓hp_s_34, ↓hp_l_34, ↓hp_a_35, ↓hp_s_35, ↓hp_l_35, ↓hp_a_36, ↓hp_s_36, ↓hp_l_36, ↓hp_a_37, ↓hp_s_37, ↓hp_l_37, ↓hp_a_38, ↓hp_s_38, ↓hp_l_38, ↓hp_a_39, ↓hp_s_39, ↓hp_a_40, ↓hp_s_40, ↓hp_a_41, ↓hp_s_41, ↓hp_l_41, ↓hp_a_42, ↓hp_s_42, ↓hp_l_42, ↓hp_a_43, ↓hp_s_43, ↓hp_l_43, ↓hp_a_44, ↓hp_s_44, ↓hp_l_44, ↓hp_a_45, ↓hp_s_45, ↓hp_l_45, ↓hp_a_46, ↓hp_s_46, ↓hp_l_46, ↓hp_a_47, ↓hp_s_47, ↓hp_l_47, ↓hp_a_48, ↓hp_s_48, ↓hp_l_48, ↓hp_a_49, ↓hp_s_49, ↓hp_l_49, ↓hp_a_50, ↓hp_s_50, ↓hp_l_50, hr, e_X12_in, m_refuse]
      by_cases t3 : os < 1
      · clear g; simp (disch := (first | assumption | (unfold i32; omega) | (unfold i64; omega) | omega)) only [↓reduceIte, ki_0, ki_1, ki_2, ki_3, ki_4, ki_5, ki_6, ki_7, ki_8, ki_9, ki_10, ki_11, ki_12, ki_13, ki_14, ki_15, ki_20, ki_21, ki_30, ki_31, ki_40, ki_41, ki_50, ki_51, ki_60, ki_63, ki_64, ki_65, ki_100, ki_158, ki_160, ki_200, ki_212, ki_1000, ki_2000, ki_2001, ki_5000, ki_10000, ki_10001, ki_100000, ki_200000, ki_1000000, ki_2000000, ki_3000000, iO_neg, iO_add, iO_sub, iO_mul, kn_4, kn_8, kn_10, kn_20, kn_24, kn_40, kn_41, kn_50, kn_60, kn_158, kn_160, kn_200, kn_212, kn_2001, tn_lt, fn_lt, tn_le, fn_le, tn_eq, fn_eq, x_lt, x_le, x_eq, x_ix, x_nat, t_lt, f_lt, t_le, f_le, t_eq, f_eq, eq_self, and_self, true_and, and_true, false_and, and_false, if_true, if_false, Int.toNat_natCast, bI_s, bL_s, bA_s, bA_n, bV_s, mq_s, mq_n, en_le, bl_0, bl_1, u_eq, u_ne, w_eq, w_ne, v_eq, v_ne, ↓hp_cc_26, ↓hp_g_26_0, ↓hp_p_26_0, ↓hp_g_26_1, ↓hp_p_26_1, ↓hp_g_26_2, ↓hp_p_26_2, ↓hp_g_26_3, ↓hp_g_26_4, ↓hp_g_26_5, ↓hp_g_26_6, ↓hp_g_26_7, ↓hp_g_26_8, ↓hp_g_26_9, ↓hp_g_26_10, ↓hp_g_26_11, ↓hp_g_26_12, ↓hp_g_26_13, ↓hp_g_26_14, ↓hp_g_26_15, ↓hp_p_26_15, ↓hp_g_26_16, ↓hp_g_26_17, ↓hp_g_26_18, ↓hp_p_26_18, ↓hp_g_26_19, ↓hp_p_26_19, ↓hp_g_26_20, ↓hp_g_26_21, ↓hp_p_26_21, ↓hp_g_26_22, ↓hp_g_26_23, ↓hp_g_26_24, ↓hp_g_26_25, ↓hp_g_26_26, ↓hp_g_26_27, ↓hp_g_26_28, ↓hp_g_26_29, ↓hp_g_26_30, ↓hp_p_26_30, ↓hp_g_26_31, ↓hp_g_26_32, ↓hp_p_26_32, ↓hp_a_27, ↓hp_s_27, ↓hp_l_27, ↓hp_a_28, ↓hp_s_28, ↓hp_l_28, ↓hp_a_29, ↓hp_s_29, ↓hp_l_29, ↓hp_a_30, ↓hp_s_30, ↓hp_l_30, ↓hp_a_31, ↓hp_s_31, ↓hp_l_31, ↓hp_a_32, ↓hp_s_32, ↓hp_l_32, ↓hp_a_33, ↓hp_s_33, ↓hp_l_33, ↓hp_a_34, ↓hp_s_34, ↓hp_l_34, ↓hp_a_35, ↓hp_s_35, ↓hp_l_35, ↓hp_a_36, ↓hp_s_36, ↓hp_l_36, ↓hp_a_37, ↓hp_s_37, ↓hp_l_37, ↓hp_a_38, ↓hp_s_38, ↓hp_l_38, ↓hp_a_39, ↓hp_s_39, ↓hp_a_40, ↓hp_s_40, ↓hp_a_41, ↓hp_s_41, ↓hp_l_41, ↓hp_a_42, ↓hp_s_42, ↓hp_l_42, ↓hp_a_43, ↓hp_s_43, ↓hp_l_43, ↓hp_a_44, ↓hp_s_44, ↓hp_l_44, ↓hp_a_45, ↓hp_s_45, ↓hp_l_45, ↓hp_a_46, ↓hp_s_46, ↓hp_l_46, ↓hp_a_47, ↓hp_s_47, ↓hp_l_47, ↓hp_a_48, ↓hp_s_48, ↓hp_l_48, ↓hp_a_49, ↓hp_s_49, ↓hp_l_49, ↓hp_a_50, ↓hp_s_50, ↓hp_l_50, hr, e_X12_in, m_refuse]
      by_cases t4 : 6 < os
      · clear g; simp (disch := (first | assumption | (unfold i32; omega) | (unfold i64; omega) | omega)) only [↓reduceIte, ki_0, ki_1, ki_2, ki_3, ki_4, ki_5, ki_6, ki_7, ki_8, ki_9, ki_10, ki_11, ki_12, ki_13, ki_14, ki_15, ki_20, ki_21, ki_30, ki_31, ki_40, ki_41, ki_50, ki_51, ki_60, ki_63, ki_64, ki_65, ki_100, ki_158, ki_160, ki_200, ki_212, ki_1000, ki_2000, ki_2001, ki_5000, ki_10000, ki_10001, ki_100000, ki_200000, ki_1000000, ki_2000000, ki_3000000, iO_neg, iO_add, iO_sub, iO_mul, kn_4, kn_8, kn_10, kn_20, kn_24, kn_40, kn_41, kn_50, kn_60, kn_158, kn_160, kn_200, kn_212, kn_2001, tn_lt, fn_lt, tn_le, fn_le, tn_eq, fn_eq, x_lt, x_le, x_eq, x_ix, x_nat, t_lt, f_lt, t_le, f_le, t_eq, f_eq, eq_self, and_self, true_and, and_true, false_and, and_false, if_true, if_false, Int.toNat_natCast, bI_s, bL_s, bA_s, bA_n, bV_s, mq_s, mq_n, en_le, bl_0, bl_1, u_eq, u_ne, w_eq, w_ne, v_eq, v_ne, ↓hp_cc_26, ↓hp_g_26_0, ↓hp_p_26_0, ↓hp_g_26_1, ↓hp_p_26_1, ↓hp_g_26_2, ↓hp_p_26_2, ↓hp_g_26_3, ↓hp_g_26_4, ↓hp_g_26_5, ↓hp_g_26_6, ↓hp_g_26_7, ↓hp_g_26_8, ↓hp_g_26_9, ↓hp_g_26_10, ↓hp_g_26_11, ↓hp_g_26_12, ↓hp_g_26_13, ↓hp_g_26_14, ↓hp_g_26_15, ↓hp_p_26_15, ↓hp_g_26_16, ↓hp_g_26_17, ↓hp_g_26_18, ↓hp_p_26_18, ↓hp_g_26_19, ↓hp_p_26_19, ↓hp_g_26_20, ↓hp_g_26_21, ↓hp_p_26_21, ↓hp_g_26_22, ↓hp_g_26_23, ↓hp_g_26_24, ↓hp_g_26_25, ↓hp_g_26_26, ↓hp_g_26_27, ↓hp_g_26_28, ↓hp_g_26_29, ↓hp_g_26_30, ↓hp_p_26_30, ↓hp_g_26_31, ↓hp_g_26_32, ↓hp_p_26_32, ↓hp_a_27, ↓hp_s_27, ↓hp_l_27, ↓hp_a_28, ↓hp_s_28, ↓hp_l_28, ↓hp_a_29, ↓hp_s_29, ↓hp_l_29, ↓hp_a_30, ↓hp_s_30, ↓hp_l_30, ↓hp_a_31, ↓hp_s_31, ↓hp_l_31, ↓hp_a_32, ↓hp_s_32, ↓hp_l_32, ↓hp_a_33, ↓hp_s_33, ↓hp_l_33, ↓hp_a_34, ↓hp_s_34, ↓hp_l_34, ↓hp_a_35, ↓hp_s_35, ↓hp_l_35, ↓hp_a_36, ↓hp_s_36, ↓hp_l_36, ↓hp_a_37, ↓hp_s_37, ↓hp_l_37, ↓hp_a_38, ↓hp_s_38, ↓hp_l_38, ↓hp_a_39, ↓hp_s_39, ↓hp_a_40, ↓hp_s_40, ↓hp_a_41, ↓hp_s_41, ↓hp_l_41, ↓hp_a_42, ↓hp_s_42, ↓hp_l_42, ↓hp_a_43, ↓hp_s_43, ↓hp_l_43, ↓hp_a_44, ↓hp_s_44, ↓hp_l_44, ↓hp_a_45, ↓hp_s_45, ↓hp_l_45, ↓hp_a_46, ↓hp_s_46, ↓hp_l_46, ↓hp_a_47, ↓hp_s_47, ↓hp_l_47, ↓hp_a_48, ↓hp_s_48, ↓hp_l_48, ↓hp_a_49, ↓hp_s_49, ↓hp_l_49, ↓hp_a_50, ↓hp_s_50, ↓hp_l_50, hr, e_X12_in, m_refuse]
      obtain ⟨y, rfl⟩ : ∃ y : Nat, zs = y := ⟨zs.toNat, by omega⟩
      obtain ⟨v, rfl⟩ : ∃ v : Nat, os = v := ⟨os.toNat, by omega⟩
      rw [Int.toNat_natCast, Int.toNat_natCast] at g
      have e1 := sl31 y (by omega)
      have e2 := sl31 v (by omega)
      have e3 := p2_64 y (by omega)
      have e4 := p2_64 v (by omega)
      have e5 : (0 : Int) < 2 ^ y := Int.pow_pos (by decide)
      have e6 : (0 : Int) < 2 ^ v := Int.pow_pos (by decide)
      rw [ki_1, ki_31] at e1 e2
      generalize hP : (2 : Int) ^ y = P at *
      generalize hQ : (2 : Int) ^ v = Q at *
      by_cases t5 : z < 0
      · clear g; simp (disch := (first | assumption | (unfold i32; omega) | (unfold i64; omega) | omega)) only [↓reduceIte, ki_0, ki_1, ki_2, ki_3, ki_4, ki_5, ki_6, ki_7, ki_8, ki_9, ki_10, ki_11, ki_12, ki_13, ki_14, ki_15, ki_20, ki_21, ki_30, ki_31, ki_40, ki_41, ki_50, ki_51, ki_60, ki_63, ki_64, ki_65, ki_100, ki_158, ki_160, ki_200, ki_212, ki_1000, ki_2000, ki_2001, ki_5000, ki_10000, ki_10001, ki_100000, ki_200000, ki_1000000, ki_2000000, ki_3000000, iO_neg, iO_add, iO_sub, iO_mul, kn_4, kn_8, kn_10, kn_20, kn_24, kn_40, kn_41, kn_50, kn_60, kn_158, kn_160, kn_200, kn_212, kn_2001, tn_lt, fn_lt, tn_le, fn_le, tn_eq, fn_eq, x_lt, x_le, x_eq, x_ix, x_nat, t_lt, f_lt, t_le, f_le, t_eq, f_eq, eq_self, and_self, true_and, and_true, false_and, and_false, if_true, if_false, Int.toNat_natCast, bI_s, bL_s, bA_s, bA_n, bV_s, mq_s, mq_n, en_le, bl_0, bl_1, u_eq, u_ne, w_eq, w_ne, v_eq, v_ne, ↓hp_cc_26, ↓hp_g_26_0, ↓hp_p_26_0, ↓hp_g_26_1, ↓hp_p_26_1, ↓hp_g_26_2, ↓hp_p_26_2, ↓hp_g_26_3, ↓hp_g_26_4, ↓hp_g_26_5, ↓hp_g_26_6, ↓hp_g_26_7, ↓hp_g_26_8, ↓hp_g_26_9, ↓hp_g_26_10, ↓hp_g_26_11, ↓hp_g_26_12, ↓hp_g_26_13, ↓hp_g_26_14, ↓hp_g_26_15, ↓hp_p_26_15, ↓hp_g_26_16, ↓hp_g_26_17, ↓hp_g_26_18, ↓hp_p_26_18, ↓hp_g_26_19, ↓hp_p_26_19, ↓hp_g_26_20, ↓hp_g_26_21, ↓hp_p_26_21, ↓hp_g_26_22, ↓hp_g_26_23, ↓hp_g_26_24, ↓hp_g_26_25, ↓hp_g_26_26, ↓hp_g_26_27, ↓hp_g_26_28, ↓hp_g_26_29, ↓hp_g_26_30, ↓hp_p_26_30, ↓hp_g_26_31, ↓hp_g_26_32, ↓hp_p_26_32, ↓hp_a_27, ↓hp_s_27, ↓hp_l_27, ↓hp_a_28, ↓hp_s_28, ↓hp_l_28, ↓hp_a_29, ↓hp_s_29, ↓hp_l_29, ↓hp_a_30, ↓hp_s_30, ↓hp_l_30, ↓hp_a_31, ↓hp_s_31, ↓hp_l_31, ↓hp_a_32, ↓hp_s_32, ↓hp_l_32, ↓hp_a_33, ↓hp_s_33, ↓hp_l_33, ↓hp_a_34, ↓hp_s_34, ↓hp_l_34, ↓hp_a_35, ↓hp_s_35, ↓hp_l_35, ↓hp_a_36, ↓hp_s_36, ↓hp_l_36, ↓hp_a_37, ↓hp_s_37, ↓hp_l_37, ↓hp_a_38, ↓hp_s_38, ↓hp_l_38, ↓hp_a_39, ↓hp_s_39, ↓hp_a_40, ↓hp_s_40, ↓hp_a_41, ↓hp_s_41, ↓hp_l_41, ↓hp_a_42, ↓hp_s_42, ↓hp_l_42, ↓hp_a_43, ↓hp_s_43, ↓hp_l_43, ↓hp_a_44, ↓hp_s_44, ↓hp_l_44, ↓hp_a_45, ↓hp_s_45, ↓hp_l_45, ↓hp_a_46, ↓hp_s_46, ↓hp_l_46, ↓hp_a_47, ↓hp_s_47, ↓hp_l_47, ↓hp_a_48, ↓hp_s_48, ↓hp_l_48, ↓hp_a_49, ↓hp_s_49, ↓hp_l_49, ↓hp_a_50, ↓hp_s_50, ↓hp_l_50, hr, e_X12_in, e1, e2, m_refuse]
      by_cases t6 : P ≤ z
      · clear g; simp (disch := (first | assumption | (unfold i32; omega) | (unfold i64; omega) | omega)) only [↓reduceIte, ki_0, ki_1, ki_2, ki_3, ki_4, ki_5, ki_6, ki_7, ki_8, ki_9, ki_10, ki_11, ki_12, ki_13, ki_14, ki_15, ki_20, ki_21, ki_30, ki_31, ki_40, ki_41, ki_50, ki_51, ki_60, ki_63, ki_64, ki_65, ki_100, ki_158, ki_160, ki_200, ki_212, ki_1000, ki_2000, ki_2001, ki_5000, ki_10000, ki_10001, ki_100000, ki_200000, ki_1000000, ki_2000000, ki_3000000, iO_neg, iO_add, iO_sub, iO_mul, kn_4, kn_8, kn_10, kn_20, kn_24, kn_40, kn_41, kn_50, kn_60, kn_158, kn_160, kn_200, kn_212, kn_2001, tn_lt, fn_lt, tn_le, fn_le, tn_eq, fn_eq, x_lt, x_le, x_eq, x_ix, x_nat, t_lt, f_lt, t_le, f_le, t_eq, f_eq, eq_self, and_self, true_and, and_true, false_and, and_false, if_true, if_false, Int.toNat_natCast, bI_s, bL_s, bA_s, bA_n, bV_s, mq_s, mq_n, en_le, bl_0, bl_1, u_eq, u_ne, w_eq, w_ne, v_eq, v_ne, ↓hp_cc_26, ↓hp_g_26_0, ↓hp_p_26_0, ↓hp_g_26_1, ↓hp_p_26_1, ↓hp_g_26_2, ↓hp_p_26_2, ↓hp_g_26_3, ↓hp_g_26_4, ↓hp_g_26_5, ↓hp_g_26_6, ↓hp_g_26_7, ↓hp_g_26_8, ↓hp_g_26_9, ↓hp_g_26_10, ↓hp_g_26_11, ↓hp_g_26_12, ↓hp_g_26_13, ↓hp_g_26_14, ↓hp_g_26_15, ↓hp_p_26_15, ↓hp_g_26_16, ↓hp_g_26_17, ↓hp_g_26_18, ↓hp_p_26_18, ↓hp_g_26_19, ↓hp_p_26_19, ↓hp_g_26_20, ↓hp_g_26_21, ↓hp_p_26_21, ↓hp_g_26_22, ↓hp_g_26_23, ↓hp_g_26_24, ↓hp_g_26_25, ↓hp_g_26_26, ↓hp_g_26_27, ↓hp_g_26_28, ↓hp_g_26_29, ↓hp_g_26_30, ↓hp_p_26_30, ↓hp_g_26_31, ↓hp_g_26_32, ↓hp_p_26_32, ↓hp_a_27, ↓hp_s_27, ↓hp_l_27, ↓hp_a_28, ↓hp_s_28, ↓hp_l_28, ↓hp_a_29, ↓hp_s_29, ↓hp_l_29, ↓hp_a_30, ↓hp_s_30, ↓hp_l_30, ↓hp_a_31, ↓hp_s_31, ↓hp_l_31, ↓hp_a_32, ↓hp_s_32, ↓hp_l_32, ↓hp_a_33, ↓hp_s_33, ↓hp_l_33, ↓hp_a_34, ↓hp_s_34, ↓hp_l_34, ↓hp_a_35, ↓hp_s_35, ↓hp_l_35, ↓hp_a_36, ↓hp_s_36, ↓hp_l_36, ↓hp_a_37, ↓hp_s_37, ↓hp_l_37, ↓hp_a_38, ↓hp_s_38, ↓hp_l_38, ↓hp_a_39, ↓hp_s_39, ↓hp_a_40, ↓hp_s_40, ↓hp_a_41, ↓hp_s_41, ↓hp_l_41, ↓hp_a_42, ↓hp_s_42, ↓hp_l_42, ↓hp_a_43, ↓hp_s_43, ↓hp_l_43, ↓hp_a_44, ↓hp_s_44, ↓hp_l_44, ↓hp_a_45, ↓hp_s_45, ↓hp_l_45, ↓hp_a_46, ↓hp_s_46, ↓hp_l_46, ↓hp_a_47, ↓hp_s_47, ↓hp_l_47, ↓hp_a_48, ↓hp_s_48, ↓hp_l_48, ↓hp_a_49, ↓hp_s_49, ↓hp_l_49, ↓hp_a_50, ↓hp_s_50, ↓hp_l_50, hr, e_X12_in, e1, e2, m_refuse]
      by_cases t7 : o < 0
      · clear g; simp (disch := (first | assumption | (unfold i32; omega) | (unfold i64; omega) | omega)) only [↓reduceIte, ki_0, ki_1, ki_2, ki_3, ki_4, ki_5, ki_6, ki_7, ki_8, ki_9, ki_10, ki_11, ki_12, ki_13, ki_14, ki_15, ki_20, ki_21, ki_30, ki_31, ki_40, ki_41, ki_50, ki_51, ki_60, ki_63, ki_64, ki_65, ki_100, ki_158, ki_160, ki_200, ki_212, ki_1000, ki_2000, ki_2001, ki_5000, ki_10000, ki_10001, ki_100000, ki_200000, ki_1000000, ki_2000000, ki_3000000, iO_neg, iO_add, iO_sub, iO_mul, kn_4, kn_8, kn_10, kn_20, kn_24, kn_40, kn_41, kn_50, kn_60, kn_158, kn_160, kn_200, kn_212, kn_2001, tn_lt, fn_lt, tn_le, fn_le, tn_eq, fn_eq, x_lt, x_le, x_eq, x_ix, x_nat, t_lt, f_lt, t_le, f_le, t_eq, f_eq, eq_self, and_self, true_and, and_true, false_and, and_false, if_true, if_false, Int.toNat_natCast, bI_s, bL_s, bA_s, bA_n, bV_s, mq_s, mq_n, en_le, bl_0, bl_1, u_eq, u_ne, w_eq, w_ne, v_eq, v_ne, ↓hp_cc_26, ↓hp_g_26_0, ↓hp_p_26_0, ↓hp_g_26_1, ↓hp_p_26_1, ↓hp_g_26_2, ↓hp_p_26_2, ↓hp_g_26_3, ↓hp_g_26_4, ↓hp_g_26_5, ↓hp_g_26_6, ↓hp_g_26_7, ↓hp_g_26_8, ↓hp_g_26_9, ↓hp_g_26_10, ↓hp_g_26_11, ↓hp_g_26_12, ↓hp_g_26_13, ↓hp_g_26_14, ↓hp_g_26_15, ↓hp_p_26_15, ↓hp_g_26_16, ↓hp_g_26_17, ↓hp_g_26_18, ↓hp_p_26_18, ↓hp_g_26_19, ↓hp_p_26_19, ↓hp_g_26_20, ↓hp_g_26_21, ↓hp_p_26_21, ↓hp_g_26_22, ↓hp_g_26_23, ↓hp_g_26_24, ↓hp_g_26_25, ↓hp_g_26_26, ↓hp_g_26_27, ↓hp_g_26_28, ↓hp_g_26_29, ↓hp_g_26_30, ↓hp_p_26_30, ↓hp_g_26_31, ↓hp_g_26_32, ↓hp_p_26_32, ↓hp_a_27, ↓hp_s_27, ↓hp_l_27, ↓hp_a_28, ↓hp_s_28, ↓hp_l_28, ↓hp_a_29, ↓hp_s_29, ↓hp_l_29, ↓hp_a_30, ↓hp_s_30, ↓hp_l_30, ↓hp_a_31, ↓hp_s_31, ↓hp_l_31, ↓hp_a_32, ↓hp_s_32, ↓hp_l_32, ↓hp_a_33, ↓hp_s_33, ↓hp_l_33, ↓hp_a_34, ↓hp_s_34, ↓hp_l_34, ↓hp_a_35, ↓hp_s_35, ↓hp_l_35, ↓hp_a_36, ↓hp_s_36, ↓hp_l_36, ↓hp_a_37, ↓hp_s_37, ↓hp_l_37, ↓hp_a_38, ↓hp_s_38, ↓hp_l_38, ↓hp_a_39, ↓hp_s_39, ↓hp_a_40, ↓hp_s_40, ↓hp_a_41, ↓hp_s_41, ↓hp_l_41, ↓hp_a_42, ↓hp_s_42, ↓hp_l_42, ↓hp_a_43, ↓hp_s_43, ↓hp_l_43, ↓hp_a_44, ↓hp_s_44, ↓hp_l_44, ↓hp_a_45, ↓hp_s_45, ↓hp_l_45, ↓hp_a_46, ↓hp_s_46, ↓hp_l_46, ↓hp_a_47, ↓hp_s_47, ↓hp_l_47, ↓hp_a_48, ↓hp_s_48, ↓hp_l_48, ↓hp_a_49, ↓hp_s_49, ↓hp_l_49, ↓hp_a_50, ↓hp_s_50, ↓hp_l_50, hr, e_X12_in, e1, e2, m_refuse]
      · have t8 : Q ≤ o := by omega
        clear g; simp (disch := (first | assumption | (unfold i32; omega) | (unfold i64; omega) | omega)) only [↓reduceIte, ki_0, ki_1, ki_2, ki_3, ki_4, ki_5, ki_6, ki_7, ki_8, ki_9, ki_10, ki_11, ki_12, ki_13, ki_14, ki_15, ki_20, ki_21, ki_30, ki_31, ki_40, ki_41, ki_50, ki_51, ki_60, ki_63, ki_64, ki_65, ki_100, ki_158, ki_160, ki_200, ki_212, ki_1000, ki_2000, ki_2001, ki_5000, ki_10000, ki_10001, ki_100000, ki_200000, ki_1000000, ki_2000000, ki_3000000, iO_neg, iO_add, iO_sub, iO_mul, kn_4, kn_8, kn_10, kn_20, kn_24, kn_40, kn_41, kn_50, kn_60, kn_158, kn_160, kn_200, kn_212, kn_2001, tn_lt, fn_lt, tn_le, fn_le, tn_eq, fn_eq, x_lt, x_le, x_eq, x_ix, x_nat, t_lt, f_lt, t_le, f_le, t_eq, f_eq, eq_self, and_self, true_and, and_true, false_and, and_false, if_true, if_false, Int.toNat_natCast, bI_s, bL_s, bA_s, bA_n, bV_s, mq_s, mq_n, en_le, bl_0, bl_1, u_eq, u_ne, w_eq, w_ne, v_eq, v_ne, ↓hp_cc_26, ↓hp_g_26_0, ↓hp_p_26_0, ↓hp_g_26_1, ↓hp_p_26_1, ↓hp_g_26_2, ↓hp_p_26_2, ↓hp_g_26_3, ↓hp_g_26_4, ↓hp_g_26_5, ↓hp_g_26_6, ↓hp_g_26_7, ↓hp_g_26_8, ↓hp_g_26_9, ↓hp_g_26_10, ↓hp_g_26_11, ↓hp_g_26_12, ↓hp_g_26_13, ↓hp_g_26_14, ↓hp_g_26_15, ↓hp_p_26_15, ↓hp_g_26_16, ↓hp_g_26_17, ↓hp_g_26_18, ↓hp_p_26_18, ↓hp_g_26_19, ↓hp_p_26_19, ↓hp_g_26_20, ↓hp_g_26_21, ↓hp_p_26_21, ↓hp_g_26_22, ↓hp_g_26_23, ↓hp_g_26_24, ↓hp_g_26_25, ↓hp_g_26_26, ↓hp_g_26_27, ↓hp_g_26_28, ↓hp_g_26_29, ↓hp_g_26_30, ↓hp_p_26_30, ↓hp_g_26_31, ↓hp_g_26_32, ↓hp_p_26_32, ↓hp_a_27, ↓hp_s_27, ↓hp_l_27, ↓hp_a_28, ↓hp_s_28, ↓hp_l_28, ↓hp_a_29, ↓hp_s_29, ↓hp_l_29, ↓hp_a_30, ↓hp_s_30, ↓hp_l_30, ↓hp_a_31, ↓hp_s_31, ↓hp_l_31, ↓hp_a_32, ↓hp_s_32, ↓hp_l_32, ↓hp_a_33, ↓hp_s_33, ↓hp_l_33, ↓hp_a_34, ↓hp_s_34, ↓hp_l_34, ↓hp_a_35, ↓hp_s_35, ↓hp_l_35, ↓hp_a_36, ↓hp_s_36, ↓hp_l_36, ↓hp_a_37, ↓hp_s_37, ↓hp_l_37, ↓hp_a_38, ↓hp_s_38, ↓hp_l_38, ↓hp_a_39, ↓hp_s_39, ↓hp_a_40, ↓hp_s_40, ↓hp_a_41, ↓hp_s_41, ↓hp_l_41, ↓hp_a_42, ↓hp_s_42, ↓hp_l_42, ↓hp_a_43, ↓hp_s_43, ↓hp_l_43, ↓hp_a_44, ↓hp_s_44, ↓hp_l_44, ↓hp_a_45, ↓hp_s_45, ↓hp_l_45, ↓hp_a_46, ↓hp_s_46, ↓hp_l_46, ↓hp_a_47, ↓hp_s_47, ↓hp_l_47, ↓hp_a_48, ↓hp_s_48, ↓hp_l_48, ↓hp_a_49, ↓hp_s_49, ↓hp_l_49, ↓hp_a_50, ↓hp_s_50, ↓hp_l_50, hr, e_X12_in, e1, e2, m_refuse]
theorem x_isBits {b l : Int} (hb : i32 b) (hl : i32 l) {z : en_H} : f_X11_isBits sc (n + 1) (iO b) (iO l) z = some (some (.int (iO (if 1 ≤ l ∧ l ≤ 6 ∧ 0 ≤ b ∧ b < 2 ^ l.toNat then 1 else 0))), z) := by
  obtain ⟨b1, b2⟩ := id hb
  obtain ⟨l1, l2⟩ := id hl
  rw [e_X11_isBits]
  by_cases t1 : l < 1
  · rw [if_neg (show ¬ (1 ≤ l ∧ l ≤ 6 ∧ 0 ≤ b ∧ b < 2 ^ l.toNat) from fun h => by omega)]
    simp (disch := (first | assumption | (unfold i32; omega) | (unfold i64; omega) | omega)) only [↓reduceIte, ki_0, ki_1, ki_2, ki_3, ki_4, ki_5, ki_6, ki_7, ki_8, ki_9, ki_10, ki_11, ki_12, ki_13, ki_14, ki_15, ki_20, ki_21, ki_30, ki_31, ki_40, ki_41, ki_50, ki_51, ki_60, ki_63, ki_64, ki_65, ki_100, ki_158, ki_160, ki_200, ki_212, ki_1000, ki_2000, ki_2001, ki_5000, ki_10000, ki_10001, ki_100000, ki_200000, ki_1000000, ki_2000000, ki_3000000, iO_neg, iO_add, iO_sub, iO_mul, kn_4, kn_8, kn_10, kn_20, kn_24, kn_40, kn_41, kn_50, kn_60, kn_158, kn_160, kn_200, kn_212, kn_2001, tn_lt, fn_lt, tn_le, fn_le, tn_eq, fn_eq, x_lt, x_le, x_eq, x_ix, x_nat, t_lt, f_lt, t_le, f_le, t_eq, f_eq, eq_self, and_self, true_and, and_true, false_and, and_false, if_true, if_false, Int.toNat_natCast, bI_s, bL_s, bA_s, bA_n, bV_s, mq_s, mq_n, en_le, bl_0, bl_1, u_eq, u_ne, w_eq, w_ne, v_eq, v_ne]
  by_cases t2 : 6 < l
  · rw [if_neg (show ¬ (1 ≤ l ∧ l ≤ 6 ∧ 0 ≤ b ∧ b < 2 ^ l.toNat) from fun h => by omega)]
    simp (disch := (first | assumption | (unfold i32; omega) | (unfold i64; omega) | omega)) only [↓reduceIte, ki_0, ki_1, ki_2, ki_3, ki_4, ki_5, ki_6, ki_7, ki_8, ki_9, ki_10, ki_11, ki_12, ki_13, ki_14, ki_15, ki_20, ki_21, ki_30, ki_31, ki_40, ki_41, ki_50, ki_51, ki_60, ki_63, ki_64, ki_65, ki_100, ki_158, ki_160, ki_200, ki_212, ki_1000, ki_2000, ki_2001, ki_5000, ki_10000, ki_10001, ki_100000, ki_200000, ki_1000000, ki_2000000, ki_3000000, iO_neg, iO_add, iO_sub, iO_mul, kn_4, kn_8, kn_10, kn_20, kn_24, kn_40, kn_41, kn_50, kn_60, kn_158, kn_160, kn_200, kn_212, kn_2001, tn_lt, fn_lt, tn_le, fn_le, tn_eq, fn_eq, x_lt, x_le, x_eq, x_ix, x_nat, t_lt, f_lt, t_le, f_le, t_eq, f_eq, eq_self, and_self, true_and, and_true, false_and, and_false, if_true, if_false, Int.toNat_natCast, bI_s, bL_s, bA_s, bA_n, bV_s, mq_s, mq_n, en_le, bl_0, bl_1, u_eq, u_ne, w_eq, w_ne, v_eq, v_ne]
  by_cases t3 : b < 0
  · rw [if_neg (show ¬ (1 ≤ l ∧ l ≤ 6 ∧ 0 ≤ b ∧ b < 2 ^ l.toNat) from fun h => by omega)]
    simp (disch := (first | assumption | (unfold i32; omega) | (unfold i64; omega) | omega)) only [↓reduceIte, ki_0, ki_1, ki_2, ki_3, ki_4, ki_5, ki_6, ki_7, ki_8, ki_9, ki_10, ki_11, ki_12, ki_13, ki_14, ki_15, ki_20, ki_21, ki_30, ki_31, ki_40, ki_41, ki_50, ki_51, ki_60, ki_63, ki_64, ki_65, ki_100, ki_158, ki_160, ki_200, ki_212, ki_1000, ki_2000, ki_2001, ki_5000, ki_10000, ki_10001, ki_100000, ki_200000, ki_1000000, ki_2000000, ki_3000000, iO_neg, iO_add, iO_sub, iO_mul, kn_4, kn_8, kn_10, kn_20, kn_24, kn_40, kn_41, kn_50, kn_60, kn_158, kn_160, kn_200, kn_212, kn_2001, tn_lt, fn_lt, tn_le, fn_le, tn_eq, fn_eq, x_lt, x_le, x_eq, x_ix, x_nat, t_lt, f_lt, t_le, f_le, t_eq, f_eq, eq_self, and_self, true_and, and_true, false_and, and_false, if_true, if_false, Int.toNat_natCast, bI_s, bL_s, bA_s, bA_n, bV_s, mq_s, mq_n, en_le, bl_0, bl_1, u_eq, u_ne, w_eq, w_ne, v_eq, v_ne]
  obtain ⟨y, rfl⟩ : ∃ y : Nat, l = y := ⟨l.toNat, by omega⟩
  rw [Int.toNat_natCast]
  have e1 := sl31 y (by omega)
  have e3 := p2_64 y (by omega)
  have e5 : (0 : Int) < 2 ^ y := Int.pow_pos (by decide)
  rw [ki_1, ki_31] at e1
  generalize hP : (2 : Int) ^ y = P at *
  by_cases t4 : b < P
  · rw [if_pos (show (1 ≤ (y : Int) ∧ (y : Int) ≤ 6 ∧ 0 ≤ b ∧ b < P) by omega)]
    simp (disch := (first | assumption | (unfold i32; omega) | (unfold i64; omega) | omega)) only [↓reduceIte, ki_0, ki_1, ki_2, ki_3, ki_4, ki_5, ki_6, ki_7, ki_8, ki_9, ki_10, ki_11, ki_12, ki_13, ki_14, ki_15, ki_20, ki_21, ki_30, ki_31, ki_40, ki_41, ki_50, ki_51, ki_60, ki_63, ki_64, ki_65, ki_100, ki_158, ki_160, ki_200, ki_212, ki_1000, ki_2000, ki_2001, ki_5000, ki_10000, ki_10001, ki_100000, ki_200000, ki_1000000, ki_2000000, ki_3000000, iO_neg, iO_add, iO_sub, iO_mul, kn_4, kn_8, kn_10, kn_20, kn_24, kn_40, kn_41, kn_50, kn_60, kn_158, kn_160, kn_200, kn_212, kn_2001, tn_lt, fn_lt, tn_le, fn_le, tn_eq, fn_eq, x_lt, x_le, x_eq, x_ix, x_nat, t_lt, f_lt, t_le, f_le, t_eq, f_eq, eq_self, and_self, true_and, and_true, false_and, and_false, if_true, if_false, Int.toNat_natCast, bI_s, bL_s, bA_s, bA_n, bV_s, mq_s, mq_n, en_le, bl_0, bl_1, u_eq, u_ne, w_eq, w_ne, v_eq, v_ne, e1]
  · rw [if_neg (show ¬ (1 ≤ (y : Int) ∧ (y : Int) ≤ 6 ∧ 0 ≤ b ∧ b < P) from fun h => by omega)]
    simp (disch := (first | assumption | (unfold i32; omega) | (unfold i64; omega) | omega)) only [↓reduceIte, ki_0, ki_1, ki_2, ki_3, ki_4, ki_5, ki_6, ki_7, ki_8, ki_9, ki_10, ki_11, ki_12, ki_13, ki_14, ki_15, ki_20, ki_21, ki_30, ki_31, ki_40, ki_41, ki_50, ki_51, ki_60, ki_63, ki_64, ki_65, ki_100, ki_158, ki_160, ki_200, ki_212, ki_1000, ki_2000, ki_2001, ki_5000, ki_10000, ki_10001, ki_100000, ki_200000, ki_1000000, ki_2000000, ki_3000000, iO_neg, iO_add, iO_sub, iO_mul, kn_4, kn_8, kn_10, kn_20, kn_24, kn_40, kn_41, kn_50, kn_60, kn_158, kn_160, kn_200, kn_212, kn_2001, tn_lt, fn_lt, tn_le, fn_le, tn_eq, fn_eq, x_lt, x_le, x_eq, x_ix, x_nat, t_lt, f_lt, t_le, f_le, t_eq, f_eq, eq_self, and_self, true_and, and_true, false_and, and_false, if_true, if_false, Int.toNat_natCast, bI_s, bL_s, bA_s, bA_n, bV_s, mq_s, mq_n, en_le, bl_0, bl_1, u_eq, u_ne, w_eq, w_ne, v_eq, v_ne, e1]
theorem cs_cut (hS : OK5 S) {r z zs o os : Int} (h1 : i32 r) (h2 : i32 z) (h3 : i32 zs) (h4 : i32 o) (h5 : i32 os) : CS S (p_cut S r z zs o os).2 (p_cut S r z zs o os).1 (fun w => f_X11_cut sc (n + 40) 1 (iO r) (iO z) (iO zs) (iO o) (iO os) w) := by
  have h10 := hS.2.1
  unfold p_cut
  cases hq : rowq S r with
  | none =>
    apply cs_ref
    intro XI XA XP XC MI MA ML D Γ hV
    show f_X11_cut sc (n + 40) 1 (iO r) (iO z) (iO zs) (iO o) (iO os) _ = _
    rw [e_X11_cut]
    simp (disch := (first | assumption | (unfold i32; omega) | (unfold i64; omega) | omega)) only [↓reduceIte, ki_0, ki_1, ki_2, ki_3, ki_4, ki_5, ki_6, ki_7, ki_8, ki_9, ki_10, ki_11, ki_12, ki_13, ki_14, ki_15, ki_20, ki_21, ki_30, ki_31, ki_40, ki_41, ki_50, ki_51, ki_60, ki_63, ki_64, ki_65, ki_100, ki_158, ki_160, ki_200, ki_212, ki_1000, ki_2000, ki_2001, ki_5000, ki_10000, ki_10001, ki_100000, ki_200000, ki_1000000, ki_2000000, ki_3000000, iO_neg, iO_add, iO_sub, iO_mul, kn_4, kn_8, kn_10, kn_20, kn_24, kn_40, kn_41, kn_50, kn_60, kn_158, kn_160, kn_200, kn_212, kn_2001, tn_lt, fn_lt, tn_le, fn_le, tn_eq, fn_eq, x_lt, x_le, x_eq, x_ix, x_nat, t_lt, f_lt, t_le, f_le, t_eq, f_eq, eq_self, and_self, true_and, and_true, false_and, and_false, if_true, if_false, Int.toNat_natCast, bI_s, bL_s, bA_s, bA_n, bV_s, mq_s, mq_n, en_le, bl_0, bl_1, u_eq, u_ne, w_eq, w_ne, v_eq, v_ne, ↓hp_cc_1, ↓hp_g_1_0, ↓hp_g_1_1, ↓hp_g_1_2, ↓hp_g_1_3, ↓hp_g_1_4, ↓hp_g_1_5, ↓hp_g_1_6, ↓hp_g_1_7, ↓hp_g_1_8, ↓hp_p_1_8, ↓hp_g_1_9, ↓hp_p_1_9, ↓hp_g_1_10, ↓hp_p_1_10, ↓hp_a_2, ↓hp_n_2, ↓hp_a_3, ↓hp_n_3, ↓hp_a_4, x_rowAt0 hV hS h1 hq, x_refuse]
  | some q =>
    obtain ⟨k, rfl, hk, hq2⟩ := rowq_some hq
    have hR := hS.2.2.2.1 q (List.mem_of_getElem? hq2)
    have hsz : q.2.2.1 ≤ 10001 := hR.2.2.2.2.1
    have hva := hR.2.2.2.2.2.1
    have bz := fun w => x_isBits (sc := sc) (n := n + 38) (z := w) h2 h3
    have bo := fun w => x_isBits (sc := sc) (n := n + 38) (z := w) h4 h5
    dsimp only
    by_cases g : 1 ≤ zs ∧ zs ≤ 6 ∧ 1 ≤ os ∧ os ≤ 6 ∧ 0 ≤ z ∧ z < 2 ^ zs.toNat ∧ 0 ≤ o ∧ o < 2 ^ os.toNat
    · rw [if_pos g]
      obtain ⟨g1, g2, g3, g4, g5, g6, g7, g8⟩ := g
      rw [if_pos ⟨g1, g2, g5, g6⟩] at bz
      rw [if_pos ⟨g3, g4, g7, g8⟩] at bo
      by_cases gl : 10 ≤ S.2.1.length
      · rw [if_pos gl]
        apply cs_ref
        intro XI XA XP XC MI MA ML D Γ hV
        have w2 := hV.2.1
        obtain ⟨pq, gq, c1, -⟩ := hV.2.2.2.2.2.1 k q hq2
        have hrow := x_rowAt1 (sc := sc) (n := n + 38) (XC := XC) (MI := MI) (MA := MA) (ML := ML) hV hS hq2 c1
        show f_X11_cut sc (n + 40) 1 (iO (k : Int)) (iO z) (iO zs) (iO o) (iO os) _ = _
        rw [e_X11_cut]
        clear hV hva g6 g8
        simp (disch := (first | assumption | (unfold i32; omega) | (unfold i64; omega) | omega)) only [↓reduceIte, ki_0, ki_1, ki_2, ki_3, ki_4, ki_5, ki_6, ki_7, ki_8, ki_9, ki_10, ki_11, ki_12, ki_13, ki_14, ki_15, ki_20, ki_21, ki_30, ki_31, ki_40, ki_41, ki_50, ki_51, ki_60, ki_63, ki_64, ki_65, ki_100, ki_158, ki_160, ki_200, ki_212, ki_1000, ki_2000, ki_2001, ki_5000, ki_10000, ki_10001, ki_100000, ki_200000, ki_1000000, ki_2000000, ki_3000000, iO_neg, iO_add, iO_sub, iO_mul, kn_4, kn_8, kn_10, kn_20, kn_24, kn_40, kn_41, kn_50, kn_60, kn_158, kn_160, kn_200, kn_212, kn_2001, tn_lt, fn_lt, tn_le, fn_le, tn_eq, fn_eq, x_lt, x_le, x_eq, x_ix, x_nat, t_lt, f_lt, t_le, f_le, t_eq, f_eq, eq_self, and_self, true_and, and_true, false_and, and_false, if_true, if_false, Int.toNat_natCast, bI_s, bL_s, bA_s, bA_n, bV_s, mq_s, mq_n, en_le, bl_0, bl_1, u_eq, u_ne, w_eq, w_ne, v_eq, v_ne, ↓hp_cc_1, ↓hp_g_1_0, ↓hp_g_1_1, ↓hp_g_1_2, ↓hp_g_1_3, ↓hp_g_1_4, ↓hp_g_1_5, ↓hp_g_1_6, ↓hp_g_1_7, ↓hp_g_1_8, ↓hp_p_1_8, ↓hp_g_1_9, ↓hp_p_1_9, ↓hp_g_1_10, ↓hp_p_1_10, ↓hp_a_2, ↓hp_n_2, ↓hp_a_3, ↓hp_n_3, ↓hp_a_4, hrow, bz, bo, w2, x_refuse]
      · rw [if_neg gl]
        obtain ⟨y, rfl⟩ : ∃ y : Nat, zs = y := ⟨zs.toNat, by omega⟩
        obtain ⟨v, rfl⟩ : ∃ v : Nat, os = v := ⟨os.toNat, by omega⟩
        rw [Int.toNat_natCast] at g6
        rw [Int.toNat_natCast] at g8
        rw [Int.toNat_natCast, Int.toNat_natCast]
        have e3 := p2_64 y (by omega)
        have e4 := p2_64 v (by omega)
        have g6 : z < 64 := by omega
        have g8 : o < 64 := by omega
        intro XI XA XP XC MI MA ML D Γ hV
        have w2 := hV.2.1
        have hH := hV.2.2.2.2.2.2.2.2
        obtain ⟨pq, gq, c1, c2, c3, c4, c5, c6, c7, c8, c9⟩ := hV.2.2.2.2.2.1 k q hq2
        have hrow := x_rowAt1 (sc := sc) (n := n + 38) (XC := XC) (MI := MI) (MA := MA) (ML := ML) hV hS hq2 c1
        have hΓ : Γ D.length = none := by
          cases hc : Γ D.length with
          | none => rfl
          | some y =>
            obtain ⟨-, fs, y2⟩ := rc_cls (hH D.length y hc).2.2.2
            have := nt_lt y2
            omega
        have hne : pq ≠ D.length := fun e => by rw [e, hΓ] at c2; cases c2
        have hfa : FA D (D ++ [.inr (1, CCf S.2.1.length 0 pq z y o v D.length 0 0 0), .inl (1, 158, .inr (.inl (fun _ => 0)))]) := FA.app D _
        have hnew : HV (va_up Γ D.length (some (3, S.2.1.length, 0, -1, cutN q.2.2.1 q.2.2.2 z y o v, cutF q.2.2.1 q.2.2.2 z y o v, (0, 0, 0, 0)))) (D ++ [.inr (1, CCf S.2.1.length 0 pq z y o v D.length 0 0 0), .inl (1, 158, .inr (.inl (fun _ => 0)))]) := by
          refine HV_new hH hfa hΓ (by show S.2.1.length ≤ 9; omega) (Nat.min_le_right _ _) (fun i _ => cutF_bd i) ?_
          refine Or.inr (Or.inr ⟨rfl, pq, gq, 0, 0, 0, fun _ => 0, z, y, o, v, ?_, ?_, a2n0 D _ _, a2n1 D _ _, by omega, by omega, by omega, by omega, g5, g6, g7, g8, ?_, 0, Or.inl ⟨rfl, rfl⟩, fun i hi => by omega, rfl, by omega, ?_⟩)
          · rw [w_ne hne]; exact c2
          · show gq.2.1 < S.2.1.length
            rw [c4]; exact hk
          · rw [c7, c8]
            exact cut_of (fun i hi => (hva i hi).1) (by omega) (by omega)
          · intro j hj
            show (0#64).getLsbD (j % 64) = false
            simp
        obtain ⟨XI', XP', D', Γ', k1, k2, k3, k4⟩ := x_keep (sc := sc) (n := n + 1) (XC := XC) (MI := MI) (MA := MA) (ML := ML) hV hS (by omega) hfa hnew (fun x y h => by rw [w_ne (fun e => by rw [e, hΓ] at h; cases h)]; exact h) hΓ (w_eq rfl) rfl (fun h => by rcases h with h | h <;> exact absurd (show (3 : Int) = _ from h) (by decide))
        refine ⟨XI', XA, XP', XC, D', Γ', ?_, k2, gr_app k3 k4 (by simp) (by simp [en_sz, en_s0])⟩
        show f_X11_cut sc (n + 40) 1 (iO (k : Int)) (iO z) (iO (y : Int)) (iO o) (iO (v : Int)) _ = _
        have hinit : f_X1_init sc (n + 39) (D.length + 51) (iO (S.2.1.length : Nat)) (pq + 51) (iO z) (iO (y : Int)) (iO o) (iO (v : Int)) (hp XI XA XP XC MI MA ML (D ++ [.inr (1, en_df 1)])) = some (none, hp XI XA XP XC MI MA ML (D ++ [.inr (1, CCf S.2.1.length 0 pq z y o v D.length 0 0 0), .inl (1, 158, .inr (.inl (fun _ => 0)))])) := by
          rw [e_X1_init, d_vt (a1n0 D _)]
          show en_bV (f_X5_init sc (n + 38) (D.length + 51) (iO (S.2.1.length : Nat)) (hp XI XA XP XC MI MA ML (D ++ [.inr (1, en_df 1)]))) _ = _
          rw [e_X5_init, d_pf (a1n0 D _) (x := 0) rfl rfl, a1s0, bV_s, hp_nw]
          have e7 : ∀ (a b : va_E), ((D ++ [a]) ++ [b] : en_H) = D ++ [a, b] := fun a b => by simp
          have e8 : ∀ (a : va_E), (D ++ [a]).length + 51 = D.length + 52 := fun a => by simp
          rw [e7, e8, d_pf (a2n0 D _ _) (x := 0) rfl rfl, a2s0, d_pf (a2n0 D _ _) (x := 0) rfl rfl, a2s0, d_pf (a2n0 D _ _) (x := 0) rfl rfl, a2s0, d_pf (a2n0 D _ _) (x := 0) rfl rfl, a2s0, d_pf (a2n0 D _ _) (x := 0) rfl rfl, a2s0, d_pf (a2n0 D _ _) (x := 0) rfl rfl, a2s0]
          rfl
        have hcc : ∀ (g : Nat → Option en_R), en_cc (hp XI XA XP XC MI MA ML (D ++ [.inr (1, en_df 1)])) (D.length + 51) g = g 1 := fun g => d_cc (a1n0 D _) g
        rw [e_X11_cut]
        clear k2 k3 k4 hnew hfa hΓ hV hH hva
        simp (disch := (first | assumption | (unfold i32; omega) | (unfold i64; omega) | omega)) only [↓reduceIte, ki_0, ki_1, ki_2, ki_3, ki_4, ki_5, ki_6, ki_7, ki_8, ki_9, ki_10, ki_11, ki_12, ki_13, ki_14, ki_15, ki_20, ki_21, ki_30, ki_31, ki_40, ki_41, ki_50, ki_51, ki_60, ki_63, ki_64, ki_65, ki_100, ki_158, ki_160, ki_200, ki_212, ki_1000, ki_2000, ki_2001, ki_5000, ki_10000, ki_10001, ki_100000, ki_200000, ki_1000000, ki_2000000, ki_3000000, iO_neg, iO_add, iO_sub, iO_mul, kn_4, kn_8, kn_10, kn_20, kn_24, kn_40, kn_41, kn_50, kn_60, kn_158, kn_160, kn_200, kn_212, kn_2001, tn_lt, fn_lt, tn_le, fn_le, tn_eq, fn_eq, x_lt, x_le, x_eq, x_ix, x_nat, t_lt, f_lt, t_le, f_le, t_eq, f_eq, eq_self, and_self, true_and, and_true, false_and, and_false, if_true, if_false, Int.toNat_natCast, bI_s, bL_s, bA_s, bA_n, bV_s, mq_s, mq_n, en_le, bl_0, bl_1, u_eq, u_ne, w_eq, w_ne, v_eq, v_ne, ↓hp_cc_1, ↓hp_g_1_0, ↓hp_g_1_1, ↓hp_g_1_2, ↓hp_g_1_3, ↓hp_g_1_4, ↓hp_g_1_5, ↓hp_g_1_6, ↓hp_g_1_7, ↓hp_g_1_8, ↓hp_p_1_8, ↓hp_g_1_9, ↓hp_p_1_9, ↓hp_g_1_10, ↓hp_p_1_10, ↓hp_a_2, ↓hp_n_2, ↓hp_a_3, ↓hp_n_3, ↓hp_a_4, hrow, bz, bo, w2, hp_nw, hcc, hinit, k1]
    · rw [if_neg g]
      apply cs_ref
      intro XI XA XP XC MI MA ML D Γ hV
      obtain ⟨pq, gq, c1, -⟩ := hV.2.2.2.2.2.1 k q hq2
      have hrow := x_rowAt1 (sc := sc) (n := n + 38) (XC := XC) (MI := MI) (MA := MA) (ML := ML) hV hS hq2 c1
      show f_X11_cut sc (n + 40) 1 (iO (k : Int)) (iO z) (iO zs) (iO o) (iO os) _ = _
      rw [e_X11_cut]
      clear hV hva
      by_cases t1 : 1 ≤ zs ∧ zs ≤ 6 ∧ 0 ≤ z ∧ z < 2 ^ zs.toNat
      · have t2 : ¬ (1 ≤ os ∧ os ≤ 6 ∧ 0 ≤ o ∧ o < 2 ^ os.toNat) := fun h => g ⟨t1.1, t1.2.1, h.1, h.2.1, t1.2.2.1, t1.2.2.2, h.2.2.1, h.2.2.2⟩
        rw [if_pos t1] at bz
        rw [if_neg t2] at bo
        clear g t1 t2
        simp (disch := (first | assumption | (unfold i32; omega) | (unfold i64; omega) | omega)) only [↓reduceIte, ki_0, ki_1, ki_2, ki_3, ki_4, ki_5, ki_6, ki_7, ki_8, ki_9, ki_10, ki_11, ki_12, ki_13, ki_14, ki_15, ki_20, ki_21, ki_30, ki_31, ki_40, ki_41, ki_50, ki_51, ki_60, ki_63, ki_64, ki_65, ki_100, ki_158, ki_160, ki_200, ki_212, ki_1000, ki_2000, ki_2001, ki_5000, ki_10000, ki_10001, ki_100000, ki_200000, ki_1000000, ki_2000000, ki_3000000, iO_neg, iO_add, iO_sub, iO_mul, kn_4, kn_8, kn_10, kn_20, kn_24, kn_40, kn_41, kn_50, kn_60, kn_158, kn_160, kn_200, kn_212, kn_2001, tn_lt, fn_lt, tn_le, fn_le, tn_eq, fn_eq, x_lt, x_le, x_eq, x_ix, x_nat, t_lt, f_lt, t_le, f_le, t_eq, f_eq, eq_self, and_self, true_and, and_true, false_and, and_false, if_true, if_false, Int.toNat_natCast, bI_s, bL_s, bA_s, bA_n, bV_s, mq_s, mq_n, en_le, bl_0, bl_1, u_eq, u_ne, w_eq, w_ne, v_eq, v_ne, ↓hp_cc_1, ↓hp_g_1_0, ↓hp_g_1_1, ↓hp_g_1_2, ↓hp_g_1_3, ↓hp_g_1_4, ↓hp_g_1_5, ↓hp_g_1_6, ↓hp_g_1_7, ↓hp_g_1_8, ↓hp_p_1_8, ↓hp_g_1_9, ↓hp_p_1_9, ↓hp_g_1_10, ↓hp_p_1_10, ↓hp_a_2, ↓hp_n_2, ↓hp_a_3, ↓hp_n_3, ↓hp_a_4, hrow, bz, bo, x_refuse]
      · rw [if_neg t1] at bz
        clear g t1
        simp (disch := (first | assumption | (unfold i32; omega) | (unfold i64; omega) | omega)) only [↓reduceIte, ki_0, ki_1, ki_2, ki_3, ki_4, ki_5, ki_6, ki_7, ki_8, ki_9, ki_10, ki_11, ki_12, ki_13, ki_14, ki_15, ki_20, ki_21, ki_30, ki_31, ki_40, ki_41, ki_50, ki_51, ki_60, ki_63, ki_64, ki_65, ki_100, ki_158, ki_160, ki_200, ki_212, ki_1000, ki_2000, ki_2001, ki_5000, ki_10000, ki_10001, ki_100000, ki_200000, ki_1000000, ki_2000000, ki_3000000, iO_neg, iO_add, iO_sub, iO_mul, kn_4, kn_8, kn_10, kn_20, kn_24, kn_40, kn_41, kn_50, kn_60, kn_158, kn_160, kn_200, kn_212, kn_2001, tn_lt, fn_lt, tn_le, fn_le, tn_eq, fn_eq, x_lt, x_le, x_eq, x_ix, x_nat, t_lt, f_lt, t_le, f_le, t_eq, f_eq, eq_self, and_self, true_and, and_true, false_and, and_false, if_true, if_false, Int.toNat_natCast, bI_s, bL_s, bA_s, bA_n, bV_s, mq_s, mq_n, en_le, bl_0, bl_1, u_eq, u_ne, w_eq, w_ne, v_eq, v_ne, ↓hp_cc_1, ↓hp_g_1_0, ↓hp_g_1_1, ↓hp_g_1_2, ↓hp_g_1_3, ↓hp_g_1_4, ↓hp_g_1_5, ↓hp_g_1_6, ↓hp_g_1_7, ↓hp_g_1_8, ↓hp_p_1_8, ↓hp_g_1_9, ↓hp_p_1_9, ↓hp_g_1_10, ↓hp_p_1_10, ↓hp_a_2, ↓hp_n_2, ↓hp_a_3, ↓hp_n_3, ↓hp_a_4, hrow, bz, x_refuse]
end CTB
