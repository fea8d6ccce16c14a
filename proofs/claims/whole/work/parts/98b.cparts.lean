/-! parts: the class -/
/-- the places at which something new begins -/
def nls (f : Nat → Int) (L : Nat) : Nat → List Nat
  | 0 => []
  | a + 1 => if nwa f L a = true then nls f L a ++ [a] else nls f L a
theorem nls_len {f : Nat → Int} {L : Nat} : ∀ a, (nls f L a).length = tb (nwa f L) a
  | 0 => rfl
  | a + 1 => by
    rw [nls]
    show _ = tb (nwa f L) a + (nwa f L a).toNat
    cases h : nwa f L a with
    | false => rw [if_neg Bool.false_ne_true, nls_len a]; rfl
    | true => rw [if_pos rfl, List.length_append, nls_len a]; rfl
theorem nls_mem {f : Nat → Int} {L : Nat} {s : Nat} : ∀ a, s ∈ nls f L a ↔ s < a ∧ nwa f L s = true
  | 0 => by simp [nls]
  | a + 1 => by
    rw [nls]
    cases h : nwa f L a with
    | false =>
      rw [if_neg Bool.false_ne_true, nls_mem a]
      constructor
      · intro q; exact ⟨by omega, q.2⟩
      · intro q
        refine ⟨?_, q.2⟩
        rcases Nat.lt_or_ge s a with g | g
        · exact g
        · have : s = a := by omega
          rw [this, h] at q
          cases q.2
    | true =>
      rw [if_pos rfl, List.mem_append, nls_mem a, List.mem_singleton]
      constructor
      · intro q
        rcases q with q | q
        · exact ⟨by omega, q.2⟩
        · subst q; exact ⟨by omega, h⟩
      · intro q
        by_cases e : s = a
        · exact Or.inr e
        · exact Or.inl ⟨by omega, q.2⟩
theorem nwa_first {f : Nat → Int} {L : Nat} : ∀ (n b : Nat), b < n → ∃ c, c ≤ b ∧ alk f L b c = true ∧ nwa f L c = true
  | 0, b, h => by omega
  | n + 1, b, h => by
    cases hn : nwa f L b with
    | true => exact ⟨b, Nat.le_refl _, alk_iff.mpr (fun _ _ => rfl), hn⟩
    | false =>
      have hno : ¬ ∀ i, i < b → alk f L b i = false := fun q => by
        have : nwa f L b = true := (nwb_iff b).mpr q
        rw [hn] at this
        cases this
      have hex : ∃ i, i < b ∧ alk f L b i = true := Classical.byContradiction (fun q => hno (fun i hi => by
        cases e : alk f L b i with
        | false => rfl
        | true => exact absurd ⟨i, hi, e⟩ q))
      obtain ⟨i, hi, e⟩ := hex
      obtain ⟨c, c1, c2, c3⟩ := nwa_first n i (by omega)
      exact ⟨c, by omega, alk_trans e c2, c3⟩
theorem nwa_not {f : Nat → Int} {L a : Nat} : nwa f L a = false ↔ ∃ s, s ∈ nls f L a ∧ alk f L a s = true := by
  constructor
  · intro h
    obtain ⟨c, c1, c2, c3⟩ := nwa_first (f := f) (L := L) (a + 1) a (by omega)
    refine ⟨c, (nls_mem a).mpr ⟨?_, c3⟩, c2⟩
    rcases Nat.lt_or_ge c a with g | g
    · exact g
    · have : c = a := by omega
      rw [this, h] at c3
      cases c3
  · intro ⟨s, h1, h2⟩
    obtain ⟨h3, -⟩ := (nls_mem a).mp h1
    cases h : nwa f L a with
    | false => rfl
    | true =>
      have := (nwb_iff a).mp h s h3
      rw [h2] at this
      cases this
theorem tb_nls {f : Nat → Int} {L : Nat} : ∀ a, tb (fun t => bwd f L ((nls f L a)[t]?.getD 0)) (nls f L a).length = tb (fun a => nwa f L a && bwd f L a) a
  | 0 => rfl
  | a + 1 => by
    have ih := tb_nls (f := f) (L := L) a
    show _ = tb (fun a => nwa f L a && bwd f L a) a + (nwa f L a && bwd f L a).toNat
    rw [nls, ← ih]
    cases h : nwa f L a with
    | false => rw [if_neg Bool.false_ne_true]; rfl
    | true =>
      rw [if_pos rfl, List.length_append]
      show tb (fun t => bwd f L ((nls f L a ++ [a])[t]?.getD 0)) (nls f L a).length + (bwd f L ((nls f L a ++ [a])[(nls f L a).length]?.getD 0)).toNat = _
      congr 1
      · exact tb_cg _ (fun i hi => by rw [List.getElem?_append_left hi])
      · rw [List.getElem?_append_right (Nat.le_refl _), Nat.sub_self]
        rfl
section PRX
variable {sc : en_S} {Γ : Nat → Option GD}
theorem x_rps {p : Nat} {g : GD} (hg : Γ p = some g) (h9 : g.2.1 ≤ 9) {m : Nat} (hm : 24 ≤ m) (XI : Nat → Int32) (XP : Nat → Nat → Option Nat) (XC : Value) (MI : Nat → Int32) (MA : Nat → Nat → Int32) (ML : Nat → Nat → Int64) : ∀ (j i : Nat) (XA : Nat → Nat → Int32) (D : en_H), i + j = 212 → HV Γ D → i ≤ g.2.2.2.2.1 → (∀ t, t < i → XA 8 t = iO (g.2.2.2.2.2.1 t)) →
    ∃ XA' D', b_X11_readPartSteps_1 sc m 1 (p + 51) (iO (i : Int)) (hp XI XA XP XC MI MA ML D) = some (some (.int (iO ((min g.2.2.2.2.1 212 : Nat) : Int))), hp XI XA' XP XC MI MA ML D') ∧ HV Γ D' ∧ KP Γ g.2.1 D D' ∧ (∀ t, t ≠ 8 → XA' t = XA t) ∧ (∀ t, t < min g.2.2.2.2.1 212 → XA' 8 t = iO (g.2.2.2.2.2.1 t)) := by
  intro j
  induction j with
  | zero =>
    intro i XA D hi hV hsz hs
    obtain rfl : i = 212 := by omega
    refine ⟨XA, D, ?_, hV, KP.refl, fun _ _ => rfl, fun t ht => hs t (by omega)⟩
    rw [eb_X11_readPartSteps_1, show min g.2.2.2.2.1 212 = 212 by omega]
    clear hs
    simp (disch := (first | assumption | (unfold i32; omega) | (unfold i64; omega) | omega)) only [↓reduceIte, ki_0, ki_1, ki_2, ki_3, ki_4, ki_5, ki_6, ki_7, ki_8, ki_9, ki_10, ki_11, ki_12, ki_13, ki_14, ki_15, ki_20, ki_21, ki_30, ki_31, ki_40, ki_41, ki_50, ki_51, ki_60, ki_63, ki_64, ki_65, ki_100, ki_158, ki_160, ki_200, ki_212, ki_1000, ki_2000, ki_2001, ki_5000, ki_10000, ki_10001, ki_100000, ki_200000, ki_1000000, ki_2000000, ki_3000000, iO_neg, iO_add, iO_sub, iO_mul, kn_4, kn_8, kn_10, kn_20, kn_24, kn_40, kn_41, kn_50, kn_60, kn_158, kn_160, kn_200, kn_212, kn_2001, tn_lt, fn_lt, tn_le, fn_le, tn_eq, fn_eq, x_lt, x_le, x_eq, x_ix, x_nat, t_lt, f_lt, t_le, f_le, t_eq, f_eq, eq_self, and_self, true_and, and_true, false_and, and_false, if_true, if_false, Int.toNat_natCast, bI_s, bL_s, bA_s, bA_n, bV_s, mq_s, mq_n, en_le, bl_0, bl_1, u_eq, u_ne, w_eq, w_ne, v_eq, v_ne, ↓hp_cc_1, ↓hp_g_1_0, ↓hp_g_1_1, ↓hp_g_1_2, ↓hp_g_1_3, ↓hp_g_1_4, ↓hp_g_1_5, ↓hp_g_1_6, ↓hp_g_1_7, ↓hp_g_1_8, ↓hp_p_1_8, ↓hp_g_1_9, ↓hp_p_1_9, ↓hp_g_1_10, ↓hp_p_1_10, ↓hp_a_2, ↓hp_n_2, ↓hp_a_3, ↓hp_n_3, ↓hp_a_4, ↓hp_a_16, ↓hp_s_16, ↓hp_l_16, ↓hp_a_17, ↓hp_s_17, ↓hp_l_17]
    try rfl
  | succ j ih =>
    intro i XA D hi hV hsz hs
    obtain ⟨D1, s1, s2, s3⟩ := step_ok (sc := sc) g.2.1 p g hg rfl m XI XA XP XC MI MA ML D (i : Int) hV (by unfold i32; omega) (by omega)
    obtain ⟨-, g2, g3, -⟩ := hV p g hg
    by_cases e : i < g.2.2.2.2.1
    · have hst : stp g (i : Int) = g.2.2.2.2.2.1 i := by
        unfold stp
        rw [if_pos (by omega)]
        congr 1
      obtain ⟨v1, v2⟩ := g3 i e
      obtain ⟨XA', D', f1, f2, f3, f4, f5⟩ := ih (i + 1) (va_up XA 8 (upd (XA 8) i (iO (g.2.2.2.2.2.1 i)))) D1 (by omega) s2 (by omega) (by
        intro t ht
        rw [w_eq rfl]
        by_cases e2 : t = i
        · subst e2
          rw [u_eq rfl]
        · rw [u_ne e2]
          exact hs t (by omega))
      refine ⟨XA', D', ?_, f2, s3.trans f3 (Nat.le_refl _), fun t ht => by rw [f4 t ht, w_ne ht], f5⟩
      rw [← f1, eb_X11_readPartSteps_1]
      rw [hst] at s1
      clear f1 f2 f3 f4 f5 ih hs g3 s2 s3 hst
      simp (disch := (first | assumption | (unfold i32; omega) | (unfold i64; omega) | omega)) only [↓reduceIte, ki_0, ki_1, ki_2, ki_3, ki_4, ki_5, ki_6, ki_7, ki_8, ki_9, ki_10, ki_11, ki_12, ki_13, ki_14, ki_15, ki_20, ki_21, ki_30, ki_31, ki_40, ki_41, ki_50, ki_51, ki_60, ki_63, ki_64, ki_65, ki_100, ki_158, ki_160, ki_200, ki_212, ki_1000, ki_2000, ki_2001, ki_5000, ki_10000, ki_10001, ki_100000, ki_200000, ki_1000000, ki_2000000, ki_3000000, iO_neg, iO_add, iO_sub, iO_mul, kn_4, kn_8, kn_10, kn_20, kn_24, kn_40, kn_41, kn_50, kn_60, kn_158, kn_160, kn_200, kn_212, kn_2001, tn_lt, fn_lt, tn_le, fn_le, tn_eq, fn_eq, x_lt, x_le, x_eq, x_ix, x_nat, t_lt, f_lt, t_le, f_le, t_eq, f_eq, eq_self, and_self, true_and, and_true, false_and, and_false, if_true, if_false, Int.toNat_natCast, bI_s, bL_s, bA_s, bA_n, bV_s, mq_s, mq_n, en_le, bl_0, bl_1, u_eq, u_ne, w_eq, w_ne, v_eq, v_ne, vt_bI, s1, ↓hp_cc_1, ↓hp_g_1_0, ↓hp_g_1_1, ↓hp_g_1_2, ↓hp_g_1_3, ↓hp_g_1_4, ↓hp_g_1_5, ↓hp_g_1_6, ↓hp_g_1_7, ↓hp_g_1_8, ↓hp_p_1_8, ↓hp_g_1_9, ↓hp_p_1_9, ↓hp_g_1_10, ↓hp_p_1_10, ↓hp_a_2, ↓hp_n_2, ↓hp_a_3, ↓hp_n_3, ↓hp_a_4, ↓hp_a_16, ↓hp_s_16, ↓hp_l_16, ↓hp_a_17, ↓hp_s_17, ↓hp_l_17]
      try rfl
    · have hst : stp g (i : Int) = -1 := by
        unfold stp
        rw [if_neg (by omega)]
      refine ⟨XA, D1, ?_, s2, s3, fun _ _ => rfl, fun t ht => hs t (by omega)⟩
      rw [eb_X11_readPartSteps_1, show min g.2.2.2.2.1 212 = i by omega]
      rw [hst] at s1
      clear ih hs g3 s2 s3 hst
      simp (disch := (first | assumption | (unfold i32; omega) | (unfold i64; omega) | omega)) only [↓reduceIte, ki_0, ki_1, ki_2, ki_3, ki_4, ki_5, ki_6, ki_7, ki_8, ki_9, ki_10, ki_11, ki_12, ki_13, ki_14, ki_15, ki_20, ki_21, ki_30, ki_31, ki_40, ki_41, ki_50, ki_51, ki_60, ki_63, ki_64, ki_65, ki_100, ki_158, ki_160, ki_200, ki_212, ki_1000, ki_2000, ki_2001, ki_5000, ki_10000, ki_10001, ki_100000, ki_200000, ki_1000000, ki_2000000, ki_3000000, iO_neg, iO_add, iO_sub, iO_mul, kn_4, kn_8, kn_10, kn_20, kn_24, kn_40, kn_41, kn_50, kn_60, kn_158, kn_160, kn_200, kn_212, kn_2001, tn_lt, fn_lt, tn_le, fn_le, tn_eq, fn_eq, x_lt, x_le, x_eq, x_ix, x_nat, t_lt, f_lt, t_le, f_le, t_eq, f_eq, eq_self, and_self, true_and, and_true, false_and, and_false, if_true, if_false, Int.toNat_natCast, bI_s, bL_s, bA_s, bA_n, bV_s, mq_s, mq_n, en_le, bl_0, bl_1, u_eq, u_ne, w_eq, w_ne, v_eq, v_ne, vt_bI, s1, ↓hp_cc_1, ↓hp_g_1_0, ↓hp_g_1_1, ↓hp_g_1_2, ↓hp_g_1_3, ↓hp_g_1_4, ↓hp_g_1_5, ↓hp_g_1_6, ↓hp_g_1_7, ↓hp_g_1_8, ↓hp_p_1_8, ↓hp_g_1_9, ↓hp_p_1_9, ↓hp_g_1_10, ↓hp_p_1_10, ↓hp_a_2, ↓hp_n_2, ↓hp_a_3, ↓hp_n_3, ↓hp_a_4, ↓hp_a_16, ↓hp_s_16, ↓hp_l_16, ↓hp_a_17, ↓hp_s_17, ↓hp_l_17]
end PRX
section PRY
variable {sc : en_S} {d : Nat} {XI : Nat → Int32} {XP : Nat → Nat → Option Nat} {XC : Value} {MI : Nat → Int32} {MA : Nat → Nat → Int32} {ML : Nat → Nat → Int64} {D : en_H} {L sz : Nat} {f : Nat → Int}
theorem x_alike {XA : Nat → Nat → Int32} (hL : L ≤ 12) (hf : ∀ i, i < min sz 212 → XA 8 i = iO (f i)) (hv : ∀ i, i < sz → 0 ≤ f i ∧ f i ≤ 100) {a b : Nat} (ha : a + L ≤ sz) (hb : b + L ≤ sz) (ha2 : a < 200) (hb2 : b < 200) : f_X11_readsAlike sc (d + 1) 1 (iO (a : Int)) (iO (b : Int)) (iO (L : Int)) (hp XI XA XP XC MI MA ML D) = some (some (.int (iO (if alk f L a b = true then 1 else 0))), hp XI XA XP XC MI MA ML D) := by
  have key : ∀ (j i : Nat), i + j = L → (∀ t, t < i → f (a + t) = f (b + t)) → b_X11_readsAlike_1 sc d 1 (iO (a : Int)) (iO (b : Int)) (iO (L : Int)) (iO (i : Int)) (hp XI XA XP XC MI MA ML D) = some (some (.int (iO (if alk f L a b = true then 1 else 0))), hp XI XA XP XC MI MA ML D) := by
    intro j
    induction j with
    | zero =>
      intro i hi h
      obtain rfl : i = L := by omega
      rw [if_pos (alk_iff.mpr h), eb_X11_readsAlike_1]
      clear hf hv h
      simp (disch := (first | assumption | (unfold i32; omega) | (unfold i64; omega) | omega)) only [↓reduceIte, ki_0, ki_1, ki_2, ki_3, ki_4, ki_5, ki_6, ki_7, ki_8, ki_9, ki_10, ki_11, ki_12, ki_13, ki_14, ki_15, ki_20, ki_21, ki_30, ki_31, ki_40, ki_41, ki_50, ki_51, ki_60, ki_63, ki_64, ki_65, ki_100, ki_158, ki_160, ki_200, ki_212, ki_1000, ki_2000, ki_2001, ki_5000, ki_10000, ki_10001, ki_100000, ki_200000, ki_1000000, ki_2000000, ki_3000000, iO_neg, iO_add, iO_sub, iO_mul, kn_4, kn_8, kn_10, kn_20, kn_24, kn_40, kn_41, kn_50, kn_60, kn_158, kn_160, kn_200, kn_212, kn_2001, tn_lt, fn_lt, tn_le, fn_le, tn_eq, fn_eq, x_lt, x_le, x_eq, x_ix, x_nat, t_lt, f_lt, t_le, f_le, t_eq, f_eq, eq_self, and_self, true_and, and_true, false_and, and_false, if_true, if_false, Int.toNat_natCast, bI_s, bL_s, bA_s, bA_n, bV_s, mq_s, mq_n, en_le, bl_0, bl_1, u_eq, u_ne, w_eq, w_ne, v_eq, v_ne]
    | succ j ih =>
      intro i hi h
      have h1 := hf (a + i) (by omega)
      have h2 := hf (b + i) (by omega)
      obtain ⟨v1, v2⟩ := hv (a + i) (by omega)
      obtain ⟨v3, v4⟩ := hv (b + i) (by omega)
      have e1 : ((a : Int) + (i : Int)).toNat = a + i := by omega
      have e2 : ((b : Int) + (i : Int)).toNat = b + i := by omega
      by_cases g : f (a + i) = f (b + i)
      · rw [← ih (i + 1) (by omega) (fun t ht => by
          by_cases e : t = i
          · subst e; exact g
          · exact h t (by omega)), eb_X11_readsAlike_1]
        clear ih hf hv h
        simp (disch := (first | assumption | (unfold i32; omega) | (unfold i64; omega) | omega)) only [↓reduceIte, ki_0, ki_1, ki_2, ki_3, ki_4, ki_5, ki_6, ki_7, ki_8, ki_9, ki_10, ki_11, ki_12, ki_13, ki_14, ki_15, ki_20, ki_21, ki_30, ki_31, ki_40, ki_41, ki_50, ki_51, ki_60, ki_63, ki_64, ki_65, ki_100, ki_158, ki_160, ki_200, ki_212, ki_1000, ki_2000, ki_2001, ki_5000, ki_10000, ki_10001, ki_100000, ki_200000, ki_1000000, ki_2000000, ki_3000000, iO_neg, iO_add, iO_sub, iO_mul, kn_4, kn_8, kn_10, kn_20, kn_24, kn_40, kn_41, kn_50, kn_60, kn_158, kn_160, kn_200, kn_212, kn_2001, tn_lt, fn_lt, tn_le, fn_le, tn_eq, fn_eq, x_lt, x_le, x_eq, x_ix, x_nat, t_lt, f_lt, t_le, f_le, t_eq, f_eq, eq_self, and_self, true_and, and_true, false_and, and_false, if_true, if_false, Int.toNat_natCast, bI_s, bL_s, bA_s, bA_n, bV_s, mq_s, mq_n, en_le, bl_0, bl_1, u_eq, u_ne, w_eq, w_ne, v_eq, v_ne, ↓hp_cc_1, ↓hp_g_1_0, ↓hp_g_1_1, ↓hp_g_1_2, ↓hp_g_1_3, ↓hp_g_1_4, ↓hp_g_1_5, ↓hp_g_1_6, ↓hp_g_1_7, ↓hp_g_1_8, ↓hp_p_1_8, ↓hp_g_1_9, ↓hp_p_1_9, ↓hp_g_1_10, ↓hp_p_1_10, ↓hp_a_2, ↓hp_n_2, ↓hp_a_3, ↓hp_n_3, ↓hp_a_4, ↓hp_a_16, ↓hp_s_16, ↓hp_l_16, ↓hp_a_17, ↓hp_s_17, ↓hp_l_17, e1, e2, h1, h2]
        try rfl
      · have hno : alk f L a b = false := alg_no (show i < L by omega) g
        rw [hno, if_neg Bool.false_ne_true, eb_X11_readsAlike_1]
        clear ih hf hv h hno
        simp (disch := (first | assumption | (unfold i32; omega) | (unfold i64; omega) | omega)) only [↓reduceIte, ki_0, ki_1, ki_2, ki_3, ki_4, ki_5, ki_6, ki_7, ki_8, ki_9, ki_10, ki_11, ki_12, ki_13, ki_14, ki_15, ki_20, ki_21, ki_30, ki_31, ki_40, ki_41, ki_50, ki_51, ki_60, ki_63, ki_64, ki_65, ki_100, ki_158, ki_160, ki_200, ki_212, ki_1000, ki_2000, ki_2001, ki_5000, ki_10000, ki_10001, ki_100000, ki_200000, ki_1000000, ki_2000000, ki_3000000, iO_neg, iO_add, iO_sub, iO_mul, kn_4, kn_8, kn_10, kn_20, kn_24, kn_40, kn_41, kn_50, kn_60, kn_158, kn_160, kn_200, kn_212, kn_2001, tn_lt, fn_lt, tn_le, fn_le, tn_eq, fn_eq, x_lt, x_le, x_eq, x_ix, x_nat, t_lt, f_lt, t_le, f_le, t_eq, f_eq, eq_self, and_self, true_and, and_true, false_and, and_false, if_true, if_false, Int.toNat_natCast, bI_s, bL_s, bA_s, bA_n, bV_s, mq_s, mq_n, en_le, bl_0, bl_1, u_eq, u_ne, w_eq, w_ne, v_eq, v_ne, ↓hp_cc_1, ↓hp_g_1_0, ↓hp_g_1_1, ↓hp_g_1_2, ↓hp_g_1_3, ↓hp_g_1_4, ↓hp_g_1_5, ↓hp_g_1_6, ↓hp_g_1_7, ↓hp_g_1_8, ↓hp_p_1_8, ↓hp_g_1_9, ↓hp_p_1_9, ↓hp_g_1_10, ↓hp_p_1_10, ↓hp_a_2, ↓hp_n_2, ↓hp_a_3, ↓hp_n_3, ↓hp_a_4, ↓hp_a_16, ↓hp_s_16, ↓hp_l_16, ↓hp_a_17, ↓hp_s_17, ↓hp_l_17, e1, e2, h1, h2]
  rw [e_X11_readsAlike]
  exact key L 0 (by omega) (fun t ht => by omega)
theorem x_backw {XA : Nat → Nat → Int32} (hL : L ≤ 12) (hf : ∀ i, i < min sz 212 → XA 8 i = iO (f i)) (hv : ∀ i, i < sz → 0 ≤ f i ∧ f i ≤ 100) {a : Nat} (ha : a + L ≤ sz) (ha2 : a < 200) : f_X11_readsAlikeBackward sc (d + 1) 1 (iO (a : Int)) (iO (L : Int)) (hp XI XA XP XC MI MA ML D) = some (some (.int (iO (if bwd f L a = true then 1 else 0))), hp XI XA XP XC MI MA ML D) := by
  have key : ∀ (j i : Nat), i + j = L → (∀ t, t < i → f (a + t) = f (a + (L - 1 - t))) → b_X11_readsAlikeBackward_1 sc d 1 (iO (a : Int)) (iO (L : Int)) (iO (i : Int)) (hp XI XA XP XC MI MA ML D) = some (some (.int (iO (if bwd f L a = true then 1 else 0))), hp XI XA XP XC MI MA ML D) := by
    intro j
    induction j with
    | zero =>
      intro i hi h
      obtain rfl : i = L := by omega
      have hb0 : bwd f i a = true := (alg_iff i).mpr h
      rw [hb0, if_pos rfl, eb_X11_readsAlikeBackward_1]
      clear hf hv h
      simp (disch := (first | assumption | (unfold i32; omega) | (unfold i64; omega) | omega)) only [↓reduceIte, ki_0, ki_1, ki_2, ki_3, ki_4, ki_5, ki_6, ki_7, ki_8, ki_9, ki_10, ki_11, ki_12, ki_13, ki_14, ki_15, ki_20, ki_21, ki_30, ki_31, ki_40, ki_41, ki_50, ki_51, ki_60, ki_63, ki_64, ki_65, ki_100, ki_158, ki_160, ki_200, ki_212, ki_1000, ki_2000, ki_2001, ki_5000, ki_10000, ki_10001, ki_100000, ki_200000, ki_1000000, ki_2000000, ki_3000000, iO_neg, iO_add, iO_sub, iO_mul, kn_4, kn_8, kn_10, kn_20, kn_24, kn_40, kn_41, kn_50, kn_60, kn_158, kn_160, kn_200, kn_212, kn_2001, tn_lt, fn_lt, tn_le, fn_le, tn_eq, fn_eq, x_lt, x_le, x_eq, x_ix, x_nat, t_lt, f_lt, t_le, f_le, t_eq, f_eq, eq_self, and_self, true_and, and_true, false_and, and_false, if_true, if_false, Int.toNat_natCast, bI_s, bL_s, bA_s, bA_n, bV_s, mq_s, mq_n, en_le, bl_0, bl_1, u_eq, u_ne, w_eq, w_ne, v_eq, v_ne]
    | succ j ih =>
      intro i hi h
      have h1 := hf (a + i) (by omega)
      have h2 := hf (a + (L - 1 - i)) (by omega)
      obtain ⟨v1, v2⟩ := hv (a + i) (by omega)
      obtain ⟨v3, v4⟩ := hv (a + (L - 1 - i)) (by omega)
      have e1 : ((a : Int) + (i : Int)).toNat = a + i := by omega
      have e2 : ((a : Int) + (L : Int) - 1 - (i : Int)).toNat = a + (L - 1 - i) := by omega
      by_cases g : f (a + i) = f (a + (L - 1 - i))
      · rw [← ih (i + 1) (by omega) (fun t ht => by
          by_cases e : t = i
          · subst e; exact g
          · exact h t (by omega)), eb_X11_readsAlikeBackward_1]
        clear ih hf hv h
        simp (disch := (first | assumption | (unfold i32; omega) | (unfold i64; omega) | omega)) only [↓reduceIte, ki_0, ki_1, ki_2, ki_3, ki_4, ki_5, ki_6, ki_7, ki_8, ki_9, ki_10, ki_11, ki_12, ki_13, ki_14, ki_15, ki_20, ki_21, ki_30, ki_31, ki_40, ki_41, ki_50, ki_51, ki_60, ki_63, ki_64, ki_65, ki_100, ki_158, ki_160, ki_200, ki_212, ki_1000, ki_2000, ki_2001, ki_5000, ki_10000, ki_10001, ki_100000, ki_200000, ki_1000000, ki_2000000, ki_3000000, iO_neg, iO_add, iO_sub, iO_mul, kn_4, kn_8, kn_10, kn_20, kn_24, kn_40, kn_41, kn_50, kn_60, kn_158, kn_160, kn_200, kn_212, kn_2001, tn_lt, fn_lt, tn_le, fn_le, tn_eq, fn_eq, x_lt, x_le, x_eq, x_ix, x_nat, t_lt, f_lt, t_le, f_le, t_eq, f_eq, eq_self, and_self, true_and, and_true, false_and, and_false, if_true, if_false, Int.toNat_natCast, bI_s, bL_s, bA_s, bA_n, bV_s, mq_s, mq_n, en_le, bl_0, bl_1, u_eq, u_ne, w_eq, w_ne, v_eq, v_ne, ↓hp_cc_1, ↓hp_g_1_0, ↓hp_g_1_1, ↓hp_g_1_2, ↓hp_g_1_3, ↓hp_g_1_4, ↓hp_g_1_5, ↓hp_g_1_6, ↓hp_g_1_7, ↓hp_g_1_8, ↓hp_p_1_8, ↓hp_g_1_9, ↓hp_p_1_9, ↓hp_g_1_10, ↓hp_p_1_10, ↓hp_a_2, ↓hp_n_2, ↓hp_a_3, ↓hp_n_3, ↓hp_a_4, ↓hp_a_16, ↓hp_s_16, ↓hp_l_16, ↓hp_a_17, ↓hp_s_17, ↓hp_l_17, e1, e2, h1, h2]
        try rfl
      · have hno : bwd f L a = false := alg_no (show i < L by omega) g
        rw [hno, if_neg Bool.false_ne_true, eb_X11_readsAlikeBackward_1]
        clear ih hf hv h hno
        simp (disch := (first | assumption | (unfold i32; omega) | (unfold i64; omega) | omega)) only [↓reduceIte, ki_0, ki_1, ki_2, ki_3, ki_4, ki_5, ki_6, ki_7, ki_8, ki_9, ki_10, ki_11, ki_12, ki_13, ki_14, ki_15, ki_20, ki_21, ki_30, ki_31, ki_40, ki_41, ki_50, ki_51, ki_60, ki_63, ki_64, ki_65, ki_100, ki_158, ki_160, ki_200, ki_212, ki_1000, ki_2000, ki_2001, ki_5000, ki_10000, ki_10001, ki_100000, ki_200000, ki_1000000, ki_2000000, ki_3000000, iO_neg, iO_add, iO_sub, iO_mul, kn_4, kn_8, kn_10, kn_20, kn_24, kn_40, kn_41, kn_50, kn_60, kn_158, kn_160, kn_200, kn_212, kn_2001, tn_lt, fn_lt, tn_le, fn_le, tn_eq, fn_eq, x_lt, x_le, x_eq, x_ix, x_nat, t_lt, f_lt, t_le, f_le, t_eq, f_eq, eq_self, and_self, true_and, and_true, false_and, and_false, if_true, if_false, Int.toNat_natCast, bI_s, bL_s, bA_s, bA_n, bV_s, mq_s, mq_n, en_le, bl_0, bl_1, u_eq, u_ne, w_eq, w_ne, v_eq, v_ne, ↓hp_cc_1, ↓hp_g_1_0, ↓hp_g_1_1, ↓hp_g_1_2, ↓hp_g_1_3, ↓hp_g_1_4, ↓hp_g_1_5, ↓hp_g_1_6, ↓hp_g_1_7, ↓hp_g_1_8, ↓hp_p_1_8, ↓hp_g_1_9, ↓hp_p_1_9, ↓hp_g_1_10, ↓hp_p_1_10, ↓hp_a_2, ↓hp_n_2, ↓hp_a_3, ↓hp_n_3, ↓hp_a_4, ↓hp_a_16, ↓hp_s_16, ↓hp_l_16, ↓hp_a_17, ↓hp_s_17, ↓hp_l_17, e1, e2, h1, h2]
  rw [e_X11_readsAlikeBackward]
  exact key L 0 (by omega) (fun t ht => by omega)
theorem x_among {XA : Nat → Nat → Int32} (hL : L ≤ 12) (hf : ∀ i, i < min sz 212 → XA 8 i = iO (f i)) (hv : ∀ i, i < sz → 0 ≤ f i ∧ f i ≤ 100) {a : Nat} (ha : a + L ≤ sz) (ha2 : a < 200) (hs : ∀ (t s : Nat), (nls f L a)[t]? = some s → XA 9 t = iO (s : Int)) : f_X11_isAmongParts sc (d + 2) 1 (iO (a : Int)) (iO (L : Int)) (iO (((nls f L a).length : Nat) : Int)) (hp XI XA XP XC MI MA ML D) = some (some (.int (iO (if nwa f L a = true then 0 else 1))), hp XI XA XP XC MI MA ML D) := by
  have hlen : (nls f L a).length ≤ 200 := by
    have := nls_len (f := f) (L := L) a
    have := tb_le (nwa f L) a
    omega
  have key : ∀ (j i : Nat), i + j = (nls f L a).length → (∀ (t s : Nat), t < i → (nls f L a)[t]? = some s → alk f L a s = false) → b_X11_isAmongParts_1 sc (d + 1) 1 (iO (a : Int)) (iO (L : Int)) (iO (((nls f L a).length : Nat) : Int)) (iO (i : Int)) (hp XI XA XP XC MI MA ML D) = some (some (.int (iO (if nwa f L a = true then 0 else 1))), hp XI XA XP XC MI MA ML D) := by
    intro j
    induction j with
    | zero =>
      intro i hi h
      have hn : nwa f L a = true := by
        cases e : nwa f L a with
        | true => rfl
        | false =>
          obtain ⟨s, s1, s2⟩ := nwa_not.mp e
          obtain ⟨t, ht⟩ := List.mem_iff_getElem?.mp s1
          have := h t s (by have := (List.getElem?_eq_some_iff.mp ht).1; omega) ht
          rw [s2] at this
          cases this
      rw [hn, if_pos rfl, eb_X11_isAmongParts_1]
      clear hf hv h hs
      generalize (nls f L a).length = U at *
      simp (disch := (first | assumption | (unfold i32; omega) | (unfold i64; omega) | omega)) only [↓reduceIte, ki_0, ki_1, ki_2, ki_3, ki_4, ki_5, ki_6, ki_7, ki_8, ki_9, ki_10, ki_11, ki_12, ki_13, ki_14, ki_15, ki_20, ki_21, ki_30, ki_31, ki_40, ki_41, ki_50, ki_51, ki_60, ki_63, ki_64, ki_65, ki_100, ki_158, ki_160, ki_200, ki_212, ki_1000, ki_2000, ki_2001, ki_5000, ki_10000, ki_10001, ki_100000, ki_200000, ki_1000000, ki_2000000, ki_3000000, iO_neg, iO_add, iO_sub, iO_mul, kn_4, kn_8, kn_10, kn_20, kn_24, kn_40, kn_41, kn_50, kn_60, kn_158, kn_160, kn_200, kn_212, kn_2001, tn_lt, fn_lt, tn_le, fn_le, tn_eq, fn_eq, x_lt, x_le, x_eq, x_ix, x_nat, t_lt, f_lt, t_le, f_le, t_eq, f_eq, eq_self, and_self, true_and, and_true, false_and, and_false, if_true, if_false, Int.toNat_natCast, bI_s, bL_s, bA_s, bA_n, bV_s, mq_s, mq_n, en_le, bl_0, bl_1, u_eq, u_ne, w_eq, w_ne, v_eq, v_ne]
    | succ j ih =>
      intro i hi h
      obtain ⟨s, hs1⟩ : ∃ s, (nls f L a)[i]? = some s := ⟨_, List.getElem?_eq_getElem (by omega)⟩
      have hs2 := hs i s hs1
      obtain ⟨m1, m2⟩ := (nls_mem a).mp (List.mem_of_getElem? hs1)
      have hal := x_alike (sc := sc) (d := d) (XI := XI) (XA := XA) (XP := XP) (XC := XC) (MI := MI) (MA := MA) (ML := ML) (D := D) hL hf hv (a := a) (b := s) ha (by omega) ha2 (by omega)
      cases hq : alk f L a s with
      | true =>
        have hn : nwa f L a = false := nwa_not.mpr ⟨s, List.mem_of_getElem? hs1, hq⟩
        rw [hq, if_pos rfl] at hal
        rw [hn, if_neg Bool.false_ne_true, eb_X11_isAmongParts_1]
        clear hf hv h hs ih
        generalize (nls f L a).length = U at *
        simp (disch := (first | assumption | (unfold i32; omega) | (unfold i64; omega) | omega)) only [↓reduceIte, ki_0, ki_1, ki_2, ki_3, ki_4, ki_5, ki_6, ki_7, ki_8, ki_9, ki_10, ki_11, ki_12, ki_13, ki_14, ki_15, ki_20, ki_21, ki_30, ki_31, ki_40, ki_41, ki_50, ki_51, ki_60, ki_63, ki_64, ki_65, ki_100, ki_158, ki_160, ki_200, ki_212, ki_1000, ki_2000, ki_2001, ki_5000, ki_10000, ki_10001, ki_100000, ki_200000, ki_1000000, ki_2000000, ki_3000000, iO_neg, iO_add, iO_sub, iO_mul, kn_4, kn_8, kn_10, kn_20, kn_24, kn_40, kn_41, kn_50, kn_60, kn_158, kn_160, kn_200, kn_212, kn_2001, tn_lt, fn_lt, tn_le, fn_le, tn_eq, fn_eq, x_lt, x_le, x_eq, x_ix, x_nat, t_lt, f_lt, t_le, f_le, t_eq, f_eq, eq_self, and_self, true_and, and_true, false_and, and_false, if_true, if_false, Int.toNat_natCast, bI_s, bL_s, bA_s, bA_n, bV_s, mq_s, mq_n, en_le, bl_0, bl_1, u_eq, u_ne, w_eq, w_ne, v_eq, v_ne, ↓hp_cc_1, ↓hp_g_1_0, ↓hp_g_1_1, ↓hp_g_1_2, ↓hp_g_1_3, ↓hp_g_1_4, ↓hp_g_1_5, ↓hp_g_1_6, ↓hp_g_1_7, ↓hp_g_1_8, ↓hp_p_1_8, ↓hp_g_1_9, ↓hp_p_1_9, ↓hp_g_1_10, ↓hp_p_1_10, ↓hp_a_2, ↓hp_n_2, ↓hp_a_3, ↓hp_n_3, ↓hp_a_4, ↓hp_a_16, ↓hp_s_16, ↓hp_l_16, ↓hp_a_17, ↓hp_s_17, ↓hp_l_17, hs2, hal]
      | false =>
        rw [hq, if_neg Bool.false_ne_true] at hal
        rw [← ih (i + 1) (by omega) (fun t s' ht hts => by
          by_cases e : t = i
          · subst e
            rw [hs1] at hts
            cases hts
            exact hq
          · exact h t s' (by omega) hts), eb_X11_isAmongParts_1]
        clear hf hv h hs ih
        generalize (nls f L a).length = U at *
        simp (disch := (first | assumption | (unfold i32; omega) | (unfold i64; omega) | omega)) only [↓reduceIte, ki_0, ki_1, ki_2, ki_3, ki_4, ki_5, ki_6, ki_7, ki_8, ki_9, ki_10, ki_11, ki_12, ki_13, ki_14, ki_15, ki_20, ki_21, ki_30, ki_31, ki_40, ki_41, ki_50, ki_51, ki_60, ki_63, ki_64, ki_65, ki_100, ki_158, ki_160, ki_200, ki_212, ki_1000, ki_2000, ki_2001, ki_5000, ki_10000, ki_10001, ki_100000, ki_200000, ki_1000000, ki_2000000, ki_3000000, iO_neg, iO_add, iO_sub, iO_mul, kn_4, kn_8, kn_10, kn_20, kn_24, kn_40, kn_41, kn_50, kn_60, kn_158, kn_160, kn_200, kn_212, kn_2001, tn_lt, fn_lt, tn_le, fn_le, tn_eq, fn_eq, x_lt, x_le, x_eq, x_ix, x_nat, t_lt, f_lt, t_le, f_le, t_eq, f_eq, eq_self, and_self, true_and, and_true, false_and, and_false, if_true, if_false, Int.toNat_natCast, bI_s, bL_s, bA_s, bA_n, bV_s, mq_s, mq_n, en_le, bl_0, bl_1, u_eq, u_ne, w_eq, w_ne, v_eq, v_ne, ↓hp_cc_1, ↓hp_g_1_0, ↓hp_g_1_1, ↓hp_g_1_2, ↓hp_g_1_3, ↓hp_g_1_4, ↓hp_g_1_5, ↓hp_g_1_6, ↓hp_g_1_7, ↓hp_g_1_8, ↓hp_p_1_8, ↓hp_g_1_9, ↓hp_p_1_9, ↓hp_g_1_10, ↓hp_p_1_10, ↓hp_a_2, ↓hp_n_2, ↓hp_a_3, ↓hp_n_3, ↓hp_a_4, ↓hp_a_16, ↓hp_s_16, ↓hp_l_16, ↓hp_a_17, ↓hp_s_17, ↓hp_l_17, hs2, hal]
        try rfl
  rw [e_X11_isAmongParts]
  exact key (nls f L a).length 0 (by omega) (fun t s ht => by omega)
theorem x_unlike (hL1 : 1 ≤ L) (hL : L ≤ 12) (hsz : sz ≤ 10001) (hv : ∀ i, i < sz → 0 ≤ f i ∧ f i ≤ 100) : ∀ (j a : Nat) (XA : Nat → Nat → Int32), a + j = pcn sz L → (∀ i, i < min sz 212 → XA 8 i = iO (f i)) → (∀ (t s : Nat), (nls f L a)[t]? = some s → XA 9 t = iO (s : Int)) →
    ∃ XA', b_X11_findUnlike_1 sc (d + 2) 1 (iO ((min sz 212 : Nat) : Int)) (iO (L : Int)) (iO (((nls f L a).length : Nat) : Int)) (iO (a : Int)) (hp XI XA XP XC MI MA ML D) = some (some (.int (iO (((nls f L (pcn sz L)).length : Nat) : Int))), hp XI XA' XP XC MI MA ML D) ∧ (∀ t, t ≠ 9 → XA' t = XA t) ∧ (∀ (t s : Nat), (nls f L (pcn sz L))[t]? = some s → XA' 9 t = iO (s : Int)) := by
  intro j
  induction j with
  | zero =>
    intro a XA ha hf hs
    obtain rfl : a = pcn sz L := by omega
    have hp1 : pcn sz L ≤ 200 := Nat.min_le_left _ _
    refine ⟨XA, ?_, fun _ _ => rfl, hs⟩
    rw [eb_X11_findUnlike_1]
    have hlen : (nls f L (pcn sz L)).length ≤ 200 := by
      have := nls_len (f := f) (L := L) (pcn sz L)
      have := tb_le (nwa f L) (pcn sz L)
      omega
    generalize (nls f L (pcn sz L)).length = U at *
    by_cases g : 200 ≤ pcn sz L
    · generalize pcn sz L = P at *
      clear hf hv hs
      simp (disch := (first | assumption | (unfold i32; omega) | (unfold i64; omega) | omega)) only [↓reduceIte, ki_0, ki_1, ki_2, ki_3, ki_4, ki_5, ki_6, ki_7, ki_8, ki_9, ki_10, ki_11, ki_12, ki_13, ki_14, ki_15, ki_20, ki_21, ki_30, ki_31, ki_40, ki_41, ki_50, ki_51, ki_60, ki_63, ki_64, ki_65, ki_100, ki_158, ki_160, ki_200, ki_212, ki_1000, ki_2000, ki_2001, ki_5000, ki_10000, ki_10001, ki_100000, ki_200000, ki_1000000, ki_2000000, ki_3000000, iO_neg, iO_add, iO_sub, iO_mul, kn_4, kn_8, kn_10, kn_20, kn_24, kn_40, kn_41, kn_50, kn_60, kn_158, kn_160, kn_200, kn_212, kn_2001, tn_lt, fn_lt, tn_le, fn_le, tn_eq, fn_eq, x_lt, x_le, x_eq, x_ix, x_nat, t_lt, f_lt, t_le, f_le, t_eq, f_eq, eq_self, and_self, true_and, and_true, false_and, and_false, if_true, if_false, Int.toNat_natCast, bI_s, bL_s, bA_s, bA_n, bV_s, mq_s, mq_n, en_le, bl_0, bl_1, u_eq, u_ne, w_eq, w_ne, v_eq, v_ne]
    · have g2 : min sz 212 < pcn sz L + L := by unfold pcn at g ⊢; omega
      have hM2 : min sz 212 ≤ 212 := Nat.min_le_right _ _
      generalize pcn sz L = P at *
      generalize min sz 212 = M at *
      clear hf hv hs
      simp (disch := (first | assumption | (unfold i32; omega) | (unfold i64; omega) | omega)) only [↓reduceIte, ki_0, ki_1, ki_2, ki_3, ki_4, ki_5, ki_6, ki_7, ki_8, ki_9, ki_10, ki_11, ki_12, ki_13, ki_14, ki_15, ki_20, ki_21, ki_30, ki_31, ki_40, ki_41, ki_50, ki_51, ki_60, ki_63, ki_64, ki_65, ki_100, ki_158, ki_160, ki_200, ki_212, ki_1000, ki_2000, ki_2001, ki_5000, ki_10000, ki_10001, ki_100000, ki_200000, ki_1000000, ki_2000000, ki_3000000, iO_neg, iO_add, iO_sub, iO_mul, kn_4, kn_8, kn_10, kn_20, kn_24, kn_40, kn_41, kn_50, kn_60, kn_158, kn_160, kn_200, kn_212, kn_2001, tn_lt, fn_lt, tn_le, fn_le, tn_eq, fn_eq, x_lt, x_le, x_eq, x_ix, x_nat, t_lt, f_lt, t_le, f_le, t_eq, f_eq, eq_self, and_self, true_and, and_true, false_and, and_false, if_true, if_false, Int.toNat_natCast, bI_s, bL_s, bA_s, bA_n, bV_s, mq_s, mq_n, en_le, bl_0, bl_1, u_eq, u_ne, w_eq, w_ne, v_eq, v_ne]
  | succ j ih =>
    intro a XA ha hf hs
    have hp1 : pcn sz L ≤ 200 := Nat.min_le_left _ _
    have haL : a + L ≤ sz := by unfold pcn at ha; omega
    have ha2 : a < 200 := by omega
    have ham := x_among (sc := sc) (d := d) (XI := XI) (XP := XP) (XC := XC) (MI := MI) (MA := MA) (ML := ML) (D := D) hL hf hv haL ha2 hs
    have hlen : (nls f L a).length ≤ a := by
      have := nls_len (f := f) (L := L) a
      have := tb_le (nwa f L) a
      omega
    have hM : a + L ≤ min sz 212 := by omega
    have hM2 : min sz 212 ≤ 212 := Nat.min_le_right _ _
    cases hn : nwa f L a with
    | true =>
      have en : nls f L (a + 1) = nls f L a ++ [a] := by rw [nls, if_pos hn]
      obtain ⟨XA', f1, f2, f3⟩ := ih (a + 1) (va_up XA 9 (upd (XA 9) (nls f L a).length (iO (a : Int)))) (by omega) hf (by
        intro t s hts
        rw [en, List.getElem?_append] at hts
        rw [w_eq rfl]
        split at hts
        · rename_i h
          rw [u_ne (by omega)]
          exact hs t s hts
        · rename_i h
          have : t = (nls f L a).length := by
            have := (List.getElem?_eq_some_iff.mp hts).1
            simp at this
            omega
          subst this
          rw [Nat.sub_self] at hts
          cases hts
          rw [u_eq rfl])
      refine ⟨XA', ?_, fun t ht => by rw [f2 t ht, w_ne ht], f3⟩
      rw [hn, if_pos rfl] at ham
      rw [← f1, en, List.length_append, eb_X11_findUnlike_1]
      clear ih hf hv hs f1 f2 f3 hn en
      generalize (nls f L a).length = U at *
      generalize min sz 212 = M at *
      simp (disch := (first | assumption | (unfold i32; omega) | (unfold i64; omega) | omega)) only [↓reduceIte, ki_0, ki_1, ki_2, ki_3, ki_4, ki_5, ki_6, ki_7, ki_8, ki_9, ki_10, ki_11, ki_12, ki_13, ki_14, ki_15, ki_20, ki_21, ki_30, ki_31, ki_40, ki_41, ki_50, ki_51, ki_60, ki_63, ki_64, ki_65, ki_100, ki_158, ki_160, ki_200, ki_212, ki_1000, ki_2000, ki_2001, ki_5000, ki_10000, ki_10001, ki_100000, ki_200000, ki_1000000, ki_2000000, ki_3000000, iO_neg, iO_add, iO_sub, iO_mul, kn_4, kn_8, kn_10, kn_20, kn_24, kn_40, kn_41, kn_50, kn_60, kn_158, kn_160, kn_200, kn_212, kn_2001, tn_lt, fn_lt, tn_le, fn_le, tn_eq, fn_eq, x_lt, x_le, x_eq, x_ix, x_nat, t_lt, f_lt, t_le, f_le, t_eq, f_eq, eq_self, and_self, true_and, and_true, false_and, and_false, if_true, if_false, Int.toNat_natCast, bI_s, bL_s, bA_s, bA_n, bV_s, mq_s, mq_n, en_le, bl_0, bl_1, u_eq, u_ne, w_eq, w_ne, v_eq, v_ne, ↓hp_cc_1, ↓hp_g_1_0, ↓hp_g_1_1, ↓hp_g_1_2, ↓hp_g_1_3, ↓hp_g_1_4, ↓hp_g_1_5, ↓hp_g_1_6, ↓hp_g_1_7, ↓hp_g_1_8, ↓hp_p_1_8, ↓hp_g_1_9, ↓hp_p_1_9, ↓hp_g_1_10, ↓hp_p_1_10, ↓hp_a_2, ↓hp_n_2, ↓hp_a_3, ↓hp_n_3, ↓hp_a_4, ↓hp_a_16, ↓hp_s_16, ↓hp_l_16, ↓hp_a_17, ↓hp_s_17, ↓hp_l_17, ham]
      try rfl
    | false =>
      have en : nls f L (a + 1) = nls f L a := by rw [nls, hn, if_neg Bool.false_ne_true]
      obtain ⟨XA', f1, f2, f3⟩ := ih (a + 1) XA (by omega) hf (by rw [en]; exact hs)
      refine ⟨XA', ?_, f2, f3⟩
      rw [hn, if_neg Bool.false_ne_true] at ham
      rw [← f1, en, eb_X11_findUnlike_1]
      clear ih hf hv hs f1 f2 f3 hn en
      generalize (nls f L a).length = U at *
      generalize min sz 212 = M at *
      simp (disch := (first | assumption | (unfold i32; omega) | (unfold i64; omega) | omega)) only [↓reduceIte, ki_0, ki_1, ki_2, ki_3, ki_4, ki_5, ki_6, ki_7, ki_8, ki_9, ki_10, ki_11, ki_12, ki_13, ki_14, ki_15, ki_20, ki_21, ki_30, ki_31, ki_40, ki_41, ki_50, ki_51, ki_60, ki_63, ki_64, ki_65, ki_100, ki_158, ki_160, ki_200, ki_212, ki_1000, ki_2000, ki_2001, ki_5000, ki_10000, ki_10001, ki_100000, ki_200000, ki_1000000, ki_2000000, ki_3000000, iO_neg, iO_add, iO_sub, iO_mul, kn_4, kn_8, kn_10, kn_20, kn_24, kn_40, kn_41, kn_50, kn_60, kn_158, kn_160, kn_200, kn_212, kn_2001, tn_lt, fn_lt, tn_le, fn_le, tn_eq, fn_eq, x_lt, x_le, x_eq, x_ix, x_nat, t_lt, f_lt, t_le, f_le, t_eq, f_eq, eq_self, and_self, true_and, and_true, false_and, and_false, if_true, if_false, Int.toNat_natCast, bI_s, bL_s, bA_s, bA_n, bV_s, mq_s, mq_n, en_le, bl_0, bl_1, u_eq, u_ne, w_eq, w_ne, v_eq, v_ne, ↓hp_cc_1, ↓hp_g_1_0, ↓hp_g_1_1, ↓hp_g_1_2, ↓hp_g_1_3, ↓hp_g_1_4, ↓hp_g_1_5, ↓hp_g_1_6, ↓hp_g_1_7, ↓hp_g_1_8, ↓hp_p_1_8, ↓hp_g_1_9, ↓hp_p_1_9, ↓hp_g_1_10, ↓hp_p_1_10, ↓hp_a_2, ↓hp_n_2, ↓hp_a_3, ↓hp_n_3, ↓hp_a_4, ↓hp_a_16, ↓hp_s_16, ↓hp_l_16, ↓hp_a_17, ↓hp_s_17, ↓hp_l_17, ham]
      try rfl
theorem x_parts4 {XA : Nat → Nat → Int32} (hL1 : 1 ≤ L) (hL : L ≤ 12) (hsz : sz ≤ 10001) (hf : ∀ i, i < min sz 212 → XA 8 i = iO (f i)) (hv : ∀ i, i < sz → 0 ≤ f i ∧ f i ≤ 100) (hs : ∀ (t s : Nat), (nls f L (pcn sz L))[t]? = some s → XA 9 t = iO (s : Int)) : ∀ (j i : Nat), i + j = (nls f L (pcn sz L)).length → b_X11_parts_4 sc (d + 1) 1 (iO (L : Int)) (iO (((nls f L (pcn sz L)).length : Nat) : Int)) (iO ((tb (fun t => bwd f L ((nls f L (pcn sz L))[t]?.getD 0)) i : Nat) : Int)) (iO (i : Int)) (hp XI XA XP XC MI MA ML D) = some (some (.int (iO ((tb (fun a => nwa f L a && bwd f L a) (pcn sz L) : Nat) : Int))), hp XI XA XP XC MI MA ML D) := by
  have hp1 : pcn sz L ≤ 200 := Nat.min_le_left _ _
  have hlen : (nls f L (pcn sz L)).length ≤ 200 := by
    have := nls_len (f := f) (L := L) (pcn sz L)
    have := tb_le (nwa f L) (pcn sz L)
    omega
  intro j
  induction j with
  | zero =>
    intro i hi
    obtain rfl : i = (nls f L (pcn sz L)).length := by omega
    rw [tb_nls, eb_X11_parts_4]
    have hb := tb_le (fun a => nwa f L a && bwd f L a) (pcn sz L)
    generalize (nls f L (pcn sz L)).length = U at *
    generalize tb (fun a => nwa f L a && bwd f L a) (pcn sz L) = T at *
    clear hf hv hs
    simp (disch := (first | assumption | (unfold i32; omega) | (unfold i64; omega) | omega)) only [↓reduceIte, ki_0, ki_1, ki_2, ki_3, ki_4, ki_5, ki_6, ki_7, ki_8, ki_9, ki_10, ki_11, ki_12, ki_13, ki_14, ki_15, ki_20, ki_21, ki_30, ki_31, ki_40, ki_41, ki_50, ki_51, ki_60, ki_63, ki_64, ki_65, ki_100, ki_158, ki_160, ki_200, ki_212, ki_1000, ki_2000, ki_2001, ki_5000, ki_10000, ki_10001, ki_100000, ki_200000, ki_1000000, ki_2000000, ki_3000000, iO_neg, iO_add, iO_sub, iO_mul, kn_4, kn_8, kn_10, kn_20, kn_24, kn_40, kn_41, kn_50, kn_60, kn_158, kn_160, kn_200, kn_212, kn_2001, tn_lt, fn_lt, tn_le, fn_le, tn_eq, fn_eq, x_lt, x_le, x_eq, x_ix, x_nat, t_lt, f_lt, t_le, f_le, t_eq, f_eq, eq_self, and_self, true_and, and_true, false_and, and_false, if_true, if_false, Int.toNat_natCast, bI_s, bL_s, bA_s, bA_n, bV_s, mq_s, mq_n, en_le, bl_0, bl_1, u_eq, u_ne, w_eq, w_ne, v_eq, v_ne]
  | succ j ih =>
    intro i hi
    obtain ⟨s, hs1⟩ : ∃ s, (nls f L (pcn sz L))[i]? = some s := ⟨_, List.getElem?_eq_getElem (by omega)⟩
    have hs2 := hs i s hs1
    obtain ⟨m1, m2⟩ := (nls_mem (pcn sz L)).mp (List.mem_of_getElem? hs1)
    have hsL : s + L ≤ sz := by unfold pcn at m1; omega
    have hbk := x_backw (sc := sc) (d := d) (XI := XI) (XA := XA) (XP := XP) (XC := XC) (MI := MI) (MA := MA) (ML := ML) (D := D) hL hf hv (a := s) hsL (by omega)
    have ih' := ih (i + 1) (by omega)
    have estep : tb (fun t => bwd f L ((nls f L (pcn sz L))[t]?.getD 0)) (i + 1) = tb (fun t => bwd f L ((nls f L (pcn sz L))[t]?.getD 0)) i + (bwd f L s).toNat := by
      show tb (fun t => bwd f L ((nls f L (pcn sz L))[t]?.getD 0)) i + (bwd f L ((nls f L (pcn sz L))[i]?.getD 0)).toNat = _
      rw [hs1]
      rfl
    rw [estep] at ih'
    rw [← ih', eb_X11_parts_4]
    have hb := tb_le (fun t => bwd f L ((nls f L (pcn sz L))[t]?.getD 0)) i
    generalize tb (fun t => bwd f L ((nls f L (pcn sz L))[t]?.getD 0)) i = T at *
    generalize (nls f L (pcn sz L)).length = U at *
    clear hf hv hs ih ih' estep m1 m2
    cases hq : bwd f L s with
    | true =>
      rw [hq, if_pos rfl] at hbk
      simp (disch := (first | assumption | (unfold i32; omega) | (unfold i64; omega) | omega)) only [↓reduceIte, ki_0, ki_1, ki_2, ki_3, ki_4, ki_5, ki_6, ki_7, ki_8, ki_9, ki_10, ki_11, ki_12, ki_13, ki_14, ki_15, ki_20, ki_21, ki_30, ki_31, ki_40, ki_41, ki_50, ki_51, ki_60, ki_63, ki_64, ki_65, ki_100, ki_158, ki_160, ki_200, ki_212, ki_1000, ki_2000, ki_2001, ki_5000, ki_10000, ki_10001, ki_100000, ki_200000, ki_1000000, ki_2000000, ki_3000000, iO_neg, iO_add, iO_sub, iO_mul, kn_4, kn_8, kn_10, kn_20, kn_24, kn_40, kn_41, kn_50, kn_60, kn_158, kn_160, kn_200, kn_212, kn_2001, tn_lt, fn_lt, tn_le, fn_le, tn_eq, fn_eq, x_lt, x_le, x_eq, x_ix, x_nat, t_lt, f_lt, t_le, f_le, t_eq, f_eq, eq_self, and_self, true_and, and_true, false_and, and_false, if_true, if_false, Int.toNat_natCast, bI_s, bL_s, bA_s, bA_n, bV_s, mq_s, mq_n, en_le, bl_0, bl_1, u_eq, u_ne, w_eq, w_ne, v_eq, v_ne, ↓hp_cc_1, ↓hp_g_1_0, ↓hp_g_1_1, ↓hp_g_1_2, ↓hp_g_1_3, ↓hp_g_1_4, ↓hp_g_1_5, ↓hp_g_1_6, ↓hp_g_1_7, ↓hp_g_1_8, ↓hp_p_1_8, ↓hp_g_1_9, ↓hp_p_1_9, ↓hp_g_1_10, ↓hp_p_1_10, ↓hp_a_2, ↓hp_n_2, ↓hp_a_3, ↓hp_n_3, ↓hp_a_4, ↓hp_a_16, ↓hp_s_16, ↓hp_l_16, ↓hp_a_17, ↓hp_s_17, ↓hp_l_17, hs2, hbk, Bool.toNat_true]
      try rfl
    | false =>
      rw [hq, if_neg Bool.false_ne_true] at hbk
      simp (disch := (first | assumption | (unfold i32; omega) | (unfold i64; omega) | omega)) only [↓reduceIte, ki_0, ki_1, ki_2, ki_3, ki_4, ki_5, ki_6, ki_7, ki_8, ki_9, ki_10, ki_11, ki_12, ki_13, ki_14, ki_15, ki_20, ki_21, ki_30, ki_31, ki_40, ki_41, ki_50, ki_51, ki_60, ki_63, ki_64, ki_65, ki_100, ki_158, ki_160, ki_200, ki_212, ki_1000, ki_2000, ki_2001, ki_5000, ki_10000, ki_10001, ki_100000, ki_200000, ki_1000000, ki_2000000, ki_3000000, iO_neg, iO_add, iO_sub, iO_mul, kn_4, kn_8, kn_10, kn_20, kn_24, kn_40, kn_41, kn_50, kn_60, kn_158, kn_160, kn_200, kn_212, kn_2001, tn_lt, fn_lt, tn_le, fn_le, tn_eq, fn_eq, x_lt, x_le, x_eq, x_ix, x_nat, t_lt, f_lt, t_le, f_le, t_eq, f_eq, eq_self, and_self, true_and, and_true, false_and, and_false, if_true, if_false, Int.toNat_natCast, bI_s, bL_s, bA_s, bA_n, bV_s, mq_s, mq_n, en_le, bl_0, bl_1, u_eq, u_ne, w_eq, w_ne, v_eq, v_ne, ↓hp_cc_1, ↓hp_g_1_0, ↓hp_g_1_1, ↓hp_g_1_2, ↓hp_g_1_3, ↓hp_g_1_4, ↓hp_g_1_5, ↓hp_g_1_6, ↓hp_g_1_7, ↓hp_g_1_8, ↓hp_p_1_8, ↓hp_g_1_9, ↓hp_p_1_9, ↓hp_g_1_10, ↓hp_p_1_10, ↓hp_a_2, ↓hp_n_2, ↓hp_a_3, ↓hp_n_3, ↓hp_a_4, ↓hp_a_16, ↓hp_s_16, ↓hp_l_16, ↓hp_a_17, ↓hp_s_17, ↓hp_l_17, hs2, hbk, Bool.toNat_false, Nat.add_zero]
      try rfl
end PRY
section PRZ
variable {sc : en_S} {n : Nat} {S : ST5}
theorem cs_parts (hS : OK5 S) {r L w : Int} (hr : i32 r) (hL : i32 L) (hw : i32 w) : CS S S (p_parts S r L w) (fun z => f_X11_parts sc (n + 40) 1 (iO r) (iO L) (iO w) z) := by
  obtain ⟨w1, w2⟩ := id hw
  obtain ⟨l1, l2⟩ := id hL
  unfold p_parts
  cases hq : rowq S r with
  | none =>
    apply cs_ask
    intro XI XA XP XC MI MA ML D Γ hV
    show f_X11_parts sc (n + 40) 1 (iO r) (iO L) (iO w) _ = _
    rw [e_X11_parts]
    simp (disch := (first | assumption | (unfold i32; omega) | (unfold i64; omega) | omega)) only [↓reduceIte, ki_0, ki_1, ki_2, ki_3, ki_4, ki_5, ki_6, ki_7, ki_8, ki_9, ki_10, ki_11, ki_12, ki_13, ki_14, ki_15, ki_20, ki_21, ki_30, ki_31, ki_40, ki_41, ki_50, ki_51, ki_60, ki_63, ki_64, ki_65, ki_100, ki_158, ki_160, ki_200, ki_212, ki_1000, ki_2000, ki_2001, ki_5000, ki_10000, ki_10001, ki_100000, ki_200000, ki_1000000, ki_2000000, ki_3000000, iO_neg, iO_add, iO_sub, iO_mul, kn_4, kn_8, kn_10, kn_20, kn_24, kn_40, kn_41, kn_50, kn_60, kn_158, kn_160, kn_200, kn_212, kn_2001, tn_lt, fn_lt, tn_le, fn_le, tn_eq, fn_eq, x_lt, x_le, x_eq, x_ix, x_nat, t_lt, f_lt, t_le, f_le, t_eq, f_eq, eq_self, and_self, true_and, and_true, false_and, and_false, if_true, if_false, Int.toNat_natCast, bI_s, bL_s, bA_s, bA_n, bV_s, mq_s, mq_n, en_le, bl_0, bl_1, u_eq, u_ne, w_eq, w_ne, v_eq, v_ne, ↓hp_cc_1, ↓hp_g_1_0, ↓hp_g_1_1, ↓hp_g_1_2, ↓hp_g_1_3, ↓hp_g_1_4, ↓hp_g_1_5, ↓hp_g_1_6, ↓hp_g_1_7, ↓hp_g_1_8, ↓hp_p_1_8, ↓hp_g_1_9, ↓hp_p_1_9, ↓hp_g_1_10, ↓hp_p_1_10, ↓hp_a_2, ↓hp_n_2, ↓hp_a_3, ↓hp_n_3, ↓hp_a_4, x_rowAt0 hV hS hr hq]
  | some q =>
    obtain ⟨k, rfl, hk, hq2⟩ := rowq_some hq
    have hR := hS.2.2.2.1 q (List.mem_of_getElem? hq2)
    have hsz : q.2.2.1 ≤ 10001 := hR.2.2.2.2.1
    have hva := hR.2.2.2.2.2.1
    dsimp only
    by_cases g : 1 ≤ L ∧ L ≤ 12 ∧ 0 ≤ w ∧ w ≤ 1
    · rw [if_pos g]
      obtain ⟨g1, g2, g3, g4⟩ := g
      obtain ⟨y, rfl⟩ : ∃ y : Nat, L = y := ⟨L.toNat, by omega⟩
      rw [Int.toNat_natCast]
      intro XI XA XP XC MI MA ML D Γ hV
      obtain ⟨p, g, c1, c2, c3, c4, c5, c6, c7, c8, c9⟩ := hV.2.2.2.2.2.1 k q hq2
      have h9 := (hV.2.2.2.2.2.2.2.2 p g c2).1
      have hrow := x_rowAt1 (sc := sc) (n := n + 38) (XC := XC) (MI := MI) (MA := MA) (ML := ML) hV hS hq2 c1
      obtain ⟨XA1, D1, f1, f2, f3, f4, f5⟩ := x_rps (sc := sc) c2 h9 (m := n + 38) (by omega) XI XP XC MI MA ML 212 0 XA D (by omega) hV.2.2.2.2.2.2.2.2 (by omega) (fun t ht => by omega)
      rw [c7] at f1
      rw [c7, c8] at f5
      obtain ⟨XA2, e1, e2, e3⟩ := x_unlike (sc := sc) (d := n + 36) (XI := XI) (XP := XP) (XC := XC) (MI := MI) (MA := MA) (ML := ML) (D := D1) (L := y) (by omega) (by omega) hsz hva (pcn q.2.2.1 y) 0 XA1 (by omega) f5 (fun t s h => by cases h)
      have f1' : f_X11_readPartSteps sc (n + 39) 1 (p + 51) (hp XI XA XP XC MI MA ML D) = _ := (e_X11_readPartSteps _ _ _ _ _).trans f1
      have e1' : f_X11_findUnlike sc (n + 39) 1 (iO ((min q.2.2.1 212 : Nat) : Int)) (iO (y : Int)) (hp XI XA1 XP XC MI MA ML D1) = _ := (e_X11_findUnlike _ _ _ _ _ _).trans e1
      have h8 : ∀ i, i < min q.2.2.1 212 → XA2 8 i = iO (q.2.2.2 i) := fun i hi => by rw [e2 8 (by decide)]; exact f5 i hi
      have hp4 := x_parts4 (sc := sc) (d := n + 38) (XI := XI) (XP := XP) (XC := XC) (MI := MI) (MA := MA) (ML := ML) (D := D1) (L := y) (by omega) (by omega) hsz h8 hva e3 (nls q.2.2.2 y (pcn q.2.2.1 y)).length 0 (by omega)
      have hp4 : b_X11_parts_4 sc (n + 39) 1 (iO (y : Int)) (iO (((nls q.2.2.2 y (pcn q.2.2.1 y)).length : Nat) : Int)) (iO 0) (iO 0) (hp XI XA2 XP XC MI MA ML D1) = _ := hp4
      refine ⟨XI, XA2, XP, XC, D1, Γ, ?_, (hV.step f2 f3.2.2.1).scr (fun _ _ => rfl) (fun i hi => by rw [e2 i (by omega), f4 i (by omega)]), ⟨by rw [f3.1]; omega, by rw [f3.2.1]; omega⟩⟩
      show f_X11_parts sc (n + 40) 1 (iO (k : Int)) (iO (y : Int)) (iO w) _ = _
      rw [e_X11_parts]
      have hlen := nls_len (f := q.2.2.2) (L := y) (pcn q.2.2.1 y)
      have ecg : ∀ w : Int, w = 0 → tb (fun a => nwa q.2.2.2 y a && (decide (w = 0) || bwd q.2.2.2 y a)) (pcn q.2.2.1 y) = (nls q.2.2.2 y (pcn q.2.2.1 y)).length := fun w hw0 => by
        rw [hlen]
        exact tb_cg _ (fun i _ => by rw [decide_eq_true hw0, Bool.true_or, Bool.and_true])
      have ecg1 : ∀ w : Int, w = 1 → tb (fun a => nwa q.2.2.2 y a && (decide (w = 0) || bwd q.2.2.2 y a)) (pcn q.2.2.1 y) = tb (fun a => nwa q.2.2.2 y a && bwd q.2.2.2 y a) (pcn q.2.2.1 y) := fun w hw0 => tb_cg _ (fun i _ => by rw [decide_eq_false (show ¬ w = 0 by omega), Bool.false_or])
      have hb1 := tb_le (nwa q.2.2.2 y) (pcn q.2.2.1 y)
      have hb2 := tb_le (fun a => nwa q.2.2.2 y a && bwd q.2.2.2 y a) (pcn q.2.2.1 y)
      have hp1 : pcn q.2.2.1 y ≤ 200 := Nat.min_le_left _ _
      have hmn : min q.2.2.1 212 ≤ 212 := Nat.min_le_right _ _
      rcases (show w = 0 ∨ w = 1 by omega) with h0 | h0
      · rw [ecg w h0]
        subst h0
        clear f1 f2 f3 f4 f5 e1 e2 e3 h8 hV hva hp4 ecg ecg1 c9
        generalize (nls q.2.2.2 y (pcn q.2.2.1 y)).length = U at *
        generalize min q.2.2.1 212 = M at *
        simp (disch := (first | assumption | (unfold i32; omega) | (unfold i64; omega) | omega)) only [↓reduceIte, ki_0, ki_1, ki_2, ki_3, ki_4, ki_5, ki_6, ki_7, ki_8, ki_9, ki_10, ki_11, ki_12, ki_13, ki_14, ki_15, ki_20, ki_21, ki_30, ki_31, ki_40, ki_41, ki_50, ki_51, ki_60, ki_63, ki_64, ki_65, ki_100, ki_158, ki_160, ki_200, ki_212, ki_1000, ki_2000, ki_2001, ki_5000, ki_10000, ki_10001, ki_100000, ki_200000, ki_1000000, ki_2000000, ki_3000000, iO_neg, iO_add, iO_sub, iO_mul, kn_4, kn_8, kn_10, kn_20, kn_24, kn_40, kn_41, kn_50, kn_60, kn_158, kn_160, kn_200, kn_212, kn_2001, tn_lt, fn_lt, tn_le, fn_le, tn_eq, fn_eq, x_lt, x_le, x_eq, x_ix, x_nat, t_lt, f_lt, t_le, f_le, t_eq, f_eq, eq_self, and_self, true_and, and_true, false_and, and_false, if_true, if_false, Int.toNat_natCast, bI_s, bL_s, bA_s, bA_n, bV_s, mq_s, mq_n, en_le, bl_0, bl_1, u_eq, u_ne, w_eq, w_ne, v_eq, v_ne, ↓hp_cc_1, ↓hp_g_1_0, ↓hp_g_1_1, ↓hp_g_1_2, ↓hp_g_1_3, ↓hp_g_1_4, ↓hp_g_1_5, ↓hp_g_1_6, ↓hp_g_1_7, ↓hp_g_1_8, ↓hp_p_1_8, ↓hp_g_1_9, ↓hp_p_1_9, ↓hp_g_1_10, ↓hp_p_1_10, ↓hp_a_2, ↓hp_n_2, ↓hp_a_3, ↓hp_n_3, ↓hp_a_4, hrow, f1', e1']
      · rw [ecg1 w h0]
        subst h0
        clear f1 f2 f3 f4 f5 e1 e2 e3 h8 hV hva ecg ecg1 c9
        generalize (nls q.2.2.2 y (pcn q.2.2.1 y)).length = U at *
        generalize min q.2.2.1 212 = M at *
        simp (disch := (first | assumption | (unfold i32; omega) | (unfold i64; omega) | omega)) only [↓reduceIte, ki_0, ki_1, ki_2, ki_3, ki_4, ki_5, ki_6, ki_7, ki_8, ki_9, ki_10, ki_11, ki_12, ki_13, ki_14, ki_15, ki_20, ki_21, ki_30, ki_31, ki_40, ki_41, ki_50, ki_51, ki_60, ki_63, ki_64, ki_65, ki_100, ki_158, ki_160, ki_200, ki_212, ki_1000, ki_2000, ki_2001, ki_5000, ki_10000, ki_10001, ki_100000, ki_200000, ki_1000000, ki_2000000, ki_3000000, iO_neg, iO_add, iO_sub, iO_mul, kn_4, kn_8, kn_10, kn_20, kn_24, kn_40, kn_41, kn_50, kn_60, kn_158, kn_160, kn_200, kn_212, kn_2001, tn_lt, fn_lt, tn_le, fn_le, tn_eq, fn_eq, x_lt, x_le, x_eq, x_ix, x_nat, t_lt, f_lt, t_le, f_le, t_eq, f_eq, eq_self, and_self, true_and, and_true, false_and, and_false, if_true, if_false, Int.toNat_natCast, bI_s, bL_s, bA_s, bA_n, bV_s, mq_s, mq_n, en_le, bl_0, bl_1, u_eq, u_ne, w_eq, w_ne, v_eq, v_ne, ↓hp_cc_1, ↓hp_g_1_0, ↓hp_g_1_1, ↓hp_g_1_2, ↓hp_g_1_3, ↓hp_g_1_4, ↓hp_g_1_5, ↓hp_g_1_6, ↓hp_g_1_7, ↓hp_g_1_8, ↓hp_p_1_8, ↓hp_g_1_9, ↓hp_p_1_9, ↓hp_g_1_10, ↓hp_p_1_10, ↓hp_a_2, ↓hp_n_2, ↓hp_a_3, ↓hp_n_3, ↓hp_a_4, hrow, f1', e1', hp4]
    · rw [if_neg g]
      apply cs_ask
      intro XI XA XP XC MI MA ML D Γ hV
      obtain ⟨p, g', c1, -⟩ := hV.2.2.2.2.2.1 k q hq2
      have hrow := x_rowAt1 (sc := sc) (n := n + 38) (XC := XC) (MI := MI) (MA := MA) (ML := ML) hV hS hq2 c1
      show f_X11_parts sc (n + 40) 1 (iO (k : Int)) (iO L) (iO w) _ = _
      rw [e_X11_parts]
      clear hV hva
      by_cases t1 : L < 1
      · clear g; simp (disch := (first | assumption | (unfold i32; omega) | (unfold i64; omega) | omega)) only [↓reduceIte, ki_0, ki_1, ki_2, ki_3, ki_4, ki_5, ki_6, ki_7, ki_8, ki_9, ki_10, ki_11, ki_12, ki_13, ki_14, ki_15, ki_20, ki_21, ki_30, ki_31, ki_40, ki_41, ki_50, ki_51, ki_60, ki_63, ki_64, ki_65, ki_100, ki_158, ki_160, ki_200, ki_212, ki_1000, ki_2000, ki_2001, ki_5000, ki_10000, ki_10001, ki_100000, ki_200000, ki_1000000, ki_2000000, ki_3000000, iO_neg, iO_add, iO_sub, iO_mul, kn_4, kn_8, kn_10, kn_20, kn_24, kn_40, kn_41, kn_50, kn_60, kn_158, kn_160, kn_200, kn_212, kn_2001, tn_lt, fn_lt, tn_le, fn_le, tn_eq, fn_eq, x_lt, x_le, x_eq, x_ix, x_nat, t_lt, f_lt, t_le, f_le, t_eq, f_eq, eq_self, and_self, true_and, and_true, false_and, and_false, if_true, if_false, Int.toNat_natCast, bI_s, bL_s, bA_s, bA_n, bV_s, mq_s, mq_n, en_le, bl_0, bl_1, u_eq, u_ne, w_eq, w_ne, v_eq, v_ne, ↓hp_cc_1, ↓hp_g_1_0, ↓hp_g_1_1, ↓hp_g_1_2, ↓hp_g_1_3, ↓hp_g_1_4, ↓hp_g_1_5, ↓hp_g_1_6, ↓hp_g_1_7, ↓hp_g_1_8, ↓hp_p_1_8, ↓hp_g_1_9, ↓hp_p_1_9, ↓hp_g_1_10, ↓hp_p_1_10, ↓hp_a_2, ↓hp_n_2, ↓hp_a_3, ↓hp_n_3, ↓hp_a_4, hrow]
      by_cases t2 : 12 < L
      · clear g; simp (disch := (first | assumption | (unfold i32; omega) | (unfold i64; omega) | omega)) only [↓reduceIte, ki_0, ki_1, ki_2, ki_3, ki_4, ki_5, ki_6, ki_7, ki_8, ki_9, ki_10, ki_11, ki_12, ki_13, ki_14, ki_15, ki_20, ki_21, ki_30, ki_31, ki_40, ki_41, ki_50, ki_51, ki_60, ki_63, ki_64, ki_65, ki_100, ki_158, ki_160, ki_200, ki_212, ki_1000, ki_2000, ki_2001, ki_5000, ki_10000, ki_10001, ki_100000, ki_200000, ki_1000000, ki_2000000, ki_3000000, iO_neg, iO_add, iO_sub, iO_mul, kn_4, kn_8, kn_10, kn_20, kn_24, kn_40, kn_41, kn_50, kn_60, kn_158, kn_160, kn_200, kn_212, kn_2001, tn_lt, fn_lt, tn_le, fn_le, tn_eq, fn_eq, x_lt, x_le, x_eq, x_ix, x_nat, t_lt, f_lt, t_le, f_le, t_eq, f_eq, eq_self, and_self, true_and, and_true, false_and, and_false, if_true, if_false, Int.toNat_natCast, bI_s, bL_s, bA_s, bA_n, bV_s, mq_s, mq_n, en_le, bl_0, bl_1, u_eq, u_ne, w_eq, w_ne, v_eq, v_ne, ↓hp_cc_1, ↓hp_g_1_0, ↓hp_g_1_1, ↓hp_g_1_2, ↓hp_g_1_3, ↓hp_g_1_4, ↓hp_g_1_5, ↓hp_g_1_6, ↓hp_g_1_7, ↓hp_g_1_8, ↓hp_p_1_8, ↓hp_g_1_9, ↓hp_p_1_9, ↓hp_g_1_10, ↓hp_p_1_10, ↓hp_a_2, ↓hp_n_2, ↓hp_a_3, ↓hp_n_3, ↓hp_a_4, hrow]
      by_cases t3 : w < 0
      · clear g; simp (disch := (first | assumption | (unfold i32; omega) | (unfold i64; omega) | omega)) only [↓reduceIte, ki_0, ki_1, ki_2, ki_3, ki_4, ki_5, ki_6, ki_7, ki_8, ki_9, ki_10, ki_11, ki_12, ki_13, ki_14, ki_15, ki_20, ki_21, ki_30, ki_31, ki_40, ki_41, ki_50, ki_51, ki_60, ki_63, ki_64, ki_65, ki_100, ki_158, ki_160, ki_200, ki_212, ki_1000, ki_2000, ki_2001, ki_5000, ki_10000, ki_10001, ki_100000, ki_200000, ki_1000000, ki_2000000, ki_3000000, iO_neg, iO_add, iO_sub, iO_mul, kn_4, kn_8, kn_10, kn_20, kn_24, kn_40, kn_41, kn_50, kn_60, kn_158, kn_160, kn_200, kn_212, kn_2001, tn_lt, fn_lt, tn_le, fn_le, tn_eq, fn_eq, x_lt, x_le, x_eq, x_ix, x_nat, t_lt, f_lt, t_le, f_le, t_eq, f_eq, eq_self, and_self, true_and, and_true, false_and, and_false, if_true, if_false, Int.toNat_natCast, bI_s, bL_s, bA_s, bA_n, bV_s, mq_s, mq_n, en_le, bl_0, bl_1, u_eq, u_ne, w_eq, w_ne, v_eq, v_ne, ↓hp_cc_1, ↓hp_g_1_0, ↓hp_g_1_1, ↓hp_g_1_2, ↓hp_g_1_3, ↓hp_g_1_4, ↓hp_g_1_5, ↓hp_g_1_6, ↓hp_g_1_7, ↓hp_g_1_8, ↓hp_p_1_8, ↓hp_g_1_9, ↓hp_p_1_9, ↓hp_g_1_10, ↓hp_p_1_10, ↓hp_a_2, ↓hp_n_2, ↓hp_a_3, ↓hp_n_3, ↓hp_a_4, hrow]
      · have t4 : 1 < w := by omega
        clear g; simp (disch := (first | assumption | (unfold i32; omega) | (unfold i64; omega) | omega)) only [↓reduceIte, ki_0, ki_1, ki_2, ki_3, ki_4, ki_5, ki_6, ki_7, ki_8, ki_9, ki_10, ki_11, ki_12, ki_13, ki_14, ki_15, ki_20, ki_21, ki_30, ki_31, ki_40, ki_41, ki_50, ki_51, ki_60, ki_63, ki_64, ki_65, ki_100, ki_158, ki_160, ki_200, ki_212, ki_1000, ki_2000, ki_2001, ki_5000, ki_10000, ki_10001, ki_100000, ki_200000, ki_1000000, ki_2000000, ki_3000000, iO_neg, iO_add, iO_sub, iO_mul, kn_4, kn_8, kn_10, kn_20, kn_24, kn_40, kn_41, kn_50, kn_60, kn_158, kn_160, kn_200, kn_212, kn_2001, tn_lt, fn_lt, tn_le, fn_le, tn_eq, fn_eq, x_lt, x_le, x_eq, x_ix, x_nat, t_lt, f_lt, t_le, f_le, t_eq, f_eq, eq_self, and_self, true_and, and_true, false_and, and_false, if_true, if_false, Int.toNat_natCast, bI_s, bL_s, bA_s, bA_n, bV_s, mq_s, mq_n, en_le, bl_0, bl_1, u_eq, u_ne, w_eq, w_ne, v_eq, v_ne, ↓hp_cc_1, ↓hp_g_1_0, ↓hp_g_1_1, ↓hp_g_1_2, ↓hp_g_1_3, ↓hp_g_1_4, ↓hp_g_1_5, ↓hp_g_1_6, ↓hp_g_1_7, ↓hp_g_1_8, ↓hp_p_1_8, ↓hp_g_1_9, ↓hp_p_1_9, ↓hp_g_1_10, ↓hp_p_1_10, ↓hp_a_2, ↓hp_n_2, ↓hp_a_3, ↓hp_n_3, ↓hp_a_4, hrow]
end PRZ
