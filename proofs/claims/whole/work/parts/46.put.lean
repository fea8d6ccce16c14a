/-! A CUT learns: put -/
section PUT
variable {sc : en_S} {d : Nat} {XI : Nat → Int32} {XA : Nat → Nat → Int32} {XP : Nat → Nat → Option Nat} {XC : Value} {MI : Nat → Int32} {MA : Nat → Nat → Int32} {ML : Nat → Nat → Int64}
theorem put_loop {p num q zs os tk : Nat} {sec z o en : Int} {x len : Nat} (hx : x < 64) (hlen : len ≤ 6) {l : List Int} (hl : l.length + 6 ≤ 10112) : ∀ (j i : Nat) (D : en_H) (arr : Nat → Int64), i + j = len → en_nt D p = some (.inr (1, CCf num sec q z zs o os p (l.length + i) tk en)) → en_nt D (p + 1) = some (.inl (1, 158, .inr (.inl arr))) → CBits arr (l ++ cbits x i) →
    ∃ D' arr', b_X1_put_1 sc d (p + 51) (iO (x : Nat)) (iO (len : Nat)) (iO (i : Nat)) (hp XI XA XP XC MI MA ML D) = some (none, hp XI XA XP XC MI MA ML D') ∧ en_nt D' p = some (.inr (1, CCf num sec q z zs o os p (l.length + len) tk en)) ∧ en_nt D' (p + 1) = some (.inl (1, 158, .inr (.inl arr'))) ∧ CBits arr' (l ++ cbits x len) ∧ D'.length = D.length ∧ en_sz D' = en_sz D ∧ ∀ r, r ≠ p → r ≠ p + 1 → en_nt D' r = en_nt D r := by
  intro j
  induction j with
  | zero =>
    intro i D arr hi h1 h2 h3
    obtain rfl : i = len := by omega
    refine ⟨D, arr, ?_, h1, h2, h3, rfl, rfl, fun _ _ _ => rfl⟩
    rw [eb_X1_put_1]
    simp (disch := (first | assumption | (unfold i32; omega) | (unfold i64; omega) | omega)) only [ki_0, ki_1, ki_2, ki_3, ki_4, ki_5, ki_6, ki_7, ki_8, ki_9, ki_10, ki_11, ki_12, ki_13, ki_14, ki_15, ki_20, ki_21, ki_30, ki_31, ki_40, ki_41, ki_50, ki_51, ki_60, ki_63, ki_64, ki_65, ki_100, ki_158, ki_160, ki_200, ki_212, ki_1000, ki_2000, ki_2001, ki_5000, ki_10000, ki_10001, ki_100000, ki_200000, ki_1000000, ki_2000000, ki_3000000, iO_neg, iO_add, iO_sub, iO_mul, kn_4, kn_8, kn_10, kn_20, kn_24, kn_40, kn_41, kn_50, kn_60, kn_158, kn_160, kn_200, kn_212, kn_2001, tn_lt, fn_lt, tn_le, fn_le, tn_eq, fn_eq, x_lt, x_le, x_eq, x_ix, x_nat, t_lt, f_lt, t_le, f_le, t_eq, f_eq, eq_self, and_self, true_and, and_true, false_and, and_false, if_true, if_false, Int.toNat_natCast, bI_s, bL_s, bA_s, bA_n, bV_s, mq_s, mq_n, en_le, bl_0, bl_1, u_eq, u_ne, w_eq, w_ne, v_eq, v_ne]
  | succ j ih =>
    intro i D arr hi h1 h2 h3
    have hk : l.length + i < 10112 := by omega
    have hlen2 : (l ++ cbits x i).length = l.length + i := by rw [List.length_append, cbits_len]
    have hv : (x : Int) / 2 ^ i % 2 = 0 ∨ (x : Int) / 2 ^ i % 2 = 1 := by omega
    have h3' := h3.app (v := (x : Int) / 2 ^ i % 2) (by omega) hv
    rw [hlen2, List.append_assoc, ← cbits_succ] at h3'
    have g8 : ∀ (f : Int32 → Option en_R), en_gI (hp XI XA XP XC MI MA ML D) (p + 51) [(1, 0)] 8 f = f (iO ((l.length + i : Nat) : Int)) := fun f => d_gI h1 rfl rfl f
    have g7 : ∀ (f0 : Option en_R) (f : Nat → Option en_R), en_gA (hp XI XA XP XC MI MA ML D) (p + 51) [(1, 0)] 7 f0 f = f (p + 52) := fun f0 f => d_gA h1 rfl rfl f0 f
    have gl : ∀ (f : Int32 → Option en_R), en_ln sc (hp XI XA XP XC MI MA ML D) (p + 52) f = f (iO 158) := fun f => d_ln (p := p + 1) h2 (by decide) f
    have ga : ∀ (i : Int32) (f : Int64 → Option en_R), en_aL (hp XI XA XP XC MI MA ML D) (p + 52) i f = if en_ix i 158 then f (arr i.toNatClampNeg) else none := fun i f => d_aL (p := p + 1) h2 i f
    have gs : ∀ (i : Int32) (v : Int64) (f : en_H → Option en_R), en_sL (hp XI XA XP XC MI MA ML D) (p + 52) i v f = if en_ix i 158 then f (hp XI XA XP XC MI MA ML (D.set (p + 1) (.inl (1, 158, .inr (.inl (vp_updL arr i.toNatClampNeg v)))))) else none := fun i v f => d_sL (p := p + 1) h2 i v f
    have e1 : en_nt (D.set (p + 1) (.inl (1, 158, .inr (.inl (vp_updL arr ((l.length + i) / 64) (arr ((l.length + i) / 64) ||| lsh (lO ((x : Int) / 2 ^ i % 2)) ((l.length + i) % 64))))))) p = some (.inr (1, CCf num sec q z zs o os p (l.length + i) tk en)) := by
      rw [nt_set_ne (by omega)]; exact h1
    have e2 := nt_set_eq (c := .inl (1, 158, .inr (.inl (vp_updL arr ((l.length + i) / 64) (arr ((l.length + i) / 64) ||| lsh (lO ((x : Int) / 2 ^ i % 2)) ((l.length + i) % 64)))))) h2
    have hsz1 := en_sz_set D (p + 1) (.inl (1, 158, .inr (.inl (vp_updL arr ((l.length + i) / 64) (arr ((l.length + i) / 64) ||| lsh (lO ((x : Int) / 2 ^ i % 2)) ((l.length + i) % 64)))))) _ h2 rfl
    have hD1 : (D.set (p + 1) (.inl (1, 158, .inr (.inl (vp_updL arr ((l.length + i) / 64) (arr ((l.length + i) / 64) ||| lsh (lO ((x : Int) / 2 ^ i % 2)) ((l.length + i) % 64))))))).length = D.length := List.length_set
    have hne1 : ∀ r, r ≠ p + 1 → en_nt (D.set (p + 1) (.inl (1, 158, .inr (.inl (vp_updL arr ((l.length + i) / 64) (arr ((l.length + i) / 64) ||| lsh (lO ((x : Int) / 2 ^ i % 2)) ((l.length + i) % 64))))))) r = en_nt D r := fun r hr => nt_set_ne hr
    rw [eb_X1_put_1]
    simp (disch := (first | assumption | (unfold i32; omega) | (unfold i64; omega) | omega)) only [ki_0, ki_1, ki_2, ki_3, ki_4, ki_5, ki_6, ki_7, ki_8, ki_9, ki_10, ki_11, ki_12, ki_13, ki_14, ki_15, ki_20, ki_21, ki_30, ki_31, ki_40, ki_41, ki_50, ki_51, ki_60, ki_63, ki_64, ki_65, ki_100, ki_158, ki_160, ki_200, ki_212, ki_1000, ki_2000, ki_2001, ki_5000, ki_10000, ki_10001, ki_100000, ki_200000, ki_1000000, ki_2000000, ki_3000000, iO_neg, iO_add, iO_sub, iO_mul, kn_4, kn_8, kn_10, kn_20, kn_24, kn_40, kn_41, kn_50, kn_60, kn_158, kn_160, kn_200, kn_212, kn_2001, tn_lt, fn_lt, tn_le, fn_le, tn_eq, fn_eq, x_lt, x_le, x_eq, x_ix, x_nat, t_lt, f_lt, t_le, f_le, t_eq, f_eq, eq_self, and_self, true_and, and_true, false_and, and_false, if_true, if_false, Int.toNat_natCast, bI_s, bL_s, bA_s, bA_n, bV_s, mq_s, mq_n, en_le, bl_0, bl_1, g8, g7, gl, ga, gs]
    rw [← ki_6, ← ki_31, ← ki_63, ← ki_1, sr6 _ (by omega), an6 _ (by omega), pt_bit x hx i (by omega), lsh_of (by omega)]
    simp (disch := (first | assumption | (unfold i32; omega) | (unfold i64; omega) | omega)) only [ki_0, ki_1, ki_2, ki_3, ki_4, ki_5, ki_6, ki_7, ki_8, ki_9, ki_10, ki_11, ki_12, ki_13, ki_14, ki_15, ki_20, ki_21, ki_30, ki_31, ki_40, ki_41, ki_50, ki_51, ki_60, ki_63, ki_64, ki_65, ki_100, ki_158, ki_160, ki_200, ki_212, ki_1000, ki_2000, ki_2001, ki_5000, ki_10000, ki_10001, ki_100000, ki_200000, ki_1000000, ki_2000000, ki_3000000, iO_neg, iO_add, iO_sub, iO_mul, kn_4, kn_8, kn_10, kn_20, kn_24, kn_40, kn_41, kn_50, kn_60, kn_158, kn_160, kn_200, kn_212, kn_2001, tn_lt, fn_lt, tn_le, fn_le, tn_eq, fn_eq, x_lt, x_le, x_eq, x_ix, x_nat, t_lt, f_lt, t_le, f_le, t_eq, f_eq, eq_self, and_self, true_and, and_true, false_and, and_false, if_true, if_false, Int.toNat_natCast, bI_s, bL_s, bA_s, bA_n, bV_s, mq_s, mq_n, en_le, bl_0, bl_1]
    generalize hG : D.set (p + 1) (.inl (1, 158, .inr (.inl (vp_updL arr ((l.length + i) / 64) (arr ((l.length + i) / 64) ||| lsh (lO ((x : Int) / 2 ^ i % 2)) ((l.length + i) % 64)))))) = D1 at *
    have g8' : ∀ (f : Int32 → Option en_R), en_gI (hp XI XA XP XC MI MA ML D1) (p + 51) [(1, 0)] 8 f = f (iO ((l.length + i : Nat) : Int)) := fun f => d_gI e1 rfl rfl f
    have gp : ∀ (v : Value) (f : en_H → Option en_R), en_pf (hp XI XA XP XC MI MA ML D1) (p + 51) [(1, 0)] 8 v f = f (hp XI XA XP XC MI MA ML (D1.set p (.inr (1, (CCf num sec q z zs o os p (l.length + i) tk en).set 8 v)))) := fun v f => d_pf e1 rfl rfl v f
    rw [g8', gp, iO_add]
    have hS : (CCf num sec q z zs o os p (l.length + i) tk en).set 8 (.int (iO (((l.length + i : Nat) : Int) + 1))) = CCf num sec q z zs o os p (l.length + (i + 1)) tk en := rfl
    rw [hS]
    obtain ⟨D', arr', a1, a2, a3, a4, a5, a6, a7⟩ := ih (i + 1) (D1.set p (.inr (1, CCf num sec q z zs o os p (l.length + (i + 1)) tk en))) _ (by omega) (nt_set_eq e1) (by rw [nt_set_ne (by omega)]; exact e2) h3'
    refine ⟨D', arr', a1, a2, a3, a4, ?_, ?_, ?_⟩
    · rw [a5, List.length_set, hD1]
    · rw [a6]
      exact (en_sz_set D1 p (.inr (1, CCf num sec q z zs o os p (l.length + (i + 1)) tk en)) _ e1 rfl).trans hsz1
    · intro r hr1 hr2
      rw [a7 r hr1 hr2, nt_set_ne hr1, hne1 r hr2]
theorem e_put {p num q zs os tk : Nat} {sec z o en : Int} {x len : Nat} (hx : x < 64) (hlen : len ≤ 6) {l : List Int} (hl : l.length + 6 ≤ 10112) {D : en_H} {arr : Nat → Int64} (h1 : en_nt D p = some (.inr (1, CCf num sec q z zs o os p l.length tk en))) (h2 : en_nt D (p + 1) = some (.inl (1, 158, .inr (.inl arr)))) (h3 : CBits arr l) :
    ∃ D' arr', f_X1_put sc (d + 1) (p + 51) (iO (x : Nat)) (iO (len : Nat)) (hp XI XA XP XC MI MA ML D) = some (none, hp XI XA XP XC MI MA ML D') ∧ en_nt D' p = some (.inr (1, CCf num sec q z zs o os p (l.length + len) tk en)) ∧ en_nt D' (p + 1) = some (.inl (1, 158, .inr (.inl arr'))) ∧ CBits arr' (l ++ cbits x len) ∧ D'.length = D.length ∧ en_sz D' = en_sz D ∧ ∀ r, r ≠ p → r ≠ p + 1 → en_nt D' r = en_nt D r := by
  rw [e_X1_put]
  exact put_loop hx hlen hl len 0 D arr (by omega) h1 h2 (by rw [show cbits x 0 = [] from rfl, List.append_nil]; exact h3)
end PUT
