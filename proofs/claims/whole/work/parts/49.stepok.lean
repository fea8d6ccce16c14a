/-! THE STEP of a row's object, all kinds; rows by number; kind, step -/
theorem cutL_pre {fs : Nat → Int} {z o : Int} {zs os : Nat} {k : Nat} : ∀ {K : Nat}, k ≤ K → ∃ r, cutL fs z zs o os K = cutL fs z zs o os k ++ r := by
  intro K h
  induction h with
  | refl => exact ⟨[], by simp⟩
  | step _ ih =>
    obtain ⟨r, hr⟩ := ih
    rw [cutL, hr, List.append_assoc]
    exact ⟨_, rfl⟩
theorem cutL_get {fs : Nat → Int} {z o : Int} {zs os : Nat} {k K i : Nat} (h : k ≤ K) (hi : i < (cutL fs z zs o os k).length) : (cutL fs z zs o os K)[i]? = (cutL fs z zs o os k)[i]? := by
  obtain ⟨r, hr⟩ := cutL_pre (fs := fs) (z := z) (o := o) (zs := zs) (os := os) h
  rw [hr, List.getElem?_append_left hi]
theorem cutL_le {fs : Nat → Int} {z o : Int} {zs os : Nat} {k K : Nat} (h : k ≤ K) : (cutL fs z zs o os k).length ≤ (cutL fs z zs o os K).length := by
  obtain ⟨r, hr⟩ := cutL_pre (fs := fs) (z := z) (o := o) (zs := zs) (os := os) h
  rw [hr, List.length_append]
  omega
theorem cbits_01 {x : Int} {n i : Nat} {y : Int} (h : (cbits x n)[i]? = some y) : y = 0 ∨ y = 1 := by
  unfold cbits at h
  rw [List.getElem?_map] at h
  cases hq : (List.range n)[i]? with
  | none => rw [hq] at h; cases h
  | some a =>
    rw [hq] at h
    simp only [Option.map_some, Option.some.injEq] at h
    omega
theorem cutL_01 {fs : Nat → Int} {z o : Int} {zs os : Nat} {y : Int} {i : Nat} : ∀ {k : Nat}, (cutL fs z zs o os k)[i]? = some y → y = 0 ∨ y = 1
  | 0, h => by simp [cutL] at h
  | k + 1, h => by
    rw [cutL, List.getElem?_append] at h
    split at h
    · exact cutL_01 h
    · split at h
      · exact cbits_01 h
      · exact cbits_01 h
theorem cut_in {ns n : Nat} {fs f : Nat → Int} {z o : Int} {zs os k x : Nat} (hc : CutOf ns fs z zs o os n f) (hk : ∀ i, i < k → okc ns fs i) (hx : x < (cutL fs z zs o os k).length) (hx2 : x ≤ 10000) : x < n ∧ (cutL fs z zs o os k)[x]? = some (f x) := by
  obtain ⟨K, h1, h2, h3⟩ := hc
  rcases Nat.lt_or_ge K k with g | g
  · have hK := hk K g
    have h2 : 10001 ≤ (cutL fs z zs o os K).length ∧ n = 10001 := by
      rcases h2 with h | ⟨h, -⟩
      · exact h
      · exact absurd hK h
    refine ⟨by omega, ?_⟩
    rw [cutL_get (Nat.le_of_lt g) (by omega)]
    exact h3 x (by omega)
  · have hl := cutL_le (fs := fs) (z := z) (o := o) (zs := zs) (os := os) g
    have hn : x < n := by rcases h2 with ⟨_, h⟩ | ⟨-, h⟩ <;> omega
    refine ⟨hn, ?_⟩
    rw [← cutL_get g hx]
    exact h3 x hn
theorem cut_out {ns n : Nat} {fs f : Nat → Int} {z o : Int} {zs os k x : Nat} (hc : CutOf ns fs z zs o os n f) (hk : ∀ i, i < k → okc ns fs i) (hno : ¬ okc ns fs k) (hx : (cutL fs z zs o os k).length ≤ x) (hx2 : x ≤ 10000) : n ≤ x := by
  obtain ⟨K, h1, h2, h3⟩ := hc
  have hKk : K ≤ k := by
    rcases Nat.lt_or_ge k K with g | g
    · exact absurd (h1 k g) hno
    · exact g
  have hl := cutL_le (fs := fs) (z := z) (o := o) (zs := zs) (os := os) hKk
  rcases h2 with ⟨h, -⟩ | ⟨h, e⟩
  · omega
  · omega
theorem bit_of (x : Int64) {k : Nat} (hk : k < 64) : (rsh x k).toInt32 &&& 1 = iO (if x.toBitVec.getLsbD k = true then 1 else 0) := by
  apply Int32.toBitVec_inj.mp
  apply BitVec.eq_of_getLsbD_eq
  intro i hi
  rw [Int32.toBitVec_and, BitVec.getLsbD_and, Int64.toBitVec_toInt32, BitVec.getLsbD_signExtend]
  show ((decide (i < 32) && if i < 64 then (x.toBitVec.sshiftRight k).getLsbD i else (x.toBitVec.sshiftRight k).msb) && (1#32).getLsbD i) = _
  rw [if_pos (by omega), BitVec.getLsbD_sshiftRight]
  by_cases e : i = 0
  · subst e
    rw [if_pos (by omega), Nat.add_zero]
    by_cases q : x.toBitVec.getLsbD k = true
    · rw [if_pos q]
      show _ = (1#32).getLsbD 0
      simp [q]
    · rw [if_neg q]
      show _ = (0#32).getLsbD 0
      simp only [Bool.not_eq_true] at q
      simp [q]
  · have h1 : (1#32).getLsbD i = false := by simp [e]
    rw [h1, Bool.and_false]
    split
    · exact h1.symm
    · show _ = (0#32).getLsbD i
      simp
section STO
variable {sc : en_S} {Γ : Nat → Option GD}
theorem step_ok (N : Nat) : ∀ (p : Nat) (g : GD), Γ p = some g → g.2.1 = N → StepOK sc Γ p g := by
  induction N using Nat.strongRecOn with
  | ind N ih =>
    intro p g hg hN m XI XA XP XC MI MA ML D x hV hx hm
    obtain ⟨x1, x2⟩ := id hx
    obtain ⟨n9, n10001, hst, rc⟩ := hV p g hg
    obtain ⟨m', rfl⟩ : ∃ m', m = m' + 6 := ⟨m - 6, by omega⟩
    rcases rc with ⟨r0, arr, r1, r2, r3, r4⟩ | ⟨r0, sp, u, v, r1, r2, r3, r4, r5, r6, r7, r8, r9, r10⟩ | ⟨r0, q, gq, kn, tk, en, arr, z, zs, o, os, r1, r2, r3, r4, b1, b2, b3, b4, b5, b6, b7, b8, r5, k, r6, r7, r8, r9, r10⟩
    · refine ⟨D, ?_, hV, KP.refl⟩
      rw [d_vt r1]
      exact e_told (m := m' + 5) r1 r2 r3 r4 hx
    · refine ⟨D, ?_, hV, KP.refl⟩
      have hci : evc g.1 = 2 ∨ evc g.1 = 3 ∨ evc g.1 = 4 := by rcases r0 with h | h | h <;> rw [h] <;> decide
      have hv : en_vs (fun i => en_cl sc en_mt (m' + 6) i [.ref (p + 51), .int (iO x)] (hp XI XA XP XC MI MA ML D)) (evc g.1) vst = f_X2_stepAt sc (m' + 6) (p + 51) (iO x) (hp XI XA XP XC MI MA ML D) := by
        rcases r0 with h | h | h <;> rw [h] <;> rfl
      rw [d_vt r1, hv, e_evstep (m := m' + 1) hci r1 r2 r3 r4 r5 r6 r7 hx]
      unfold stp
      rw [r8, r9]
    · have hK : CutK D p g gq q z zs o os k kn tk en arr := ⟨r3, r4, r6, r7, r8, r9, r10⟩
      rw [d_vt r3]
      show ∃ D', f_X1_stepAt sc (m' + 6) (p + 51) (iO x) (hp XI XA XP XC MI MA ML D) = _ ∧ _
      rw [e_X1_stepAt]
      by_cases c1 : x < 0
      · refine ⟨D, ?_, hV, KP.refl⟩
        unfold stp
        rw [if_neg (show ¬ (0 ≤ x ∧ x < (g.2.2.2.2.1 : Nat)) by omega)]
        simp (disch := (first | assumption | (unfold i32; omega) | (unfold i64; omega) | omega)) only [ki_0, ki_1, ki_2, ki_3, ki_4, ki_5, ki_6, ki_7, ki_8, ki_9, ki_10, ki_11, ki_12, ki_13, ki_14, ki_15, ki_20, ki_21, ki_30, ki_31, ki_40, ki_41, ki_50, ki_51, ki_60, ki_63, ki_64, ki_65, ki_100, ki_158, ki_160, ki_200, ki_212, ki_1000, ki_2000, ki_2001, ki_5000, ki_10000, ki_10001, ki_100000, ki_200000, ki_1000000, ki_2000000, ki_3000000, iO_neg, iO_add, iO_sub, iO_mul, kn_4, kn_8, kn_10, kn_20, kn_24, kn_40, kn_41, kn_50, kn_60, kn_158, kn_160, kn_200, kn_212, kn_2001, tn_lt, fn_lt, tn_le, fn_le, tn_eq, fn_eq, x_lt, x_le, x_eq, x_ix, x_nat, t_lt, f_lt, t_le, f_le, t_eq, f_eq, eq_self, and_self, true_and, and_true, false_and, and_false, if_true, if_false, Int.toNat_natCast, bI_s, bL_s, bA_s, bA_n, bV_s, mq_s, mq_n, en_le, bl_0, bl_1, u_eq, u_ne, w_eq, w_ne, v_eq, v_ne]
      by_cases c2 : 10000 < x
      · refine ⟨D, ?_, hV, KP.refl⟩
        unfold stp
        rw [if_neg (show ¬ (0 ≤ x ∧ x < (g.2.2.2.2.1 : Nat)) by omega)]
        simp (disch := (first | assumption | (unfold i32; omega) | (unfold i64; omega) | omega)) only [ki_0, ki_1, ki_2, ki_3, ki_4, ki_5, ki_6, ki_7, ki_8, ki_9, ki_10, ki_11, ki_12, ki_13, ki_14, ki_15, ki_20, ki_21, ki_30, ki_31, ki_40, ki_41, ki_50, ki_51, ki_60, ki_63, ki_64, ki_65, ki_100, ki_158, ki_160, ki_200, ki_212, ki_1000, ki_2000, ki_2001, ki_5000, ki_10000, ki_10001, ki_100000, ki_200000, ki_1000000, ki_2000000, ki_3000000, iO_neg, iO_add, iO_sub, iO_mul, kn_4, kn_8, kn_10, kn_20, kn_24, kn_40, kn_41, kn_50, kn_60, kn_158, kn_160, kn_200, kn_212, kn_2001, tn_lt, fn_lt, tn_le, fn_le, tn_eq, fn_eq, x_lt, x_le, x_eq, x_ix, x_nat, t_lt, f_lt, t_le, f_le, t_eq, f_eq, eq_self, and_self, true_and, and_true, false_and, and_false, if_true, if_false, Int.toNat_natCast, bI_s, bL_s, bA_s, bA_n, bV_s, mq_s, mq_n, en_le, bl_0, bl_1, u_eq, u_ne, w_eq, w_ne, v_eq, v_ne]
      obtain ⟨y, rfl⟩ : ∃ y : Nat, x = y := ⟨x.toNat, by omega⟩
      obtain ⟨D', k', kn', tk', en', arr', f1, f2, f3, f4, f5⟩ := learn_loop hg r0 r1 r2 b1 b2 b3 b4 b5 b6 b7 b8 r5 (ih gq.2.1 (by omega) q gq r1 rfl) (m := m' + 4) (by omega) XI XA XP XC MI MA ML (N := y + 1) (by omega) 10001 0 D k kn tk en arr (by omega) (by omega) hV hK
      refine ⟨D', ?_, f2, f3⟩
      have hl : f_X1_learn sc (m' + 5) (p + 51) (iO ((y : Int) + 1)) (hp XI XA XP XC MI MA ML D) = some (none, hp XI XA XP XC MI MA ML D') := by
        rw [e_X1_learn]
        exact f1
      obtain ⟨t1, t2, t3, t4, t5, t6, t7⟩ := f4
      have gc : ∀ (g : Nat → Option en_R), en_cc (hp XI XA XP XC MI MA ML D) (p + 51) g = g 1 := fun g => d_cc r3 g
      have g8 : ∀ (f : Int32 → Option en_R), en_gI (hp XI XA XP XC MI MA ML D') (p + 51) [(1, 0)] 8 f = f (iO (kn' : Nat)) := fun f => d_gI t1 rfl rfl f
      have g7 : ∀ (f0 : Option en_R) (f : Nat → Option en_R), en_gA (hp XI XA XP XC MI MA ML D') (p + 51) [(1, 0)] 7 f0 f = f (p + 52) := fun f0 f => d_gA t1 rfl rfl f0 f
      have ga : ∀ (i : Int32) (f : Int64 → Option en_R), en_aL (hp XI XA XP XC MI MA ML D') (p + 52) i f = if en_ix i 158 then f (arr' i.toNatClampNeg) else none := fun i f => d_aL (p := p + 1) t2 i f
      unfold stp
      rw [Int.toNat_natCast]
      by_cases e : kn' ≤ y
      · have hen : en' = 1 := by rcases f5 with h | h <;> omega
        have hno : ¬ okc gq.2.2.2.2.1 gq.2.2.2.2.2.1 k' := by
          rcases t3 with ⟨h, -⟩ | ⟨-, -, h⟩
          · omega
          · exact h
        have := cut_out r5 t4 hno (x := y) (by omega) (by omega)
        rw [if_neg (show ¬ (0 ≤ (y : Int) ∧ (y : Int) < (g.2.2.2.2.1 : Nat)) by omega)]
        simp (disch := (first | assumption | (unfold i32; omega) | (unfold i64; omega) | omega)) only [ki_0, ki_1, ki_2, ki_3, ki_4, ki_5, ki_6, ki_7, ki_8, ki_9, ki_10, ki_11, ki_12, ki_13, ki_14, ki_15, ki_20, ki_21, ki_30, ki_31, ki_40, ki_41, ki_50, ki_51, ki_60, ki_63, ki_64, ki_65, ki_100, ki_158, ki_160, ki_200, ki_212, ki_1000, ki_2000, ki_2001, ki_5000, ki_10000, ki_10001, ki_100000, ki_200000, ki_1000000, ki_2000000, ki_3000000, iO_neg, iO_add, iO_sub, iO_mul, kn_4, kn_8, kn_10, kn_20, kn_24, kn_40, kn_41, kn_50, kn_60, kn_158, kn_160, kn_200, kn_212, kn_2001, tn_lt, fn_lt, tn_le, fn_le, tn_eq, fn_eq, x_lt, x_le, x_eq, x_ix, x_nat, t_lt, f_lt, t_le, f_le, t_eq, f_eq, eq_self, and_self, true_and, and_true, false_and, and_false, if_true, if_false, Int.toNat_natCast, bI_s, bL_s, bA_s, bA_n, bV_s, mq_s, mq_n, en_le, bl_0, bl_1, u_eq, u_ne, w_eq, w_ne, v_eq, v_ne, gc, hl, g8]
      · obtain ⟨i1, i2⟩ := cut_in r5 t4 (x := y) (by omega) (by omega)
        have h01 := cutL_01 i2
        have hb := t7 y (by omega)
        rw [i2] at hb
        have hbit : (if (arr' (y / 64)).toBitVec.getLsbD (y % 64) = true then (1 : Int) else 0) = g.2.2.2.2.2.1 y := by
          rw [hb]
          rcases h01 with h | h
          · simp [h]
          · simp [h]
        rw [if_pos (show (0 ≤ (y : Int) ∧ (y : Int) < (g.2.2.2.2.1 : Nat)) by omega)]
        simp (disch := (first | assumption | (unfold i32; omega) | (unfold i64; omega) | omega)) only [ki_0, ki_1, ki_2, ki_3, ki_4, ki_5, ki_6, ki_7, ki_8, ki_9, ki_10, ki_11, ki_12, ki_13, ki_14, ki_15, ki_20, ki_21, ki_30, ki_31, ki_40, ki_41, ki_50, ki_51, ki_60, ki_63, ki_64, ki_65, ki_100, ki_158, ki_160, ki_200, ki_212, ki_1000, ki_2000, ki_2001, ki_5000, ki_10000, ki_10001, ki_100000, ki_200000, ki_1000000, ki_2000000, ki_3000000, iO_neg, iO_add, iO_sub, iO_mul, kn_4, kn_8, kn_10, kn_20, kn_24, kn_40, kn_41, kn_50, kn_60, kn_158, kn_160, kn_200, kn_212, kn_2001, tn_lt, fn_lt, tn_le, fn_le, tn_eq, fn_eq, x_lt, x_le, x_eq, x_ix, x_nat, t_lt, f_lt, t_le, f_le, t_eq, f_eq, eq_self, and_self, true_and, and_true, false_and, and_false, if_true, if_false, Int.toNat_natCast, bI_s, bL_s, bA_s, bA_n, bV_s, mq_s, mq_n, en_le, bl_0, bl_1, gc, hl, g8, g7, ga]
        rw [← ki_6, ← ki_31, ← ki_63, sr6 _ (by omega), an6 _ (by omega), rsh_of (by omega)]
        simp (disch := (first | assumption | (unfold i32; omega) | (unfold i64; omega) | omega)) only [ki_0, ki_1, ki_2, ki_3, ki_4, ki_5, ki_6, ki_7, ki_8, ki_9, ki_10, ki_11, ki_12, ki_13, ki_14, ki_15, ki_20, ki_21, ki_30, ki_31, ki_40, ki_41, ki_50, ki_51, ki_60, ki_63, ki_64, ki_65, ki_100, ki_158, ki_160, ki_200, ki_212, ki_1000, ki_2000, ki_2001, ki_5000, ki_10000, ki_10001, ki_100000, ki_200000, ki_1000000, ki_2000000, ki_3000000, iO_neg, iO_add, iO_sub, iO_mul, kn_4, kn_8, kn_10, kn_20, kn_24, kn_40, kn_41, kn_50, kn_60, kn_158, kn_160, kn_200, kn_212, kn_2001, tn_lt, fn_lt, tn_le, fn_le, tn_eq, fn_eq, x_lt, x_le, x_eq, x_ix, x_nat, t_lt, f_lt, t_le, f_le, t_eq, f_eq, eq_self, and_self, true_and, and_true, false_and, and_false, if_true, if_false, Int.toNat_natCast, bI_s, bL_s, bA_s, bA_n, bV_s, mq_s, mq_n, en_le, bl_0, bl_1]
        rw [← ki_1, bit_of _ (by omega), hbit]
end STO
/-- the row of a number, if there is one -/
def rowq (S : ST5) (r : Int) : Option RW4 := if 0 ≤ r then S.2.1[r.toNat]? else none
def slq (S : ST5) (s : Int) : Option SL4 := if 0 ≤ s then S.1[s.toNat]? else none
theorem rowq_some {S : ST5} {r : Int} {q : RW4} (h : rowq S r = some q) : ∃ k : Nat, r = k ∧ k < S.2.1.length ∧ S.2.1[k]? = some q := by
  unfold rowq at h
  split at h
  · exact ⟨r.toNat, by omega, (List.getElem?_eq_some_iff.mp h).1, h⟩
  · cases h
theorem rowq_none {S : ST5} {r : Int} (h : rowq S r = none) : r < 0 ∨ (S.2.1.length : Int) ≤ r := by
  unfold rowq at h
  split at h
  · have := List.getElem?_eq_none_iff.mp h
    omega
  · omega
theorem slq_some {S : ST5} {r : Int} {q : SL4} (h : slq S r = some q) : ∃ k : Nat, r = k ∧ k < S.1.length ∧ S.1[k]? = some q := by
  unfold slq at h
  split at h
  · exact ⟨r.toNat, by omega, (List.getElem?_eq_some_iff.mp h).1, h⟩
  · cases h
theorem slq_none {S : ST5} {r : Int} (h : slq S r = none) : r < 0 ∨ (S.1.length : Int) ≤ r := by
  unfold slq at h
  split at h
  · have := List.getElem?_eq_none_iff.mp h
    omega
  · omega
section RWS
variable {sc : en_S} {n : Nat} {XI : Nat → Int32} {XA : Nat → Nat → Int32} {XP : Nat → Nat → Option Nat} {XC : Value} {MI : Nat → Int32} {MA : Nat → Nat → Int32} {ML : Nat → Nat → Int64} {D : en_H} {Γ : Nat → Option GD} {S : ST5}
theorem x_rowAt0 (hV : CV S Γ XI XA XP D) (hS : OK5 S) {r : Int} (hr : i32 r) (h : rowq S r = none) : f_X11_rowAt sc (n + 1) 1 (iO r) (hp XI XA XP XC MI MA ML D) = some (some .null, hp XI XA XP XC MI MA ML D) := by
  obtain ⟨r1, r2⟩ := id hr
  have h10 := hS.2.1
  have h1 := hV.2.1
  rw [e_X11_rowAt]
  rcases rowq_none h with g | g
  · simp (disch := (first | assumption | (unfold i32; omega) | (unfold i64; omega) | omega)) only [ki_0, ki_1, ki_2, ki_3, ki_4, ki_5, ki_6, ki_7, ki_8, ki_9, ki_10, ki_11, ki_12, ki_13, ki_14, ki_15, ki_20, ki_21, ki_30, ki_31, ki_40, ki_41, ki_50, ki_51, ki_60, ki_63, ki_64, ki_65, ki_100, ki_158, ki_160, ki_200, ki_212, ki_1000, ki_2000, ki_2001, ki_5000, ki_10000, ki_10001, ki_100000, ki_200000, ki_1000000, ki_2000000, ki_3000000, iO_neg, iO_add, iO_sub, iO_mul, kn_4, kn_8, kn_10, kn_20, kn_24, kn_40, kn_41, kn_50, kn_60, kn_158, kn_160, kn_200, kn_212, kn_2001, tn_lt, fn_lt, tn_le, fn_le, tn_eq, fn_eq, x_lt, x_le, x_eq, x_ix, x_nat, t_lt, f_lt, t_le, f_le, t_eq, f_eq, eq_self, and_self, true_and, and_true, false_and, and_false, if_true, if_false, Int.toNat_natCast, bI_s, bL_s, bA_s, bA_n, bV_s, mq_s, mq_n, en_le, bl_0, bl_1, u_eq, u_ne, w_eq, w_ne, v_eq, v_ne]
  · by_cases g2 : r < 0
    · simp (disch := (first | assumption | (unfold i32; omega) | (unfold i64; omega) | omega)) only [ki_0, ki_1, ki_2, ki_3, ki_4, ki_5, ki_6, ki_7, ki_8, ki_9, ki_10, ki_11, ki_12, ki_13, ki_14, ki_15, ki_20, ki_21, ki_30, ki_31, ki_40, ki_41, ki_50, ki_51, ki_60, ki_63, ki_64, ki_65, ki_100, ki_158, ki_160, ki_200, ki_212, ki_1000, ki_2000, ki_2001, ki_5000, ki_10000, ki_10001, ki_100000, ki_200000, ki_1000000, ki_2000000, ki_3000000, iO_neg, iO_add, iO_sub, iO_mul, kn_4, kn_8, kn_10, kn_20, kn_24, kn_40, kn_41, kn_50, kn_60, kn_158, kn_160, kn_200, kn_212, kn_2001, tn_lt, fn_lt, tn_le, fn_le, tn_eq, fn_eq, x_lt, x_le, x_eq, x_ix, x_nat, t_lt, f_lt, t_le, f_le, t_eq, f_eq, eq_self, and_self, true_and, and_true, false_and, and_false, if_true, if_false, Int.toNat_natCast, bI_s, bL_s, bA_s, bA_n, bV_s, mq_s, mq_n, en_le, bl_0, bl_1, u_eq, u_ne, w_eq, w_ne, v_eq, v_ne]
    · simp (disch := (first | assumption | (unfold i32; omega) | (unfold i64; omega) | omega)) only [ki_0, ki_1, ki_2, ki_3, ki_4, ki_5, ki_6, ki_7, ki_8, ki_9, ki_10, ki_11, ki_12, ki_13, ki_14, ki_15, ki_20, ki_21, ki_30, ki_31, ki_40, ki_41, ki_50, ki_51, ki_60, ki_63, ki_64, ki_65, ki_100, ki_158, ki_160, ki_200, ki_212, ki_1000, ki_2000, ki_2001, ki_5000, ki_10000, ki_10001, ki_100000, ki_200000, ki_1000000, ki_2000000, ki_3000000, iO_neg, iO_add, iO_sub, iO_mul, kn_4, kn_8, kn_10, kn_20, kn_24, kn_40, kn_41, kn_50, kn_60, kn_158, kn_160, kn_200, kn_212, kn_2001, tn_lt, fn_lt, tn_le, fn_le, tn_eq, fn_eq, x_lt, x_le, x_eq, x_ix, x_nat, t_lt, f_lt, t_le, f_le, t_eq, f_eq, eq_self, and_self, true_and, and_true, false_and, and_false, if_true, if_false, Int.toNat_natCast, bI_s, bL_s, bA_s, bA_n, bV_s, mq_s, mq_n, en_le, bl_0, bl_1, u_eq, u_ne, w_eq, w_ne, v_eq, v_ne, hp_cc_1, hp_g_1_0, hp_g_1_1, hp_g_1_2, hp_g_1_3, hp_g_1_4, hp_g_1_5, hp_g_1_6, hp_g_1_7, hp_g_1_8, hp_p_1_8, hp_g_1_9, hp_p_1_9, hp_g_1_10, hp_p_1_10, hp_a_2, hp_n_2, hp_a_3, hp_n_3, hp_a_4, h1]
theorem x_rowAt1 (hV : CV S Γ XI XA XP D) (hS : OK5 S) {k : Nat} {q : RW4} (h : S.2.1[k]? = some q) {p : Nat} (hp1 : XP 1 k = some (p + 51)) : f_X11_rowAt sc (n + 1) 1 (iO (k : Nat)) (hp XI XA XP XC MI MA ML D) = some (some (.ref (p + 51)), hp XI XA XP XC MI MA ML D) := by
  have h10 := hS.2.1
  have hk : k < S.2.1.length := (List.getElem?_eq_some_iff.mp h).1
  have h1 := hV.2.1
  rw [e_X11_rowAt]
  simp (disch := (first | assumption | (unfold i32; omega) | (unfold i64; omega) | omega)) only [ki_0, ki_1, ki_2, ki_3, ki_4, ki_5, ki_6, ki_7, ki_8, ki_9, ki_10, ki_11, ki_12, ki_13, ki_14, ki_15, ki_20, ki_21, ki_30, ki_31, ki_40, ki_41, ki_50, ki_51, ki_60, ki_63, ki_64, ki_65, ki_100, ki_158, ki_160, ki_200, ki_212, ki_1000, ki_2000, ki_2001, ki_5000, ki_10000, ki_10001, ki_100000, ki_200000, ki_1000000, ki_2000000, ki_3000000, iO_neg, iO_add, iO_sub, iO_mul, kn_4, kn_8, kn_10, kn_20, kn_24, kn_40, kn_41, kn_50, kn_60, kn_158, kn_160, kn_200, kn_212, kn_2001, tn_lt, fn_lt, tn_le, fn_le, tn_eq, fn_eq, x_lt, x_le, x_eq, x_ix, x_nat, t_lt, f_lt, t_le, f_le, t_eq, f_eq, eq_self, and_self, true_and, and_true, false_and, and_false, if_true, if_false, Int.toNat_natCast, bI_s, bL_s, bA_s, bA_n, bV_s, mq_s, mq_n, en_le, bl_0, bl_1, u_eq, u_ne, w_eq, w_ne, v_eq, v_ne, hp_cc_1, hp_g_1_0, hp_g_1_1, hp_g_1_2, hp_g_1_3, hp_g_1_4, hp_g_1_5, hp_g_1_6, hp_g_1_7, hp_g_1_8, hp_p_1_8, hp_g_1_9, hp_p_1_9, hp_g_1_10, hp_p_1_10, hp_a_2, hp_n_2, hp_a_3, hp_n_3, hp_a_4, h1, hp1]
theorem x_slopeAt0 (hV : CV S Γ XI XA XP D) (hS : OK5 S) {r : Int} (hr : i32 r) (h : slq S r = none) : f_X11_slopeAt sc (n + 1) 1 (iO r) (hp XI XA XP XC MI MA ML D) = some (some .null, hp XI XA XP XC MI MA ML D) := by
  obtain ⟨r1, r2⟩ := id hr
  have h10 := hS.1
  have h1 := hV.1
  rw [e_X11_slopeAt]
  rcases slq_none h with g | g
  · simp (disch := (first | assumption | (unfold i32; omega) | (unfold i64; omega) | omega)) only [ki_0, ki_1, ki_2, ki_3, ki_4, ki_5, ki_6, ki_7, ki_8, ki_9, ki_10, ki_11, ki_12, ki_13, ki_14, ki_15, ki_20, ki_21, ki_30, ki_31, ki_40, ki_41, ki_50, ki_51, ki_60, ki_63, ki_64, ki_65, ki_100, ki_158, ki_160, ki_200, ki_212, ki_1000, ki_2000, ki_2001, ki_5000, ki_10000, ki_10001, ki_100000, ki_200000, ki_1000000, ki_2000000, ki_3000000, iO_neg, iO_add, iO_sub, iO_mul, kn_4, kn_8, kn_10, kn_20, kn_24, kn_40, kn_41, kn_50, kn_60, kn_158, kn_160, kn_200, kn_212, kn_2001, tn_lt, fn_lt, tn_le, fn_le, tn_eq, fn_eq, x_lt, x_le, x_eq, x_ix, x_nat, t_lt, f_lt, t_le, f_le, t_eq, f_eq, eq_self, and_self, true_and, and_true, false_and, and_false, if_true, if_false, Int.toNat_natCast, bI_s, bL_s, bA_s, bA_n, bV_s, mq_s, mq_n, en_le, bl_0, bl_1, u_eq, u_ne, w_eq, w_ne, v_eq, v_ne]
  · by_cases g2 : r < 0
    · simp (disch := (first | assumption | (unfold i32; omega) | (unfold i64; omega) | omega)) only [ki_0, ki_1, ki_2, ki_3, ki_4, ki_5, ki_6, ki_7, ki_8, ki_9, ki_10, ki_11, ki_12, ki_13, ki_14, ki_15, ki_20, ki_21, ki_30, ki_31, ki_40, ki_41, ki_50, ki_51, ki_60, ki_63, ki_64, ki_65, ki_100, ki_158, ki_160, ki_200, ki_212, ki_1000, ki_2000, ki_2001, ki_5000, ki_10000, ki_10001, ki_100000, ki_200000, ki_1000000, ki_2000000, ki_3000000, iO_neg, iO_add, iO_sub, iO_mul, kn_4, kn_8, kn_10, kn_20, kn_24, kn_40, kn_41, kn_50, kn_60, kn_158, kn_160, kn_200, kn_212, kn_2001, tn_lt, fn_lt, tn_le, fn_le, tn_eq, fn_eq, x_lt, x_le, x_eq, x_ix, x_nat, t_lt, f_lt, t_le, f_le, t_eq, f_eq, eq_self, and_self, true_and, and_true, false_and, and_false, if_true, if_false, Int.toNat_natCast, bI_s, bL_s, bA_s, bA_n, bV_s, mq_s, mq_n, en_le, bl_0, bl_1, u_eq, u_ne, w_eq, w_ne, v_eq, v_ne]
    · simp (disch := (first | assumption | (unfold i32; omega) | (unfold i64; omega) | omega)) only [ki_0, ki_1, ki_2, ki_3, ki_4, ki_5, ki_6, ki_7, ki_8, ki_9, ki_10, ki_11, ki_12, ki_13, ki_14, ki_15, ki_20, ki_21, ki_30, ki_31, ki_40, ki_41, ki_50, ki_51, ki_60, ki_63, ki_64, ki_65, ki_100, ki_158, ki_160, ki_200, ki_212, ki_1000, ki_2000, ki_2001, ki_5000, ki_10000, ki_10001, ki_100000, ki_200000, ki_1000000, ki_2000000, ki_3000000, iO_neg, iO_add, iO_sub, iO_mul, kn_4, kn_8, kn_10, kn_20, kn_24, kn_40, kn_41, kn_50, kn_60, kn_158, kn_160, kn_200, kn_212, kn_2001, tn_lt, fn_lt, tn_le, fn_le, tn_eq, fn_eq, x_lt, x_le, x_eq, x_ix, x_nat, t_lt, f_lt, t_le, f_le, t_eq, f_eq, eq_self, and_self, true_and, and_true, false_and, and_false, if_true, if_false, Int.toNat_natCast, bI_s, bL_s, bA_s, bA_n, bV_s, mq_s, mq_n, en_le, bl_0, bl_1, u_eq, u_ne, w_eq, w_ne, v_eq, v_ne, hp_cc_1, hp_g_1_0, hp_g_1_1, hp_g_1_2, hp_g_1_3, hp_g_1_4, hp_g_1_5, hp_g_1_6, hp_g_1_7, hp_g_1_8, hp_p_1_8, hp_g_1_9, hp_p_1_9, hp_g_1_10, hp_p_1_10, hp_a_2, hp_n_2, hp_a_3, hp_n_3, hp_a_4, h1]
theorem x_slopeAt1 (hV : CV S Γ XI XA XP D) (hS : OK5 S) {k : Nat} {q : SL4} (h : S.1[k]? = some q) {p : Nat} (hp1 : XP 0 k = some (p + 51)) : f_X11_slopeAt sc (n + 1) 1 (iO (k : Nat)) (hp XI XA XP XC MI MA ML D) = some (some (.ref (p + 51)), hp XI XA XP XC MI MA ML D) := by
  have h10 := hS.1
  have hk : k < S.1.length := (List.getElem?_eq_some_iff.mp h).1
  have h1 := hV.1
  rw [e_X11_slopeAt]
  simp (disch := (first | assumption | (unfold i32; omega) | (unfold i64; omega) | omega)) only [ki_0, ki_1, ki_2, ki_3, ki_4, ki_5, ki_6, ki_7, ki_8, ki_9, ki_10, ki_11, ki_12, ki_13, ki_14, ki_15, ki_20, ki_21, ki_30, ki_31, ki_40, ki_41, ki_50, ki_51, ki_60, ki_63, ki_64, ki_65, ki_100, ki_158, ki_160, ki_200, ki_212, ki_1000, ki_2000, ki_2001, ki_5000, ki_10000, ki_10001, ki_100000, ki_200000, ki_1000000, ki_2000000, ki_3000000, iO_neg, iO_add, iO_sub, iO_mul, kn_4, kn_8, kn_10, kn_20, kn_24, kn_40, kn_41, kn_50, kn_60, kn_158, kn_160, kn_200, kn_212, kn_2001, tn_lt, fn_lt, tn_le, fn_le, tn_eq, fn_eq, x_lt, x_le, x_eq, x_ix, x_nat, t_lt, f_lt, t_le, f_le, t_eq, f_eq, eq_self, and_self, true_and, and_true, false_and, and_false, if_true, if_false, Int.toNat_natCast, bI_s, bL_s, bA_s, bA_n, bV_s, mq_s, mq_n, en_le, bl_0, bl_1, u_eq, u_ne, w_eq, w_ne, v_eq, v_ne, hp_cc_1, hp_g_1_0, hp_g_1_1, hp_g_1_2, hp_g_1_3, hp_g_1_4, hp_g_1_5, hp_g_1_6, hp_g_1_7, hp_g_1_8, hp_p_1_8, hp_g_1_9, hp_p_1_9, hp_g_1_10, hp_p_1_10, hp_a_2, hp_n_2, hp_a_3, hp_n_3, hp_a_4, h1, hp1]
theorem CV.step {D' : en_H} (h : CV S Γ XI XA XP D) (h1 : HV Γ D') (h2 : FR D D') : CV S Γ XI XA XP D' := by
  obtain ⟨a1, a2, a3, a4, a5, a6, a7, a8, a9⟩ := h
  refine ⟨a1, a2, a3, a4, ?_, a6, a7, a8, h1⟩
  intro s q hq
  obtain ⟨p, b1, b2⟩ := a5 s q hq
  exact ⟨p, b1, b2.fr h2⟩
end RWS
