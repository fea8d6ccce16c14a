/-! THE STEP of a row's object, all kinds: cuts learn by their sources -/
section LRN
variable {sc : en_S} {Γ : Nat → Option GD}
/-- the step can be asked -/
def StepOK (sc : en_S) (Γ : Nat → Option GD) (p : Nat) (g : GD) : Prop := ∀ (m : Nat) (XI : Nat → Int32) (XA : Nat → Nat → Int32) (XP : Nat → Nat → Option Nat) (XC : Value) (MI : Nat → Int32) (MA : Nat → Nat → Int32) (ML : Nat → Nat → Int64) (D : en_H) (x : Int), HV Γ D → i32 x → 2 * g.2.1 + 6 ≤ m →
  ∃ D', en_vt (hp XI XA XP XC MI MA ML D) (p + 51) vst (fun i => en_cl sc en_mt m i [.ref (p + 51), .int (iO x)] (hp XI XA XP XC MI MA ML D)) = some (some (.int (iO (stp g x))), hp XI XA XP XC MI MA ML D') ∧ HV Γ D' ∧ KP Γ g.2.1 D D'
/-- a cut's cells as far as they are known: k steps of the source taken -/
def CutK (D : en_H) (p : Nat) (g gq : GD) (q : Nat) (z : Int) (zs : Nat) (o : Int) (os : Nat) (k kn tk : Nat) (en : Int) (arr : Nat → Int64) : Prop :=
  en_nt D p = some (.inr (1, CCf g.2.1 g.2.2.1 q z zs o os p kn tk en)) ∧ en_nt D (p + 1) = some (.inl (1, 158, .inr (.inl arr)))
  ∧ ((en = 0 ∧ tk = k) ∨ (en = 1 ∧ tk = k + 1 ∧ ¬ okc gq.2.2.2.2.1 gq.2.2.2.2.2.1 k)) ∧ (∀ i, i < k → okc gq.2.2.2.2.1 gq.2.2.2.2.2.1 i) ∧ kn = (cutL gq.2.2.2.2.2.1 z zs o os k).length ∧ kn ≤ 10006 ∧ CBits arr (cutL gq.2.2.2.2.2.1 z zs o os k)
theorem cut_rc {p q : Nat} {g gq : GD} {z o en : Int} {zs os k kn tk : Nat} {arr : Nat → Int64} {D : en_H} (h3 : g.1 = 3) (hq : Γ q = some gq) (hnum : gq.2.1 < g.2.1) (b1 : 1 ≤ zs) (b2 : zs ≤ 6) (b3 : 1 ≤ os) (b4 : os ≤ 6) (b5 : 0 ≤ z) (b6 : z < 64) (b7 : 0 ≤ o) (b8 : o < 64) (hcut : CutOf gq.2.2.2.2.1 gq.2.2.2.2.2.1 z zs o os g.2.2.2.2.1 g.2.2.2.2.2.1) (hk : CutK D p g gq q z zs o os k kn tk en arr) : RC Γ D p g := by
  obtain ⟨c1, c2, c3, c4, c5, c6, c7⟩ := hk
  exact Or.inr (Or.inr ⟨h3, q, gq, kn, tk, en, arr, z, zs, o, os, hq, hnum, c1, c2, b1, b2, b3, b4, b5, b6, b7, b8, hcut, k, c3, c4, c5, c6, c7⟩)
theorem cutL_len {fs : Nat → Int} {z o : Int} {zs os : Nat} (h1 : 1 ≤ zs) (h2 : 1 ≤ os) : ∀ k, k ≤ (cutL fs z zs o os k).length
  | 0 => by simp [cutL]
  | k + 1 => by
    have := cutL_len (fs := fs) (z := z) (o := o) h1 h2 k
    rw [cutL, List.length_append]
    split
    · rw [cbits_len]; omega
    · rw [cbits_len]; omega
theorem learn_loop {p q : Nat} {g gq : GD} (hg : Γ p = some g) (h3 : g.1 = 3) (hq : Γ q = some gq) (hnum : gq.2.1 < g.2.1) {z o : Int} {zs os : Nat} (b1 : 1 ≤ zs) (b2 : zs ≤ 6) (b3 : 1 ≤ os) (b4 : os ≤ 6) (b5 : 0 ≤ z) (b6 : z < 64) (b7 : 0 ≤ o) (b8 : o < 64) (hcut : CutOf gq.2.2.2.2.1 gq.2.2.2.2.2.1 z zs o os g.2.2.2.2.1 g.2.2.2.2.2.1) (hst : StepOK sc Γ q gq) {m : Nat} (hm : 2 * g.2.1 + 4 ≤ m) (XI : Nat → Int32) (XA : Nat → Nat → Int32) (XP : Nat → Nat → Option Nat) (XC : Value) (MI : Nat → Int32) (MA : Nat → Nat → Int32) (ML : Nat → Nat → Int64) {N : Nat} (hN : N ≤ 10001) :
    ∀ (j r : Nat) (D : en_H) (k kn tk : Nat) (en : Int) (arr : Nat → Int64), r + j = 10001 → r ≤ kn → HV Γ D → CutK D p g gq q z zs o os k kn tk en arr →
    ∃ D' k' kn' tk' en' arr', b_X1_learn_1 sc m (p + 51) (iO (N : Nat)) (iO (r : Nat)) (hp XI XA XP XC MI MA ML D) = some (none, hp XI XA XP XC MI MA ML D') ∧ HV Γ D' ∧ KP Γ g.2.1 D D' ∧ CutK D' p g gq q z zs o os k' kn' tk' en' arr' ∧ (N ≤ kn' ∨ en' = 1) := by
  intro j
  induction j with
  | zero =>
    intro r D k kn tk en arr hr hkn hV hK
    refine ⟨D, k, kn, tk, en, arr, ?_, hV, KP.refl, hK, Or.inl (by omega)⟩
    rw [eb_X1_learn_1]
    simp (disch := (first | assumption | (unfold i32; omega) | (unfold i64; omega) | omega)) only [ki_0, ki_1, ki_2, ki_3, ki_4, ki_5, ki_6, ki_7, ki_8, ki_9, ki_10, ki_11, ki_12, ki_13, ki_14, ki_15, ki_20, ki_21, ki_30, ki_31, ki_40, ki_41, ki_50, ki_51, ki_60, ki_63, ki_64, ki_65, ki_100, ki_158, ki_160, ki_200, ki_212, ki_1000, ki_2000, ki_2001, ki_5000, ki_10000, ki_10001, ki_100000, ki_200000, ki_1000000, ki_2000000, ki_3000000, iO_neg, iO_add, iO_sub, iO_mul, kn_4, kn_8, kn_10, kn_20, kn_24, kn_40, kn_41, kn_50, kn_60, kn_158, kn_160, kn_200, kn_212, kn_2001, tn_lt, fn_lt, tn_le, fn_le, tn_eq, fn_eq, x_lt, x_le, x_eq, x_ix, x_nat, t_lt, f_lt, t_le, f_le, t_eq, f_eq, eq_self, and_self, true_and, and_true, false_and, and_false, if_true, if_false, Int.toNat_natCast, bI_s, bL_s, bA_s, bA_n, bV_s, mq_s, mq_n, en_le, bl_0, bl_1, u_eq, u_ne, w_eq, w_ne, v_eq, v_ne]
  | succ j ih =>
    intro r D k kn tk en arr hr hkn hV hK
    obtain ⟨c1, c2, c3, c4, c5, c6, c7⟩ := id hK
    have htk : tk ≤ 10008 := by have := cutL_len (fs := gq.2.2.2.2.2.1) (z := z) (o := o) b1 b3 k; omega
    have g8 : ∀ (f : Int32 → Option en_R), en_gI (hp XI XA XP XC MI MA ML D) (p + 51) [(1, 0)] 8 f = f (iO (kn : Nat)) := fun f => d_gI c1 rfl rfl f
    have g9 : ∀ (f : Int32 → Option en_R), en_gI (hp XI XA XP XC MI MA ML D) (p + 51) [(1, 0)] 9 f = f (iO (tk : Nat)) := fun f => d_gI c1 rfl rfl f
    have g10 : ∀ (f : Int32 → Option en_R), en_gI (hp XI XA XP XC MI MA ML D) (p + 51) [(1, 0)] 10 f = f (iO en) := fun f => d_gI c1 rfl rfl f
    have g2 : ∀ (f0 : Option en_R) (f : Nat → Option en_R), en_gA (hp XI XA XP XC MI MA ML D) (p + 51) [(1, 0)] 2 f0 f = f (q + 51) := fun f0 f => d_gA c1 rfl rfl f0 f
    rw [eb_X1_learn_1]
    by_cases e1 : N ≤ kn
    · refine ⟨D, k, kn, tk, en, arr, ?_, hV, KP.refl, hK, Or.inl e1⟩
      simp (disch := (first | assumption | (unfold i32; omega) | (unfold i64; omega) | omega)) only [ki_0, ki_1, ki_2, ki_3, ki_4, ki_5, ki_6, ki_7, ki_8, ki_9, ki_10, ki_11, ki_12, ki_13, ki_14, ki_15, ki_20, ki_21, ki_30, ki_31, ki_40, ki_41, ki_50, ki_51, ki_60, ki_63, ki_64, ki_65, ki_100, ki_158, ki_160, ki_200, ki_212, ki_1000, ki_2000, ki_2001, ki_5000, ki_10000, ki_10001, ki_100000, ki_200000, ki_1000000, ki_2000000, ki_3000000, iO_neg, iO_add, iO_sub, iO_mul, kn_4, kn_8, kn_10, kn_20, kn_24, kn_40, kn_41, kn_50, kn_60, kn_158, kn_160, kn_200, kn_212, kn_2001, tn_lt, fn_lt, tn_le, fn_le, tn_eq, fn_eq, x_lt, x_le, x_eq, x_ix, x_nat, t_lt, f_lt, t_le, f_le, t_eq, f_eq, eq_self, and_self, true_and, and_true, false_and, and_false, if_true, if_false, Int.toNat_natCast, bI_s, bL_s, bA_s, bA_n, bV_s, mq_s, mq_n, en_le, bl_0, bl_1, u_eq, u_ne, w_eq, w_ne, v_eq, v_ne, g8]
    by_cases e2 : en = 0
    · have htk2 : tk = k := by rcases c3 with ⟨-, h⟩ | ⟨h, -⟩ <;> omega
      obtain ⟨D1, s1, s2, s3⟩ := hst m XI XA XP XC MI MA ML D (tk : Int) hV (by unfold i32; omega) (by omega)
      obtain ⟨u1, u2⟩ := s3.2.2.2 p g hg h3 hnum
      rw [c1] at u1
      rw [c2] at u2
      have t9 : ∀ (f : Int32 → Option en_R), en_gI (hp XI XA XP XC MI MA ML D1) (p + 51) [(1, 0)] 9 f = f (iO (tk : Nat)) := fun f => d_gI u1 rfl rfl f
      have tp : ∀ (v : Value) (f : en_H → Option en_R), en_pf (hp XI XA XP XC MI MA ML D1) (p + 51) [(1, 0)] 9 v f = f (hp XI XA XP XC MI MA ML (D1.set p (.inr (1, (CCf g.2.1 g.2.2.1 q z zs o os p kn tk en).set 9 v)))) := fun v f => d_pf u1 rfl rfl v f
      have hS : (CCf g.2.1 g.2.2.1 q z zs o os p kn tk en).set 9 (.int (iO ((tk : Int) + 1))) = CCf g.2.1 g.2.2.1 q z zs o os p kn (tk + 1) en := rfl
      simp (disch := (first | assumption | (unfold i32; omega) | (unfold i64; omega) | omega)) only [ki_0, ki_1, ki_2, ki_3, ki_4, ki_5, ki_6, ki_7, ki_8, ki_9, ki_10, ki_11, ki_12, ki_13, ki_14, ki_15, ki_20, ki_21, ki_30, ki_31, ki_40, ki_41, ki_50, ki_51, ki_60, ki_63, ki_64, ki_65, ki_100, ki_158, ki_160, ki_200, ki_212, ki_1000, ki_2000, ki_2001, ki_5000, ki_10000, ki_10001, ki_100000, ki_200000, ki_1000000, ki_2000000, ki_3000000, iO_neg, iO_add, iO_sub, iO_mul, kn_4, kn_8, kn_10, kn_20, kn_24, kn_40, kn_41, kn_50, kn_60, kn_158, kn_160, kn_200, kn_212, kn_2001, tn_lt, fn_lt, tn_le, fn_le, tn_eq, fn_eq, x_lt, x_le, x_eq, x_ix, x_nat, t_lt, f_lt, t_le, f_le, t_eq, f_eq, eq_self, and_self, true_and, and_true, false_and, and_false, if_true, if_false, Int.toNat_natCast, bI_s, bL_s, bA_s, bA_n, bV_s, mq_s, mq_n, en_le, bl_0, bl_1, u_eq, u_ne, w_eq, w_ne, v_eq, v_ne, g8, g10, g2, g9, vt_bI, s1, t9, tp, hS]
      have w1 := nt_set_eq (c := .inr (1, CCf g.2.1 g.2.2.1 q z zs o os p kn (tk + 1) en)) u1
      have w2 : en_nt (D1.set p (.inr (1, CCf g.2.1 g.2.2.1 q z zs o os p kn (tk + 1) en))) (p + 1) = some (.inl (1, 158, .inr (.inl arr))) := by rw [nt_set_ne (by omega)]; exact u2
      have w3 : ∀ r, r ≠ p → en_nt (D1.set p (.inr (1, CCf g.2.1 g.2.2.1 q z zs o os p kn (tk + 1) en))) r = en_nt D1 r := fun r hr => nt_set_ne hr
      have w4 := en_sz_set D1 p (.inr (1, CCf g.2.1 g.2.2.1 q z zs o os p kn (tk + 1) en)) _ u1 rfl
      have w5 : (D1.set p (.inr (1, CCf g.2.1 g.2.2.1 q z zs o os p kn (tk + 1) en))).length = D1.length := List.length_set
      generalize D1.set p (.inr (1, CCf g.2.1 g.2.2.1 q z zs o os p kn (tk + 1) en)) = D2 at *
      have v3 : ∀ (f : Int32 → Option en_R), en_gI (hp XI XA XP XC MI MA ML D2) (p + 51) [(1, 0)] 3 f = f (iO z) := fun f => d_gI w1 rfl rfl f
      have v4 : ∀ (f : Int32 → Option en_R), en_gI (hp XI XA XP XC MI MA ML D2) (p + 51) [(1, 0)] 4 f = f (iO (zs : Nat)) := fun f => d_gI w1 rfl rfl f
      have v5 : ∀ (f : Int32 → Option en_R), en_gI (hp XI XA XP XC MI MA ML D2) (p + 51) [(1, 0)] 5 f = f (iO o) := fun f => d_gI w1 rfl rfl f
      have v6 : ∀ (f : Int32 → Option en_R), en_gI (hp XI XA XP XC MI MA ML D2) (p + 51) [(1, 0)] 6 f = f (iO (os : Nat)) := fun f => d_gI w1 rfl rfl f
      have vc : ∀ (g : Nat → Option en_R), en_cc (hp XI XA XP XC MI MA ML D2) (p + 51) g = g 1 := fun g => d_cc w1 g
      have vp : ∀ (v : Value) (f : en_H → Option en_R), en_pf (hp XI XA XP XC MI MA ML D2) (p + 51) [(1, 0)] 10 v f = f (hp XI XA XP XC MI MA ML (D2.set p (.inr (1, (CCf g.2.1 g.2.2.1 q z zs o os p kn (tk + 1) en).set 10 v)))) := fun v f => d_pf w1 rfl rfl v f
      obtain ⟨m', rfl⟩ : ∃ m', m = m' + 1 := ⟨m - 1, by omega⟩
      have hr2 : gq.2.2.2.2.1 ≤ 10001 := (hV q gq hq).2.1
      have hr3 := (hV q gq hq).2.2.1
      -- what remains, once the cells hold the next known part
      have fin : ∀ (D3 : en_H) (k' kn' tk' : Nat) (en' : Int) (arr' : Nat → Int64), CutK D3 p g gq q z zs o os k' kn' tk' en' arr' → r + 1 ≤ kn' ∨ en' = 1 → D3.length = D1.length → en_sz D3 = en_sz D1 → (∀ r, r ≠ p → r ≠ p + 1 → en_nt D3 r = en_nt D1 r) → ∃ D' k'' kn'' tk'' en'' arr'', b_X1_learn_1 sc (m' + 1) (p + 51) (iO (N : Nat)) (iO ((r : Int) + 1)) (hp XI XA XP XC MI MA ML D3) = some (none, hp XI XA XP XC MI MA ML D') ∧ HV Γ D' ∧ KP Γ g.2.1 D D' ∧ CutK D' p g gq q z zs o os k'' kn'' tk'' en'' arr'' ∧ (N ≤ kn'' ∨ en'' = 1) := by
        intro D3 k' kn' tk' en' arr' hK3 hor l1 l2 l3
        have hV3 : HV Γ D3 := HV_upd s2 hg u1 u2 l3 (cut_rc h3 hq hnum b1 b2 b3 b4 b5 b6 b7 b8 hcut hK3)
        have hKP : KP Γ g.2.1 D D3 := by
          refine KP.trans s3 ⟨l1, l2, fr_of u1 u2 l3, ?_⟩ (by omega)
          intro p' g' a1 a2 a3
          have hne : p' ≠ p := fun e => by subst e; rw [hg] at a1; cases a1; omega
          obtain ⟨-, -, -, rc⟩ := s2 p' g' a1
          rcases rc with ⟨y, -⟩ | ⟨y, -⟩ | ⟨-, q', gq', kn2, tk2, en2, arr2, z2, zs2, o2, os2, -, -, y1, y2, -⟩
          · omega
          · omega
          · exact ⟨l3 p' hne (fun h => by subst h; rw [u2] at y1; cases y1), l3 (p' + 1) (fun h => by rw [h, u1] at y2; cases y2) (by omega)⟩
        rcases hor with hor | hor
        · obtain ⟨D', k'', kn'', tk'', en'', arr'', f1, f2, f3, f4, f5⟩ := ih (r + 1) D3 k' kn' tk' en' arr' (by omega) hor hV3 hK3
          exact ⟨D', k'', kn'', tk'', en'', arr'', f1, f2, hKP.trans f3 (by omega), f4, f5⟩
        · refine ⟨D3, k', kn', tk', en', arr', ?_, hV3, hKP, hK3, Or.inr hor⟩
          have x8 : ∀ (f : Int32 → Option en_R), en_gI (hp XI XA XP XC MI MA ML D3) (p + 51) [(1, 0)] 8 f = f (iO (kn' : Nat)) := fun f => d_gI hK3.1 rfl rfl f
          have x10 : ∀ (f : Int32 → Option en_R), en_gI (hp XI XA XP XC MI MA ML D3) (p + 51) [(1, 0)] 10 f = f (iO en') := fun f => d_gI hK3.1 rfl rfl f
          have hkn' := hK3.2.2.2.2.2.1
          rw [eb_X1_learn_1]
          by_cases y1 : 10000 < (r : Int) + 1
          · simp (disch := (first | assumption | (unfold i32; omega) | (unfold i64; omega) | omega)) only [ki_0, ki_1, ki_2, ki_3, ki_4, ki_5, ki_6, ki_7, ki_8, ki_9, ki_10, ki_11, ki_12, ki_13, ki_14, ki_15, ki_20, ki_21, ki_30, ki_31, ki_40, ki_41, ki_50, ki_51, ki_60, ki_63, ki_64, ki_65, ki_100, ki_158, ki_160, ki_200, ki_212, ki_1000, ki_2000, ki_2001, ki_5000, ki_10000, ki_10001, ki_100000, ki_200000, ki_1000000, ki_2000000, ki_3000000, iO_neg, iO_add, iO_sub, iO_mul, kn_4, kn_8, kn_10, kn_20, kn_24, kn_40, kn_41, kn_50, kn_60, kn_158, kn_160, kn_200, kn_212, kn_2001, tn_lt, fn_lt, tn_le, fn_le, tn_eq, fn_eq, x_lt, x_le, x_eq, x_ix, x_nat, t_lt, f_lt, t_le, f_le, t_eq, f_eq, eq_self, and_self, true_and, and_true, false_and, and_false, if_true, if_false, Int.toNat_natCast, bI_s, bL_s, bA_s, bA_n, bV_s, mq_s, mq_n, en_le, bl_0, bl_1, u_eq, u_ne, w_eq, w_ne, v_eq, v_ne]
          by_cases y2 : N ≤ kn'
          · simp (disch := (first | assumption | (unfold i32; omega) | (unfold i64; omega) | omega)) only [ki_0, ki_1, ki_2, ki_3, ki_4, ki_5, ki_6, ki_7, ki_8, ki_9, ki_10, ki_11, ki_12, ki_13, ki_14, ki_15, ki_20, ki_21, ki_30, ki_31, ki_40, ki_41, ki_50, ki_51, ki_60, ki_63, ki_64, ki_65, ki_100, ki_158, ki_160, ki_200, ki_212, ki_1000, ki_2000, ki_2001, ki_5000, ki_10000, ki_10001, ki_100000, ki_200000, ki_1000000, ki_2000000, ki_3000000, iO_neg, iO_add, iO_sub, iO_mul, kn_4, kn_8, kn_10, kn_20, kn_24, kn_40, kn_41, kn_50, kn_60, kn_158, kn_160, kn_200, kn_212, kn_2001, tn_lt, fn_lt, tn_le, fn_le, tn_eq, fn_eq, x_lt, x_le, x_eq, x_ix, x_nat, t_lt, f_lt, t_le, f_le, t_eq, f_eq, eq_self, and_self, true_and, and_true, false_and, and_false, if_true, if_false, Int.toNat_natCast, bI_s, bL_s, bA_s, bA_n, bV_s, mq_s, mq_n, en_le, bl_0, bl_1, u_eq, u_ne, w_eq, w_ne, v_eq, v_ne, x8]
          · simp (disch := (first | assumption | (unfold i32; omega) | (unfold i64; omega) | omega)) only [ki_0, ki_1, ki_2, ki_3, ki_4, ki_5, ki_6, ki_7, ki_8, ki_9, ki_10, ki_11, ki_12, ki_13, ki_14, ki_15, ki_20, ki_21, ki_30, ki_31, ki_40, ki_41, ki_50, ki_51, ki_60, ki_63, ki_64, ki_65, ki_100, ki_158, ki_160, ki_200, ki_212, ki_1000, ki_2000, ki_2001, ki_5000, ki_10000, ki_10001, ki_100000, ki_200000, ki_1000000, ki_2000000, ki_3000000, iO_neg, iO_add, iO_sub, iO_mul, kn_4, kn_8, kn_10, kn_20, kn_24, kn_40, kn_41, kn_50, kn_60, kn_158, kn_160, kn_200, kn_212, kn_2001, tn_lt, fn_lt, tn_le, fn_le, tn_eq, fn_eq, x_lt, x_le, x_eq, x_ix, x_nat, t_lt, f_lt, t_le, f_le, t_eq, f_eq, eq_self, and_self, true_and, and_true, false_and, and_false, if_true, if_false, Int.toNat_natCast, bI_s, bL_s, bA_s, bA_n, bV_s, mq_s, mq_n, en_le, bl_0, bl_1, u_eq, u_ne, w_eq, w_ne, v_eq, v_ne, x8, x10]
      subst htk2
      have hok : okc gq.2.2.2.2.1 gq.2.2.2.2.2.1 tk ↔ stp gq tk = 0 ∨ stp gq tk = 1 := by
        unfold okc stp
        rw [Int.toNat_natCast]
        by_cases e : tk < gq.2.2.2.2.1
        · rw [if_pos (by omega)]
          exact ⟨fun h => h.2, fun h => ⟨e, h⟩⟩
        · rw [if_neg (by omega)]
          exact ⟨fun h => absurd h.1 e, fun h => by omega⟩
      have hval : stp gq tk = 0 ∨ stp gq tk = 1 → gq.2.2.2.2.2.1 tk = stp gq tk := by
        intro h
        have := hok.mpr h
        unfold stp
        rw [Int.toNat_natCast, if_pos (by have := this.1; omega)]
      have hstr : i32 (stp gq tk) := by
        unfold stp
        rw [Int.toNat_natCast]
        split
        · rename_i hh
          have := hr3 tk (by omega)
          unfold i32; omega
        · unfold i32; omega
      by_cases y0 : stp gq tk = 0
      · obtain ⟨zn, rfl⟩ : ∃ zn : Nat, z = zn := ⟨z.toNat, by omega⟩
        rw [c5] at w1
        obtain ⟨D3, arr3, p1, p2, p3, p4, p5, p6, p7⟩ := e_put (sc := sc) (d := m') (XI := XI) (XA := XA) (XP := XP) (XC := XC) (MI := MI) (MA := MA) (ML := ML) (x := zn) (len := zs) (by omega) b2 (by omega) w1 w2 c7
        simp (disch := (first | assumption | (unfold i32; omega) | (unfold i64; omega) | omega)) only [ki_0, ki_1, ki_2, ki_3, ki_4, ki_5, ki_6, ki_7, ki_8, ki_9, ki_10, ki_11, ki_12, ki_13, ki_14, ki_15, ki_20, ki_21, ki_30, ki_31, ki_40, ki_41, ki_50, ki_51, ki_60, ki_63, ki_64, ki_65, ki_100, ki_158, ki_160, ki_200, ki_212, ki_1000, ki_2000, ki_2001, ki_5000, ki_10000, ki_10001, ki_100000, ki_200000, ki_1000000, ki_2000000, ki_3000000, iO_neg, iO_add, iO_sub, iO_mul, kn_4, kn_8, kn_10, kn_20, kn_24, kn_40, kn_41, kn_50, kn_60, kn_158, kn_160, kn_200, kn_212, kn_2001, tn_lt, fn_lt, tn_le, fn_le, tn_eq, fn_eq, x_lt, x_le, x_eq, x_ix, x_nat, t_lt, f_lt, t_le, f_le, t_eq, f_eq, eq_self, and_self, true_and, and_true, false_and, and_false, if_true, if_false, Int.toNat_natCast, bI_s, bL_s, bA_s, bA_n, bV_s, mq_s, mq_n, en_le, bl_0, bl_1, u_eq, u_ne, w_eq, w_ne, v_eq, v_ne, v3, v4, vc, p1]
        have hcl : cutL gq.2.2.2.2.2.1 zn zs o os (tk + 1) = cutL gq.2.2.2.2.2.1 zn zs o os tk ++ cbits zn zs := by
          rw [cutL, if_pos (by rw [hval (Or.inl y0)]; exact y0)]
        rw [← hcl] at p4
        refine fin D3 (tk + 1) _ (tk + 1) en arr3 ⟨p2, p3, Or.inl ⟨e2, rfl⟩, ?_, ?_, ?_, p4⟩ (Or.inl ?_) (p5.trans w5) (p6.trans w4) (fun r a1 a2 => (p7 r a1 a2).trans (w3 r a1))
        · intro i hi
          by_cases e : i = tk
          · subst e; exact hok.mpr (Or.inl y0)
          · exact c4 i (by omega)
        · rw [hcl, List.length_append, cbits_len]
        · omega
        · omega
      by_cases y1 : stp gq tk = 1
      · obtain ⟨on, rfl⟩ : ∃ on : Nat, o = on := ⟨o.toNat, by omega⟩
        rw [c5] at w1
        obtain ⟨D3, arr3, p1, p2, p3, p4, p5, p6, p7⟩ := e_put (sc := sc) (d := m') (XI := XI) (XA := XA) (XP := XP) (XC := XC) (MI := MI) (MA := MA) (ML := ML) (x := on) (len := os) (by omega) b4 (by omega) w1 w2 c7
        simp (disch := (first | assumption | (unfold i32; omega) | (unfold i64; omega) | omega)) only [ki_0, ki_1, ki_2, ki_3, ki_4, ki_5, ki_6, ki_7, ki_8, ki_9, ki_10, ki_11, ki_12, ki_13, ki_14, ki_15, ki_20, ki_21, ki_30, ki_31, ki_40, ki_41, ki_50, ki_51, ki_60, ki_63, ki_64, ki_65, ki_100, ki_158, ki_160, ki_200, ki_212, ki_1000, ki_2000, ki_2001, ki_5000, ki_10000, ki_10001, ki_100000, ki_200000, ki_1000000, ki_2000000, ki_3000000, iO_neg, iO_add, iO_sub, iO_mul, kn_4, kn_8, kn_10, kn_20, kn_24, kn_40, kn_41, kn_50, kn_60, kn_158, kn_160, kn_200, kn_212, kn_2001, tn_lt, fn_lt, tn_le, fn_le, tn_eq, fn_eq, x_lt, x_le, x_eq, x_ix, x_nat, t_lt, f_lt, t_le, f_le, t_eq, f_eq, eq_self, and_self, true_and, and_true, false_and, and_false, if_true, if_false, Int.toNat_natCast, bI_s, bL_s, bA_s, bA_n, bV_s, mq_s, mq_n, en_le, bl_0, bl_1, u_eq, u_ne, w_eq, w_ne, v_eq, v_ne, v5, v6, vc, p1]
        have hcl : cutL gq.2.2.2.2.2.1 z zs on os (tk + 1) = cutL gq.2.2.2.2.2.1 z zs on os tk ++ cbits on os := by
          rw [cutL, if_neg (by rw [hval (Or.inr y1)]; omega)]
        rw [← hcl] at p4
        refine fin D3 (tk + 1) _ (tk + 1) en arr3 ⟨p2, p3, Or.inl ⟨e2, rfl⟩, ?_, ?_, ?_, p4⟩ (Or.inl ?_) (p5.trans w5) (p6.trans w4) (fun r a1 a2 => (p7 r a1 a2).trans (w3 r a1))
        · intro i hi
          by_cases e : i = tk
          · subst e; exact hok.mpr (Or.inr y1)
          · exact c4 i (by omega)
        · rw [hcl, List.length_append, cbits_len]
        · omega
        · omega
      · have hS2 : (CCf g.2.1 g.2.2.1 q z zs o os p kn (tk + 1) en).set 10 (.int (iO 1)) = CCf g.2.1 g.2.2.1 q z zs o os p kn (tk + 1) 1 := rfl
        simp (disch := (first | assumption | (unfold i32; omega) | (unfold i64; omega) | omega)) only [ki_0, ki_1, ki_2, ki_3, ki_4, ki_5, ki_6, ki_7, ki_8, ki_9, ki_10, ki_11, ki_12, ki_13, ki_14, ki_15, ki_20, ki_21, ki_30, ki_31, ki_40, ki_41, ki_50, ki_51, ki_60, ki_63, ki_64, ki_65, ki_100, ki_158, ki_160, ki_200, ki_212, ki_1000, ki_2000, ki_2001, ki_5000, ki_10000, ki_10001, ki_100000, ki_200000, ki_1000000, ki_2000000, ki_3000000, iO_neg, iO_add, iO_sub, iO_mul, kn_4, kn_8, kn_10, kn_20, kn_24, kn_40, kn_41, kn_50, kn_60, kn_158, kn_160, kn_200, kn_212, kn_2001, tn_lt, fn_lt, tn_le, fn_le, tn_eq, fn_eq, x_lt, x_le, x_eq, x_ix, x_nat, t_lt, f_lt, t_le, f_le, t_eq, f_eq, eq_self, and_self, true_and, and_true, false_and, and_false, if_true, if_false, Int.toNat_natCast, bI_s, bL_s, bA_s, bA_n, bV_s, mq_s, mq_n, en_le, bl_0, bl_1, u_eq, u_ne, w_eq, w_ne, v_eq, v_ne, vp, hS2]
        refine fin (D2.set p (.inr (1, CCf g.2.1 g.2.2.1 q z zs o os p kn (tk + 1) 1))) tk kn (tk + 1) 1 arr ⟨nt_set_eq w1, ?_, Or.inr ⟨rfl, rfl, fun h => ?_⟩, c4, c5, c6, c7⟩ (Or.inr rfl) ?_ ?_ ?_
        · rw [nt_set_ne (by omega)]; exact w2
        · rcases hok.mp h with h | h
          · exact y0 h
          · exact y1 h
        · rw [List.length_set, w5]
        · exact (en_sz_set D2 p (.inr (1, CCf g.2.1 g.2.2.1 q z zs o os p kn (tk + 1) 1)) _ w1 rfl).trans w4
        · intro r a1 a2
          rw [nt_set_ne a1, w3 r a1]
    · have e3 : en = 1 := by rcases c3 with ⟨h, -⟩ | ⟨h, -⟩ <;> omega
      refine ⟨D, k, kn, tk, en, arr, ?_, hV, KP.refl, hK, Or.inr e3⟩
      simp (disch := (first | assumption | (unfold i32; omega) | (unfold i64; omega) | omega)) only [ki_0, ki_1, ki_2, ki_3, ki_4, ki_5, ki_6, ki_7, ki_8, ki_9, ki_10, ki_11, ki_12, ki_13, ki_14, ki_15, ki_20, ki_21, ki_30, ki_31, ki_40, ki_41, ki_50, ki_51, ki_60, ki_63, ki_64, ki_65, ki_100, ki_158, ki_160, ki_200, ki_212, ki_1000, ki_2000, ki_2001, ki_5000, ki_10000, ki_10001, ki_100000, ki_200000, ki_1000000, ki_2000000, ki_3000000, iO_neg, iO_add, iO_sub, iO_mul, kn_4, kn_8, kn_10, kn_20, kn_24, kn_40, kn_41, kn_50, kn_60, kn_158, kn_160, kn_200, kn_212, kn_2001, tn_lt, fn_lt, tn_le, fn_le, tn_eq, fn_eq, x_lt, x_le, x_eq, x_ix, x_nat, t_lt, f_lt, t_le, f_le, t_eq, f_eq, eq_self, and_self, true_and, and_true, false_and, and_false, if_true, if_false, Int.toNat_natCast, bI_s, bL_s, bA_s, bA_n, bV_s, mq_s, mq_n, en_le, bl_0, bl_1, u_eq, u_ne, w_eq, w_ne, v_eq, v_ne, g8, g10]
end LRN
