/-! THE STEP of a row's object at a place -/
def stp (g : GD) (x : Int) : Int := if 0 ≤ x ∧ x < (g.2.2.2.2.1 : Nat) then g.2.2.2.2.2.1 x.toNat else -1
abbrev vst : List (Nat × Nat) := [(1, 9), (2, 17), (3, 17), (4, 17), (8, 57)]
theorem vs_bI {ρ : Type} (X : Nat → Option en_R) (F : Int32 → en_H → Option ρ) (c : Nat) : ∀ cs, en_vs (fun i => en_bI (X i) F) c cs = en_bI (en_vs X c cs) F
  | [] => rfl
  | q :: l => by
    unfold en_vs
    split
    · rfl
    · exact vs_bI X F c l
theorem vt_bI {ρ : Type} (z : en_H) (b : Nat) (cs : List (Nat × Nat)) (X : Nat → Option en_R) (F : Int32 → en_H → Option ρ) : en_vt z b cs (fun i => en_bI (X i) F) = en_bI (en_vt z b cs X) F := by
  unfold en_vt en_cc
  split
  · exact vs_bI X F _ cs
  · rfl
/-- what stays in a heap in which rows of numbers up to N have been asked -/
def KP (Γ : Nat → Option GD) (N : Nat) (D D' : en_H) : Prop := D'.length = D.length ∧ en_sz D' = en_sz D ∧ FR D D' ∧ ∀ p g, Γ p = some g → g.1 = 3 → N < g.2.1 → en_nt D' p = en_nt D p ∧ en_nt D' (p + 1) = en_nt D (p + 1)
theorem KP.refl {Γ : Nat → Option GD} {N : Nat} {D : en_H} : KP Γ N D D := ⟨rfl, rfl, FR.refl D, fun _ _ _ _ _ => ⟨rfl, rfl⟩⟩
theorem KP.trans {Γ : Nat → Option GD} {N M : Nat} {D D' D'' : en_H} (h1 : KP Γ N D D') (h2 : KP Γ M D' D'') (hm : N ≤ M) : KP Γ M D D'' :=
  ⟨h2.1.trans h1.1, h2.2.1.trans h1.2.1, h1.2.2.1.trans h2.2.2.1, fun p g a b c => ⟨((h2.2.2.2 p g a b c).1).trans (h1.2.2.2 p g a b (by omega)).1, ((h2.2.2.2 p g a b c).2).trans (h1.2.2.2 p g a b (by omega)).2⟩⟩
theorem fr_of {D D3 : en_H} {p : Nat} {fs : List Value} {x : _} (c1 : en_nt D p = some (.inr (1, fs))) (c2 : en_nt D (p + 1) = some (.inl (1, x))) (hne : ∀ r, r ≠ p → r ≠ p + 1 → en_nt D3 r = en_nt D r) : FR D D3 := by
  intro r c h hi
  rw [hne r ?_ ?_]
  · exact h
  · intro e
    subst e
    rw [c1] at h
    cases h
    cases hi
  · intro e
    subst e
    rw [c2] at h
    cases h
    cases hi
theorem HV_upd {Γ : Nat → Option GD} {D D3 : en_H} {p : Nat} {g : GD} (hV : HV Γ D) (hg : Γ p = some g) {fs : List Value} {x : _} (c1 : en_nt D p = some (.inr (1, fs))) (c2 : en_nt D (p + 1) = some (.inl (1, x))) (hne : ∀ r, r ≠ p → r ≠ p + 1 → en_nt D3 r = en_nt D r) (hrc : RC Γ D3 p g) : HV Γ D3 := by
  have hf := fr_of c1 c2 hne
  intro p' g' h'
  obtain ⟨a1, a2, a3, a4⟩ := hV p' g' h'
  refine ⟨a1, a2, a3, ?_⟩
  by_cases e : p' = p
  · subst e
    rw [hg] at h'
    cases h'
    exact hrc
  · rcases a4 with ⟨b1, arr, b2, b3, b4⟩ | ⟨b1, sp, u, v, b2, b3, b4⟩ | ⟨b1, q, gq, kn, tk, en, arr, z, zs, o, os, b2, b3, b4, b5, b6⟩
    · exact Or.inl ⟨b1, arr, hf _ _ b2 rfl, hf _ _ b3 rfl, b4⟩
    · refine Or.inr (Or.inl ⟨b1, sp, u, v, hf _ _ b2 ?_, b3.fr hf, b4⟩)
      unfold evc
      split
      · rfl
      · split <;> rfl
    · refine Or.inr (Or.inr ⟨b1, q, gq, kn, tk, en, arr, z, zs, o, os, b2, b3, ?_, ?_, b6⟩)
      · rw [hne p' e (fun h => by subst h; rw [c2] at b4; cases b4)]
        exact b4
      · rw [hne (p' + 1) (fun h => by rw [h, c1] at b5; cases b5) (by omega)]
        exact b5
theorem EW_eq {A B C E a b c d t : Int} (hE : EQN A B C t a b c) (hD : E = d * (t * t)) (hS : SL A B C E) (hC : CL a b c d) {u v N : Int} (hv : 1 ≤ v) : whl (v * N * a + u * c) (v * N * b) d (c * v) = EW (A, B, C, E) u v N := by
  subst hD
  obtain ⟨e1, e2, e3, e4, e5⟩ := id hE
  have hd : 0 < d := by obtain ⟨-, -, -, -, -, -, h, -⟩ := hC; omega
  have q : EQN (v * N * A + u * C) (v * N * B) (C * v) t (v * N * a + u * c) (v * N * b) (c * v) := ⟨Int.mul_pos e1 (by omega), Int.mul_pos e2 (by omega), e3, by grind, by grind⟩
  have hb : v * N * B ≠ 0 → B ≠ 0 := fun h g => h (by rw [g, Int.mul_zero])
  refine (q.hw1 hd (fun h => ?_) (fun h => ?_)).symm
  · obtain ⟨-, -, -, -, -, -, -, -, -, h1⟩ := hC
    exact h1 (fun g => hb h (hE.zero.mpr g))
  · obtain ⟨-, -, -, -, -, -, -, -, h1, -⟩ := hS
    exact h1 (hb h)
theorem kn40 : ∀ n : Nat, n < 41 → Int32.ofNat n = iO n := by decide +kernel
section STP
variable {sc : en_S} {Γ : Nat → Option GD}
variable {XI : Nat → Int32} {XA : Nat → Nat → Int32} {XP : Nat → Nat → Option Nat} {XC : Value} {MI : Nat → Int32} {MA : Nat → Nat → Int32} {ML : Nat → Nat → Int64}
theorem e_told {m p num n : Nat} {sec : Int} {D : en_H} {arr : Nat → Int32} {f : Nat → Int} (h1 : en_nt D p = some (.inr (8, [.int (iO (num : Nat)), .int (iO sec), .ref (p + 52)]))) (h2 : en_nt D (p + 1) = some (.inl (0, n, .inl arr))) (h3 : ∀ i, i < n → arr i = iO (f i)) (h4 : n ≤ 40) {x : Int} (hx : i32 x) : f_X9_stepAt sc (m + 1) (p + 51) (iO x) (hp XI XA XP XC MI MA ML D) = some (some (.int (iO (if 0 ≤ x ∧ x < (n : Nat) then f x.toNat else -1))), hp XI XA XP XC MI MA ML D) := by
  obtain ⟨x1, x2⟩ := id hx
  have g2 : ∀ (f0 : Option en_R) (f : Nat → Option en_R), en_gA (hp XI XA XP XC MI MA ML D) (p + 51) [(8, 0)] 2 f0 f = f (p + 52) := fun f0 f => d_gA h1 rfl rfl f0 f
  have gl : ∀ (f : Int32 → Option en_R), en_ln sc (hp XI XA XP XC MI MA ML D) (p + 52) f = f (iO n) := fun f => by rw [← kn40 n (by omega)]; exact d_ln (p := p + 1) h2 (by decide) f
  have ga : ∀ (i : Int32) (f : Int32 → Option en_R), en_aI sc (hp XI XA XP XC MI MA ML D) (p + 52) i f = if en_ix i n then f (arr i.toNatClampNeg) else none := fun i f => d_aI (p := p + 1) h2 i f
  rw [e_X9_stepAt]
  by_cases c1 : x < 0
  · simp (disch := (first | assumption | (unfold i32; omega) | (unfold i64; omega) | omega)) only [ki_0, ki_1, ki_2, ki_3, ki_4, ki_5, ki_6, ki_7, ki_8, ki_9, ki_10, ki_11, ki_12, ki_13, ki_14, ki_15, ki_20, ki_21, ki_30, ki_31, ki_40, ki_41, ki_50, ki_51, ki_60, ki_63, ki_64, ki_65, ki_100, ki_158, ki_160, ki_200, ki_212, ki_1000, ki_2000, ki_2001, ki_5000, ki_10000, ki_10001, ki_100000, ki_200000, ki_1000000, ki_2000000, ki_3000000, iO_neg, iO_add, iO_sub, iO_mul, kn_4, kn_8, kn_10, kn_20, kn_24, kn_40, kn_41, kn_50, kn_60, kn_158, kn_160, kn_200, kn_212, kn_2001, tn_lt, fn_lt, tn_le, fn_le, tn_eq, fn_eq, x_lt, x_le, x_eq, x_ix, x_nat, t_lt, f_lt, t_le, f_le, t_eq, f_eq, eq_self, and_self, true_and, and_true, false_and, and_false, if_true, if_false, Int.toNat_natCast, bI_s, bL_s, bA_s, bA_n, bV_s, mq_s, mq_n, en_le, bl_0, bl_1, u_eq, u_ne, w_eq, w_ne, v_eq, v_ne]
  obtain ⟨y, rfl⟩ : ∃ y : Nat, x = y := ⟨x.toNat, by omega⟩
  by_cases c2 : y < n
  · simp (disch := (first | assumption | (unfold i32; omega) | (unfold i64; omega) | omega)) only [ki_0, ki_1, ki_2, ki_3, ki_4, ki_5, ki_6, ki_7, ki_8, ki_9, ki_10, ki_11, ki_12, ki_13, ki_14, ki_15, ki_20, ki_21, ki_30, ki_31, ki_40, ki_41, ki_50, ki_51, ki_60, ki_63, ki_64, ki_65, ki_100, ki_158, ki_160, ki_200, ki_212, ki_1000, ki_2000, ki_2001, ki_5000, ki_10000, ki_10001, ki_100000, ki_200000, ki_1000000, ki_2000000, ki_3000000, iO_neg, iO_add, iO_sub, iO_mul, kn_4, kn_8, kn_10, kn_20, kn_24, kn_40, kn_41, kn_50, kn_60, kn_158, kn_160, kn_200, kn_212, kn_2001, tn_lt, fn_lt, tn_le, fn_le, tn_eq, fn_eq, x_lt, x_le, x_eq, x_ix, x_nat, t_lt, f_lt, t_le, f_le, t_eq, f_eq, eq_self, and_self, true_and, and_true, false_and, and_false, if_true, if_false, Int.toNat_natCast, bI_s, bL_s, bA_s, bA_n, bV_s, mq_s, mq_n, en_le, bl_0, bl_1, u_eq, u_ne, w_eq, w_ne, v_eq, v_ne, g2, gl, ga, h3]
  · simp (disch := (first | assumption | (unfold i32; omega) | (unfold i64; omega) | omega)) only [ki_0, ki_1, ki_2, ki_3, ki_4, ki_5, ki_6, ki_7, ki_8, ki_9, ki_10, ki_11, ki_12, ki_13, ki_14, ki_15, ki_20, ki_21, ki_30, ki_31, ki_40, ki_41, ki_50, ki_51, ki_60, ki_63, ki_64, ki_65, ki_100, ki_158, ki_160, ki_200, ki_212, ki_1000, ki_2000, ki_2001, ki_5000, ki_10000, ki_10001, ki_100000, ki_200000, ki_1000000, ki_2000000, ki_3000000, iO_neg, iO_add, iO_sub, iO_mul, kn_4, kn_8, kn_10, kn_20, kn_24, kn_40, kn_41, kn_50, kn_60, kn_158, kn_160, kn_200, kn_212, kn_2001, tn_lt, fn_lt, tn_le, fn_le, tn_eq, fn_eq, x_lt, x_le, x_eq, x_ix, x_nat, t_lt, f_lt, t_le, f_le, t_eq, f_eq, eq_self, and_self, true_and, and_true, false_and, and_false, if_true, if_false, Int.toNat_natCast, bI_s, bL_s, bA_s, bA_n, bV_s, mq_s, mq_n, en_le, bl_0, bl_1, u_eq, u_ne, w_eq, w_ne, v_eq, v_ne, g2, gl]
theorem e_evstep {m p num ci sp : Nat} {sec so u v : Int} {D : en_H} {s : SL4} (hci : ci = 2 ∨ ci = 3 ∨ ci = 4) (h1 : en_nt D p = some (.inr (ci, [.int (iO (num : Nat)), .int (iO sec), .ref (sp + 51), .int (iO so), .int (iO u), .int (iO v)]))) (hs : SlO D sp s) (hS : SL s.1 s.2.1 s.2.2.1 s.2.2.2) (hv : 1 ≤ v) (hv2 : v ≤ 100) (hu : 0 ≤ u) (hu2 : u < v) {x : Int} (hx : i32 x) : f_X2_stepAt sc (m + 5) (p + 51) (iO x) (hp XI XA XP XC MI MA ML D) = some (some (.int (iO (if 0 ≤ x ∧ x < (10001 : Nat) then evs s u v x.toNat else -1))), hp XI XA XP XC MI MA ML D) := by
  obtain ⟨x1, x2⟩ := id hx
  obtain ⟨a, b, c, d, t, qs, ls, k1, k2, k3, hC, hE, hD, -⟩ := hs
  have hfd : en_fd [(2, 0), (3, 0), (4, 0)] ci = some 0 := by rcases hci with rfl | rfl | rfl <;> rfl
  have g2 : ∀ (f0 : Option en_R) (f : Nat → Option en_R), en_gA (hp XI XA XP XC MI MA ML D) (p + 51) [(2, 0), (3, 0), (4, 0)] 2 f0 f = f (sp + 51) := fun f0 f => d_gA h1 hfd rfl f0 f
  have g4 : ∀ (f : Int32 → Option en_R), en_gI (hp XI XA XP XC MI MA ML D) (p + 51) [(2, 0), (3, 0), (4, 0)] 4 f = f (iO u) := fun f => d_gI h1 hfd rfl f
  have g5 : ∀ (f : Int32 → Option en_R), en_gI (hp XI XA XP XC MI MA ML D) (p + 51) [(2, 0), (3, 0), (4, 0)] 5 f = f (iO v) := fun f => d_gI h1 hfd rfl f
  have gc : ∀ (g : Nat → Option en_R), en_cc (hp XI XA XP XC MI MA ML D) (sp + 51) g = g 6 := fun g => d_cc k1 g
  rw [e_X2_stepAt]
  by_cases c1 : x < 0
  · simp (disch := (first | assumption | (unfold i32; omega) | (unfold i64; omega) | omega)) only [ki_0, ki_1, ki_2, ki_3, ki_4, ki_5, ki_6, ki_7, ki_8, ki_9, ki_10, ki_11, ki_12, ki_13, ki_14, ki_15, ki_20, ki_21, ki_30, ki_31, ki_40, ki_41, ki_50, ki_51, ki_60, ki_63, ki_64, ki_65, ki_100, ki_158, ki_160, ki_200, ki_212, ki_1000, ki_2000, ki_2001, ki_5000, ki_10000, ki_10001, ki_100000, ki_200000, ki_1000000, ki_2000000, ki_3000000, iO_neg, iO_add, iO_sub, iO_mul, kn_4, kn_8, kn_10, kn_20, kn_24, kn_40, kn_41, kn_50, kn_60, kn_158, kn_160, kn_200, kn_212, kn_2001, tn_lt, fn_lt, tn_le, fn_le, tn_eq, fn_eq, x_lt, x_le, x_eq, x_ix, x_nat, t_lt, f_lt, t_le, f_le, t_eq, f_eq, eq_self, and_self, true_and, and_true, false_and, and_false, if_true, if_false, Int.toNat_natCast, bI_s, bL_s, bA_s, bA_n, bV_s, mq_s, mq_n, en_le, bl_0, bl_1, u_eq, u_ne, w_eq, w_ne, v_eq, v_ne]
  by_cases c2 : 10000 < x
  · simp (disch := (first | assumption | (unfold i32; omega) | (unfold i64; omega) | omega)) only [ki_0, ki_1, ki_2, ki_3, ki_4, ki_5, ki_6, ki_7, ki_8, ki_9, ki_10, ki_11, ki_12, ki_13, ki_14, ki_15, ki_20, ki_21, ki_30, ki_31, ki_40, ki_41, ki_50, ki_51, ki_60, ki_63, ki_64, ki_65, ki_100, ki_158, ki_160, ki_200, ki_212, ki_1000, ki_2000, ki_2001, ki_5000, ki_10000, ki_10001, ki_100000, ki_200000, ki_1000000, ki_2000000, ki_3000000, iO_neg, iO_add, iO_sub, iO_mul, kn_4, kn_8, kn_10, kn_20, kn_24, kn_40, kn_41, kn_50, kn_60, kn_158, kn_160, kn_200, kn_212, kn_2001, tn_lt, fn_lt, tn_le, fn_le, tn_eq, fn_eq, x_lt, x_le, x_eq, x_ix, x_nat, t_lt, f_lt, t_le, f_le, t_eq, f_eq, eq_self, and_self, true_and, and_true, false_and, and_false, if_true, if_false, Int.toNat_natCast, bI_s, bL_s, bA_s, bA_n, bV_s, mq_s, mq_n, en_le, bl_0, bl_1, u_eq, u_ne, w_eq, w_ne, v_eq, v_ne]
  obtain ⟨y, rfl⟩ : ∃ y : Nat, x = y := ⟨x.toNat, by omega⟩
  have b1 := mul_le_mul' (a := v) (b := 100) (c := (y : Int)) (d := 10000) (by omega) hv2 (by omega) (by omega)
  have b2 := mul_le_mul' (a := v) (b := 100) (c := (y : Int) + 1) (d := 10001) (by omega) hv2 (by omega) (by omega)
  have w1 := e_cwhole (sc := sc) (n := m) (z := hp XI XA XP XC MI MA ML D) (p := sp + 51) k1 hC (N := (y : Int) + 1) (u := u) (v := v) hv hv2 (by omega) (by omega) hu (by omega)
  have w2 := e_cwhole (sc := sc) (n := m) (z := hp XI XA XP XC MI MA ML D) (p := sp + 51) k1 hC (N := (y : Int)) (u := u) (v := v) hv hv2 (by omega) (by omega) hu (by omega)
  rw [EW_eq hE hD hS hC hv] at w1 w2
  simp (disch := (first | assumption | (unfold i32; omega) | (unfold i64; omega) | omega)) only [ki_0, ki_1, ki_2, ki_3, ki_4, ki_5, ki_6, ki_7, ki_8, ki_9, ki_10, ki_11, ki_12, ki_13, ki_14, ki_15, ki_20, ki_21, ki_30, ki_31, ki_40, ki_41, ki_50, ki_51, ki_60, ki_63, ki_64, ki_65, ki_100, ki_158, ki_160, ki_200, ki_212, ki_1000, ki_2000, ki_2001, ki_5000, ki_10000, ki_10001, ki_100000, ki_200000, ki_1000000, ki_2000000, ki_3000000, iO_neg, iO_add, iO_sub, iO_mul, kn_4, kn_8, kn_10, kn_20, kn_24, kn_40, kn_41, kn_50, kn_60, kn_158, kn_160, kn_200, kn_212, kn_2001, tn_lt, fn_lt, tn_le, fn_le, tn_eq, fn_eq, x_lt, x_le, x_eq, x_ix, x_nat, t_lt, f_lt, t_le, f_le, t_eq, f_eq, eq_self, and_self, true_and, and_true, false_and, and_false, if_true, if_false, Int.toNat_natCast, bI_s, bL_s, bA_s, bA_n, bV_s, mq_s, mq_n, en_le, bl_0, bl_1, u_eq, u_ne, w_eq, w_ne, v_eq, v_ne, g2, g4, g5, gc, iO_wide, w1, w2, lO_sub, lO_narrow]
  rfl
end STP
