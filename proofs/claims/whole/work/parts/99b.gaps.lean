/-! THE GAPS by sorts, told purely; the class finds them -/
def gfnd (s : Nat → Int) : Nat → Nat → Nat
  | 0, p => p
  | j + 1, p => if s p < 0 then gfnd s j (p + 1) else p
theorem gfnd_bd {s : Nat → Int} : ∀ (j p : Nat), p ≤ gfnd s j p ∧ gfnd s j p ≤ p + j
  | 0, p => ⟨Nat.le_refl _, by show p ≤ p + 0; omega⟩
  | j + 1, p => by
    rw [gfnd]
    split
    · have := gfnd_bd (s := s) j (p + 1)
      omega
    · omega
def shf (p k : Nat) (f : Nat → Int) (t : Nat) : Int := if p < t ∧ t ≤ k then f (t - 1) else f t
abbrev G4 : Type := Nat × (Nat → Int) × (Nat → Int) × (Nat → Int)
noncomputable def gpl (l : SL4) (gx gy : Int) (st : G4) : Nat := gfnd (fun t => sgn l (gx - st.2.2.1 t) (gy - st.2.2.2 t)) st.1 0
noncomputable def gadd (l : SL4) (gx gy : Int) (st : G4) : G4 :=
  if gpl l gx gy st < st.1 ∧ sgn l (gx - st.2.2.1 (gpl l gx gy st)) (gy - st.2.2.2 (gpl l gx gy st)) = 0 then (st.1, va_up st.2.1 (gpl l gx gy st) (st.2.1 (gpl l gx gy st) + 1), st.2.2.1, st.2.2.2)
  else (st.1 + 1, va_up (shf (gpl l gx gy st) st.1 st.2.1) (gpl l gx gy st) 1, va_up (shf (gpl l gx gy st) st.1 st.2.2.1) (gpl l gx gy st) gx, va_up (shf (gpl l gx gy st) st.1 st.2.2.2) (gpl l gx gy st) gy)
noncomputable def gst (l : SL4) (gx gy : Nat → Int) : Nat → G4
  | 0 => (0, fun _ => 0, fun _ => 0, fun _ => 0)
  | i + 1 => gadd l (gx i) (gy i) (gst l gx gy i)
/-- bounds of a state of sorts -/
def GB (st : G4) (i : Nat) : Prop := st.1 ≤ i ∧ ∀ t, t < st.1 → 0 ≤ st.2.1 t ∧ st.2.1 t ≤ i ∧ -1181 ≤ st.2.2.1 t ∧ st.2.2.1 t ≤ 1181 ∧ -60 ≤ st.2.2.2 t ∧ st.2.2.2 t ≤ 60
theorem GB.add {l : SL4} {st : G4} {i : Nat} (h : GB st i) {gx gy : Int} (h1 : -1181 ≤ gx) (h2 : gx ≤ 1181) (h3 : -60 ≤ gy) (h4 : gy ≤ 60) : GB (gadd l gx gy st) (i + 1) := by
  obtain ⟨a1, a2⟩ := h
  have hb := gfnd_bd (s := fun t => sgn l (gx - st.2.2.1 t) (gy - st.2.2.2 t)) st.1 0
  have hb : gpl l gx gy st ≤ st.1 := by unfold gpl; omega
  unfold gadd
  generalize gpl l gx gy st = p at *
  split
  · rename_i g
    refine ⟨by show st.1 ≤ i + 1; omega, fun t ht => ?_⟩
    have ht : t < st.1 := ht
    have := a2 t ht
    show 0 ≤ va_up st.2.1 p (st.2.1 p + 1) t ∧ va_up st.2.1 p (st.2.1 p + 1) t ≤ ((i + 1 : Nat) : Int) ∧ _
    by_cases e : t = p
    · rw [w_eq e]
      subst e
      refine ⟨by omega, by omega, this.2.2⟩
    · rw [w_ne e]
      exact ⟨by omega, by omega, this.2.2⟩
  · refine ⟨by show st.1 + 1 ≤ i + 1; omega, fun t ht => ?_⟩
    have ht : t < st.1 + 1 := ht
    show 0 ≤ va_up (shf p st.1 st.2.1) p 1 t ∧ va_up (shf p st.1 st.2.1) p 1 t ≤ ((i + 1 : Nat) : Int) ∧ -1181 ≤ va_up (shf p st.1 st.2.2.1) p gx t ∧ va_up (shf p st.1 st.2.2.1) p gx t ≤ 1181 ∧ -60 ≤ va_up (shf p st.1 st.2.2.2) p gy t ∧ va_up (shf p st.1 st.2.2.2) p gy t ≤ 60
    by_cases e : t = p
    · rw [w_eq e, w_eq e, w_eq e]
      omega
    · rw [w_ne e, w_ne e, w_ne e]
      unfold shf
      by_cases c : p < t ∧ t ≤ st.1
      · rw [if_pos c, if_pos c, if_pos c]
        have := a2 (t - 1) (by omega)
        omega
      · rw [if_neg c, if_neg c, if_neg c]
        have := a2 t (by omega)
        omega
theorem gst_bd {l : SL4} {gx gy : Nat → Int} {n : Nat} (h : ∀ i, i < n → -1181 ≤ gx i ∧ gx i ≤ 1181 ∧ -60 ≤ gy i ∧ gy i ≤ 60) : ∀ i, i ≤ n → GB (gst l gx gy i) i
  | 0, _ => ⟨Nat.le_refl _, fun t ht => by have : t < 0 := ht; omega⟩
  | i + 1, hi => by
    obtain ⟨a, b, c, d⟩ := h i (by omega)
    exact (gst_bd h i (by omega)).add a b c d
/-- where a number stands -/
def inv (o : Nat → Nat) (a : Nat) : Nat → Nat
  | 0 => 0
  | t + 1 => if o t = a then t else inv o a t
theorem inv_at {o : Nat → Nat} {a : Nat} : ∀ n, (∃ t, t < n ∧ o t = a) → inv o a n < n ∧ o (inv o a n) = a
  | 0, ⟨t, h, _⟩ => by omega
  | n + 1, ⟨t, h1, h2⟩ => by
    rw [inv]
    split
    · rename_i e
      exact ⟨by omega, e⟩
    · rename_i e
      have : t ≠ n := fun q => e (by rw [← q]; exact h2)
      obtain ⟨q1, q2⟩ := inv_at n ⟨t, by omega, h2⟩
      exact ⟨by omega, q2⟩
theorem inv_of {o : Nat → Nat} {n t : Nat} (hp : perm o n) (ht : t < n) : inv o (o t) n = t := by
  obtain ⟨q1, q2⟩ := inv_at n ⟨t, ht, rfl⟩
  exact hp.2.1 _ _ q1 ht q2
def nxo (o : Nat → Nat) (n t : Nat) : Nat := if t + 1 < n then o (t + 1) else o 0
def nxt (o : Nat → Nat) (n a : Nat) : Nat := nxo o n (inv o a n)
noncomputable def gxf (l : SL4) (n a : Nat) : Int := WN l a - WN l (nxt (ords l n) n a) + (if inv (ords l n) a n + 1 = n then 1 else 0)
noncomputable def gyf (l : SL4) (n a : Nat) : Int := (nxt (ords l n) n a : Int) - (a : Int)
noncomputable def gsts (l : SL4) (n : Nat) : G4 := gst l (gxf l n) (gyf l n) n
theorem nxt_lt {o : Nat → Nat} {n t : Nat} (hp : perm o n) (ht : t < n) : nxo o n t < n := by
  unfold nxo
  split
  · exact hp.1 _ (by omega)
  · exact hp.1 0 (by omega)
theorem gf_bd {l : SL4} (hS : SL l.1 l.2.1 l.2.2.1 l.2.2.2) {n a : Nat} (hn : n ≤ 60) (ha : a < n) : -1181 ≤ gxf l n a ∧ gxf l n a ≤ 1181 ∧ -60 ≤ gyf l n a ∧ gyf l n a ≤ 60 ∧ nxt (ords l n) n a < n := by
  have hp := ordr_perm (ah := ahd l) n
  obtain ⟨q1, q2⟩ := inv_at (o := ords l n) (a := a) n (hp.2.2 a ha)
  have h1 : nxt (ords l n) n a < n := nxt_lt (o := ords l n) hp q1
  have b1 := WN_bd hS (N := a) (by omega)
  have b2 := WN_bd hS (N := nxt (ords l n) n a) (by omega)
  unfold gxf gyf
  refine ⟨?_, ?_, by omega, by omega, h1⟩
  · split <;> omega
  · split <;> omega
section GPX
variable {sc : en_S} {d : Nat} {XP : Nat → Nat → Option Nat} {MI : Nat → Int32} {MA : Nat → Nat → Int32} {ML : Nat → Nat → Int64} {D : en_H} {sp : Nat} {l : SL4}
/-- the class holds a state of sorts -/
def GX (st : G4) (XI : Nat → Int32) (XA : Nat → Nat → Int32) : Prop := XI 14 = iO (st.1 : Int) ∧ ∀ t, t < st.1 → XA 3 t = iO (st.2.1 t) ∧ XA 4 t = iO (st.2.2.1 t) ∧ XA 5 t = iO (st.2.2.2 t)
theorem x_beside {XI : Nat → Int32} {XA : Nat → Nat → Int32} (hs : SlO D sp l) {p : Nat} (hp60 : p < 60) {gx gy x y : Int} (h1 : -1181 ≤ gx) (h2 : gx ≤ 1181) (h3 : -60 ≤ gy) (h4 : gy ≤ 60) (h5 : -1181 ≤ x) (h6 : x ≤ 1181) (h7 : -60 ≤ y) (h8 : y ≤ 60) (t4 : XA 4 p = iO x) (t5 : XA 5 p = iO y) : f_X0_signBeside sc (d + 3) 9 (iO (p : Int)) (iO gx) (iO gy) (hp XI XA XP (.ref (sp + 51)) MI MA ML D) = some (some (.int (iO (sgn l (gx - x) (gy - y)))), hp XI XA XP (.ref (sp + 51)) MI MA ML D) := by
  have hw := x_sum (sc := sc) (n := d) (XI := XI) (XA := XA) (XP := XP) (XC := .ref (sp + 51)) (MI := MI) (MA := MA) (ML := ML) hs (x := gx - x) (y := gy - y) (by omega) (by omega) (by omega) (by omega)
  have hw : f_X7_signOfSum sc (d + 2) (sp + 51) (lO (gx - x)) (lO (gy - y)) (hp XI XA XP (.ref (sp + 51)) MI MA ML D) = some (some (.int (iO (sgn l (gx - x) (gy - y)))), hp XI XA XP (.ref (sp + 51)) MI MA ML D) := hw
  obtain ⟨a, b, c, e, t, qs, ls, k1, -⟩ := hs
  have gc : ∀ (g : Nat → Option en_R), en_cc (hp XI XA XP (.ref (sp + 51)) MI MA ML D) (sp + 51) g = g 6 := fun g => d_cc k1 g
  rw [e_X0_signBeside]
  generalize sgn l (gx - x) (gy - y) = s at *
  simp (disch := (first | assumption | (unfold i32; omega) | (unfold i64; omega) | omega)) only [↓reduceIte, ki_0, ki_1, ki_2, ki_3, ki_4, ki_5, ki_6, ki_7, ki_8, ki_9, ki_10, ki_11, ki_12, ki_13, ki_14, ki_15, ki_20, ki_21, ki_30, ki_31, ki_40, ki_41, ki_50, ki_51, ki_60, ki_63, ki_64, ki_65, ki_100, ki_158, ki_160, ki_200, ki_212, ki_1000, ki_2000, ki_2001, ki_5000, ki_10000, ki_10001, ki_100000, ki_200000, ki_1000000, ki_2000000, ki_3000000, iO_neg, iO_add, iO_sub, iO_mul, kn_4, kn_8, kn_10, kn_20, kn_24, kn_40, kn_41, kn_50, kn_60, kn_158, kn_160, kn_200, kn_212, kn_2001, tn_lt, fn_lt, tn_le, fn_le, tn_eq, fn_eq, x_lt, x_le, x_eq, x_ix, x_nat, t_lt, f_lt, t_le, f_le, t_eq, f_eq, eq_self, and_self, true_and, and_true, false_and, and_false, if_true, if_false, Int.toNat_natCast, bI_s, bL_s, bA_s, bA_n, bV_s, mq_s, mq_n, en_le, bl_0, bl_1, u_eq, u_ne, w_eq, w_ne, v_eq, v_ne, ↓hp_cc_9, ↓hp_g_9_0, ↓hp_g_9_1, ↓hp_g_9_2, ↓hp_g_9_3, ↓hp_g_9_4, ↓hp_p_9_4, ↓hp_g_9_5, ↓hp_g_9_6, ↓hp_p_9_7, ↓hp_g_9_7, ↓hp_a_10, ↓hp_s_10, ↓hp_l_10, ↓hp_a_11, ↓hp_s_11, ↓hp_l_11, ↓hp_a_12, ↓hp_s_12, ↓hp_l_12, ↓hp_a_13, ↓hp_s_13, ↓hp_l_13, ↓hp_a_14, ↓hp_s_14, ↓hp_l_14, ↓hp_a_15, ↓hp_s_15, ↓hp_l_15, t4, t5, iO_wide, gc, hw]
theorem x_insert {gx gy : Int} {st : G4} {p : Nat} (hp0 : p ≤ st.1) (hk : st.1 < 60) : ∀ (j q : Nat) (XI : Nat → Int32) (XA : Nat → Nat → Int32), p + j = q → q ≤ st.1 → XI 14 = iO (st.1 : Int) → (∀ t, t ≤ st.1 → (q < t → XA 3 t = iO (st.2.1 (t - 1)) ∧ XA 4 t = iO (st.2.2.1 (t - 1)) ∧ XA 5 t = iO (st.2.2.2 (t - 1))) ∧ (t < q → XA 3 t = iO (st.2.1 t) ∧ XA 4 t = iO (st.2.2.1 t) ∧ XA 5 t = iO (st.2.2.2 t))) →
    ∃ XI' XA', b_X0_insertSort_1 sc d 9 (iO (p : Int)) (iO gx) (iO gy) (iO (q : Int)) (hp XI XA XP (.ref (sp + 51)) MI MA ML D) = some (none, hp XI' XA' XP (.ref (sp + 51)) MI MA ML D) ∧ GX (st.1 + 1, va_up (shf p st.1 st.2.1) p 1, va_up (shf p st.1 st.2.2.1) p gx, va_up (shf p st.1 st.2.2.2) p gy) XI' XA' ∧ (∀ s, s ≠ 14 → XI' s = XI s) ∧ (∀ m, m ≠ 3 → m ≠ 4 → m ≠ 5 → XA' m = XA m) := by
  intro j
  induction j with
  | zero =>
    intro q XI XA hq hq2 h14 hR
    obtain rfl : q = p := by omega
    refine ⟨va_up XI 14 (iO ((st.1 : Int) + 1)), va_up (va_up (va_up XA 3 (upd (XA 3) q (iO 1))) 4 (upd (XA 4) q (iO gx))) 5 (upd (XA 5) q (iO gy)), ?_, ⟨rfl, ?_⟩, fun s hs => w_ne hs, fun m h3 h4 h5 => by rw [w_ne h5, w_ne h4, w_ne h3]⟩
    · rw [eb_X0_insertSort_1]
      clear hR
      simp (disch := (first | assumption | (unfold i32; omega) | (unfold i64; omega) | omega)) only [↓reduceIte, ki_0, ki_1, ki_2, ki_3, ki_4, ki_5, ki_6, ki_7, ki_8, ki_9, ki_10, ki_11, ki_12, ki_13, ki_14, ki_15, ki_20, ki_21, ki_30, ki_31, ki_40, ki_41, ki_50, ki_51, ki_60, ki_63, ki_64, ki_65, ki_100, ki_158, ki_160, ki_200, ki_212, ki_1000, ki_2000, ki_2001, ki_5000, ki_10000, ki_10001, ki_100000, ki_200000, ki_1000000, ki_2000000, ki_3000000, iO_neg, iO_add, iO_sub, iO_mul, kn_4, kn_8, kn_10, kn_20, kn_24, kn_40, kn_41, kn_50, kn_60, kn_158, kn_160, kn_200, kn_212, kn_2001, tn_lt, fn_lt, tn_le, fn_le, tn_eq, fn_eq, x_lt, x_le, x_eq, x_ix, x_nat, t_lt, f_lt, t_le, f_le, t_eq, f_eq, eq_self, and_self, true_and, and_true, false_and, and_false, if_true, if_false, Int.toNat_natCast, bI_s, bL_s, bA_s, bA_n, bV_s, mq_s, mq_n, en_le, bl_0, bl_1, u_eq, u_ne, w_eq, w_ne, v_eq, v_ne, ↓hp_cc_9, ↓hp_g_9_0, ↓hp_g_9_1, ↓hp_g_9_2, ↓hp_g_9_3, ↓hp_g_9_4, ↓hp_p_9_4, ↓hp_g_9_5, ↓hp_g_9_6, ↓hp_p_9_7, ↓hp_g_9_7, ↓hp_a_10, ↓hp_s_10, ↓hp_l_10, ↓hp_a_11, ↓hp_s_11, ↓hp_l_11, ↓hp_a_12, ↓hp_s_12, ↓hp_l_12, ↓hp_a_13, ↓hp_s_13, ↓hp_l_13, ↓hp_a_14, ↓hp_s_14, ↓hp_l_14, ↓hp_a_15, ↓hp_s_15, ↓hp_l_15, h14]
    · intro t ht
      have ht : t < st.1 + 1 := ht
      show upd (XA 3) q (iO 1) t = iO (va_up (shf q st.1 st.2.1) q 1 t) ∧ upd (XA 4) q (iO gx) t = iO (va_up (shf q st.1 st.2.2.1) q gx t) ∧ upd (XA 5) q (iO gy) t = iO (va_up (shf q st.1 st.2.2.2) q gy t)
      by_cases e : t = q
      · rw [u_eq e, u_eq e, u_eq e, w_eq e, w_eq e, w_eq e]
        exact ⟨rfl, rfl, rfl⟩
      · rw [u_ne e, u_ne e, u_ne e, w_ne e, w_ne e, w_ne e]
        unfold shf
        obtain ⟨r1, r2⟩ := hR t (by omega)
        by_cases c : q < t ∧ t ≤ st.1
        · rw [if_pos c, if_pos c, if_pos c]
          exact r1 c.1
        · rw [if_neg c, if_neg c, if_neg c]
          exact r2 (by omega)
  | succ j ih =>
    intro q XI XA hq hq2 h14 hR
    obtain ⟨q', rfl⟩ : ∃ q', q = q' + 1 := ⟨q - 1, by omega⟩
    obtain ⟨s1, s2, s3⟩ := (hR q' (by omega)).2 (by omega)
    obtain ⟨XI', XA', f1, f2, f3, f4⟩ := ih q' XI (va_up (va_up (va_up XA 3 (upd (XA 3) (q' + 1) (iO (st.2.1 q')))) 4 (upd (XA 4) (q' + 1) (iO (st.2.2.1 q')))) 5 (upd (XA 5) (q' + 1) (iO (st.2.2.2 q')))) (by omega) (by omega) h14 (by
      intro t ht
      obtain ⟨r1, r2⟩ := hR t ht
      show (q' < t → upd (XA 3) (q' + 1) (iO (st.2.1 q')) t = _ ∧ upd (XA 4) (q' + 1) (iO (st.2.2.1 q')) t = _ ∧ upd (XA 5) (q' + 1) (iO (st.2.2.2 q')) t = _) ∧ (t < q' → upd (XA 3) (q' + 1) (iO (st.2.1 q')) t = _ ∧ upd (XA 4) (q' + 1) (iO (st.2.2.1 q')) t = _ ∧ upd (XA 5) (q' + 1) (iO (st.2.2.2 q')) t = _)
      constructor
      · intro h
        by_cases e : t = q' + 1
        · rw [u_eq e, u_eq e, u_eq e, e]
          exact ⟨rfl, rfl, rfl⟩
        · rw [u_ne e, u_ne e, u_ne e]
          exact r1 (by omega)
      · intro h
        rw [u_ne (by omega), u_ne (by omega), u_ne (by omega)]
        exact r2 (by omega))
    refine ⟨XI', XA', ?_, f2, f3, fun m h3 h4 h5 => by rw [f4 m h3 h4 h5, w_ne h5, w_ne h4, w_ne h3]⟩
    rw [← f1, eb_X0_insertSort_1]
    clear f1 f2 f3 f4 ih hR
    rw [show ((q' + 1 : Nat) : Int) = (q' : Int) + 1 by omega]
    have e1 : ((q' : Int) + 1 - 1).toNat = q' := by omega
    have e2 : ((q' : Int) + 1).toNat = q' + 1 := by omega
    simp (disch := (first | assumption | (unfold i32; omega) | (unfold i64; omega) | omega)) only [↓reduceIte, ki_0, ki_1, ki_2, ki_3, ki_4, ki_5, ki_6, ki_7, ki_8, ki_9, ki_10, ki_11, ki_12, ki_13, ki_14, ki_15, ki_20, ki_21, ki_30, ki_31, ki_40, ki_41, ki_50, ki_51, ki_60, ki_63, ki_64, ki_65, ki_100, ki_158, ki_160, ki_200, ki_212, ki_1000, ki_2000, ki_2001, ki_5000, ki_10000, ki_10001, ki_100000, ki_200000, ki_1000000, ki_2000000, ki_3000000, iO_neg, iO_add, iO_sub, iO_mul, kn_4, kn_8, kn_10, kn_20, kn_24, kn_40, kn_41, kn_50, kn_60, kn_158, kn_160, kn_200, kn_212, kn_2001, tn_lt, fn_lt, tn_le, fn_le, tn_eq, fn_eq, x_lt, x_le, x_eq, x_ix, x_nat, t_lt, f_lt, t_le, f_le, t_eq, f_eq, eq_self, and_self, true_and, and_true, false_and, and_false, if_true, if_false, Int.toNat_natCast, bI_s, bL_s, bA_s, bA_n, bV_s, mq_s, mq_n, en_le, bl_0, bl_1, u_eq, u_ne, w_eq, w_ne, v_eq, v_ne, ↓hp_cc_9, ↓hp_g_9_0, ↓hp_g_9_1, ↓hp_g_9_2, ↓hp_g_9_3, ↓hp_g_9_4, ↓hp_p_9_4, ↓hp_g_9_5, ↓hp_g_9_6, ↓hp_p_9_7, ↓hp_g_9_7, ↓hp_a_10, ↓hp_s_10, ↓hp_l_10, ↓hp_a_11, ↓hp_s_11, ↓hp_l_11, ↓hp_a_12, ↓hp_s_12, ↓hp_l_12, ↓hp_a_13, ↓hp_s_13, ↓hp_l_13, ↓hp_a_14, ↓hp_s_14, ↓hp_l_14, ↓hp_a_15, ↓hp_s_15, ↓hp_l_15, e1, e2, s1, s2, s3]
    rw [show (q' : Int) + 1 + -1 = (q' : Int) by omega]
theorem x_addGap (hs : SlO D sp l) {gx gy : Int} (h1 : -1181 ≤ gx) (h2 : gx ≤ 1181) (h3 : -60 ≤ gy) (h4 : gy ≤ 60) {st : G4} {i : Nat} (hB : GB st i) (hi : i < 60) {XI : Nat → Int32} {XA : Nat → Nat → Int32} (hG : GX st XI XA) : ∃ XI' XA', f_X0_addGap sc (d + 5) 9 (iO gx) (iO gy) (hp XI XA XP (.ref (sp + 51)) MI MA ML D) = some (none, hp XI' XA' XP (.ref (sp + 51)) MI MA ML D) ∧ GX (gadd l gx gy st) XI' XA' ∧ (∀ s, s ≠ 14 → XI' s = XI s) ∧ (∀ m, m ≠ 3 → m ≠ 4 → m ≠ 5 → XA' m = XA m) := by
  obtain ⟨b1, b2⟩ := hB
  obtain ⟨g1, g2⟩ := hG
  have hbs : ∀ p, p < st.1 → f_X0_signBeside sc (d + 4) 9 (iO (p : Int)) (iO gx) (iO gy) (hp XI XA XP (.ref (sp + 51)) MI MA ML D) = some (some (.int (iO (sgn l (gx - st.2.2.1 p) (gy - st.2.2.2 p)))), hp XI XA XP (.ref (sp + 51)) MI MA ML D) := by
    intro p hpk
    obtain ⟨-, t4, t5⟩ := g2 p hpk
    obtain ⟨-, -, c1, c2, c3, c4⟩ := b2 p hpk
    exact x_beside (d := d + 1) hs (by omega) h1 h2 h3 h4 c1 c2 c3 c4 t4 t5
  have hrs : ∀ p, sgn l (gx - st.2.2.1 p) (gy - st.2.2.2 p) = -1 ∨ sgn l (gx - st.2.2.1 p) (gy - st.2.2.2 p) = 0 ∨ sgn l (gx - st.2.2.1 p) (gy - st.2.2.2 p) = 1 := fun p => sg_range _ _ _
  have find : ∀ (j p : Nat), p + j = st.1 → b_X0_addGap_1 sc (d + 4) 9 (iO gx) (iO gy) (iO (p : Int)) (hp XI XA XP (.ref (sp + 51)) MI MA ML D) = b_X0_addGap_2 sc (d + 4) 9 (iO gx) (iO gy) (iO ((gfnd (fun t => sgn l (gx - st.2.2.1 t) (gy - st.2.2.2 t)) j p : Nat) : Int)) (hp XI XA XP (.ref (sp + 51)) MI MA ML D) := by
    intro j
    induction j with
    | zero =>
      intro p hpk
      rw [eb_X0_addGap_1, gfnd]
      clear g2 b2 hbs hrs
      simp (disch := (first | assumption | (unfold i32; omega) | (unfold i64; omega) | omega)) only [↓reduceIte, ki_0, ki_1, ki_2, ki_3, ki_4, ki_5, ki_6, ki_7, ki_8, ki_9, ki_10, ki_11, ki_12, ki_13, ki_14, ki_15, ki_20, ki_21, ki_30, ki_31, ki_40, ki_41, ki_50, ki_51, ki_60, ki_63, ki_64, ki_65, ki_100, ki_158, ki_160, ki_200, ki_212, ki_1000, ki_2000, ki_2001, ki_5000, ki_10000, ki_10001, ki_100000, ki_200000, ki_1000000, ki_2000000, ki_3000000, iO_neg, iO_add, iO_sub, iO_mul, kn_4, kn_8, kn_10, kn_20, kn_24, kn_40, kn_41, kn_50, kn_60, kn_158, kn_160, kn_200, kn_212, kn_2001, tn_lt, fn_lt, tn_le, fn_le, tn_eq, fn_eq, x_lt, x_le, x_eq, x_ix, x_nat, t_lt, f_lt, t_le, f_le, t_eq, f_eq, eq_self, and_self, true_and, and_true, false_and, and_false, if_true, if_false, Int.toNat_natCast, bI_s, bL_s, bA_s, bA_n, bV_s, mq_s, mq_n, en_le, bl_0, bl_1, u_eq, u_ne, w_eq, w_ne, v_eq, v_ne, ↓hp_cc_9, ↓hp_g_9_0, ↓hp_g_9_1, ↓hp_g_9_2, ↓hp_g_9_3, ↓hp_g_9_4, ↓hp_p_9_4, ↓hp_g_9_5, ↓hp_g_9_6, ↓hp_p_9_7, ↓hp_g_9_7, ↓hp_a_10, ↓hp_s_10, ↓hp_l_10, ↓hp_a_11, ↓hp_s_11, ↓hp_l_11, ↓hp_a_12, ↓hp_s_12, ↓hp_l_12, ↓hp_a_13, ↓hp_s_13, ↓hp_l_13, ↓hp_a_14, ↓hp_s_14, ↓hp_l_14, ↓hp_a_15, ↓hp_s_15, ↓hp_l_15, g1]
    | succ j ih =>
      intro p hpk
      have hb := hbs p (by omega)
      have hr := hrs p
      have ih' := ih (p + 1) (by omega)
      rw [eb_X0_addGap_1, gfnd]
      show _ = b_X0_addGap_2 sc (d + 4) 9 (iO gx) (iO gy) (iO ((if sgn l (gx - st.2.2.1 p) (gy - st.2.2.2 p) < 0 then gfnd (fun t => sgn l (gx - st.2.2.1 t) (gy - st.2.2.2 t)) j (p + 1) else p : Nat) : Int)) _
      generalize sgn l (gx - st.2.2.1 p) (gy - st.2.2.2 p) = s at *
      by_cases c : s < 0
      · rw [if_pos c, ← ih']
        clear g2 b2 hbs hrs ih ih'
        simp (disch := (first | assumption | (unfold i32; omega) | (unfold i64; omega) | omega)) only [↓reduceIte, ki_0, ki_1, ki_2, ki_3, ki_4, ki_5, ki_6, ki_7, ki_8, ki_9, ki_10, ki_11, ki_12, ki_13, ki_14, ki_15, ki_20, ki_21, ki_30, ki_31, ki_40, ki_41, ki_50, ki_51, ki_60, ki_63, ki_64, ki_65, ki_100, ki_158, ki_160, ki_200, ki_212, ki_1000, ki_2000, ki_2001, ki_5000, ki_10000, ki_10001, ki_100000, ki_200000, ki_1000000, ki_2000000, ki_3000000, iO_neg, iO_add, iO_sub, iO_mul, kn_4, kn_8, kn_10, kn_20, kn_24, kn_40, kn_41, kn_50, kn_60, kn_158, kn_160, kn_200, kn_212, kn_2001, tn_lt, fn_lt, tn_le, fn_le, tn_eq, fn_eq, x_lt, x_le, x_eq, x_ix, x_nat, t_lt, f_lt, t_le, f_le, t_eq, f_eq, eq_self, and_self, true_and, and_true, false_and, and_false, if_true, if_false, Int.toNat_natCast, bI_s, bL_s, bA_s, bA_n, bV_s, mq_s, mq_n, en_le, bl_0, bl_1, u_eq, u_ne, w_eq, w_ne, v_eq, v_ne, ↓hp_cc_9, ↓hp_g_9_0, ↓hp_g_9_1, ↓hp_g_9_2, ↓hp_g_9_3, ↓hp_g_9_4, ↓hp_p_9_4, ↓hp_g_9_5, ↓hp_g_9_6, ↓hp_p_9_7, ↓hp_g_9_7, ↓hp_a_10, ↓hp_s_10, ↓hp_l_10, ↓hp_a_11, ↓hp_s_11, ↓hp_l_11, ↓hp_a_12, ↓hp_s_12, ↓hp_l_12, ↓hp_a_13, ↓hp_s_13, ↓hp_l_13, ↓hp_a_14, ↓hp_s_14, ↓hp_l_14, ↓hp_a_15, ↓hp_s_15, ↓hp_l_15, g1, hb]
        try rfl
      · rw [if_neg c]
        have c : 0 ≤ s := by omega
        clear g2 b2 hbs hrs ih ih'
        simp (disch := (first | assumption | (unfold i32; omega) | (unfold i64; omega) | omega)) only [↓reduceIte, ki_0, ki_1, ki_2, ki_3, ki_4, ki_5, ki_6, ki_7, ki_8, ki_9, ki_10, ki_11, ki_12, ki_13, ki_14, ki_15, ki_20, ki_21, ki_30, ki_31, ki_40, ki_41, ki_50, ki_51, ki_60, ki_63, ki_64, ki_65, ki_100, ki_158, ki_160, ki_200, ki_212, ki_1000, ki_2000, ki_2001, ki_5000, ki_10000, ki_10001, ki_100000, ki_200000, ki_1000000, ki_2000000, ki_3000000, iO_neg, iO_add, iO_sub, iO_mul, kn_4, kn_8, kn_10, kn_20, kn_24, kn_40, kn_41, kn_50, kn_60, kn_158, kn_160, kn_200, kn_212, kn_2001, tn_lt, fn_lt, tn_le, fn_le, tn_eq, fn_eq, x_lt, x_le, x_eq, x_ix, x_nat, t_lt, f_lt, t_le, f_le, t_eq, f_eq, eq_self, and_self, true_and, and_true, false_and, and_false, if_true, if_false, Int.toNat_natCast, bI_s, bL_s, bA_s, bA_n, bV_s, mq_s, mq_n, en_le, bl_0, bl_1, u_eq, u_ne, w_eq, w_ne, v_eq, v_ne, ↓hp_cc_9, ↓hp_g_9_0, ↓hp_g_9_1, ↓hp_g_9_2, ↓hp_g_9_3, ↓hp_g_9_4, ↓hp_p_9_4, ↓hp_g_9_5, ↓hp_g_9_6, ↓hp_p_9_7, ↓hp_g_9_7, ↓hp_a_10, ↓hp_s_10, ↓hp_l_10, ↓hp_a_11, ↓hp_s_11, ↓hp_l_11, ↓hp_a_12, ↓hp_s_12, ↓hp_l_12, ↓hp_a_13, ↓hp_s_13, ↓hp_l_13, ↓hp_a_14, ↓hp_s_14, ↓hp_l_14, ↓hp_a_15, ↓hp_s_15, ↓hp_l_15, g1, hb]
  have hf := find st.1 0 (by omega)
  have hf : b_X0_addGap_1 sc (d + 4) 9 (iO gx) (iO gy) 0 (hp XI XA XP (.ref (sp + 51)) MI MA ML D) = b_X0_addGap_2 sc (d + 4) 9 (iO gx) (iO gy) (iO ((gpl l gx gy st : Nat) : Int)) (hp XI XA XP (.ref (sp + 51)) MI MA ML D) := hf
  have hpl : gpl l gx gy st ≤ st.1 := by
    have := gfnd_bd (s := fun t => sgn l (gx - st.2.2.1 t) (gy - st.2.2.2 t)) st.1 0
    unfold gpl
    omega
  rw [e_X0_addGap, hf]
  unfold gadd
  generalize gpl l gx gy st = p at *
  -- a new sort
  have new : ∃ XI' XA', b_X0_addGap_3 sc (d + 4) 9 (iO gx) (iO gy) (iO (p : Int)) (hp XI XA XP (.ref (sp + 51)) MI MA ML D) = some (none, hp XI' XA' XP (.ref (sp + 51)) MI MA ML D) ∧ GX (st.1 + 1, va_up (shf p st.1 st.2.1) p 1, va_up (shf p st.1 st.2.2.1) p gx, va_up (shf p st.1 st.2.2.2) p gy) XI' XA' ∧ (∀ s, s ≠ 14 → XI' s = XI s) ∧ (∀ m, m ≠ 3 → m ≠ 4 → m ≠ 5 → XA' m = XA m) := by
    obtain ⟨XI', XA', f1, f2⟩ := x_insert (sc := sc) (d := d + 3) (XP := XP) (MI := MI) (MA := MA) (ML := ML) (D := D) (sp := sp) (gx := gx) (gy := gy) (st := st) (p := p) hpl (by omega) (st.1 - p) st.1 XI XA (by omega) (Nat.le_refl _) g1 (fun t ht => ⟨fun h => by omega, fun h => g2 t h⟩)
    refine ⟨XI', XA', ?_, f2⟩
    have f1' : f_X0_insertSort sc (d + 4) 9 (iO (p : Int)) (iO gx) (iO gy) (hp XI XA XP (.ref (sp + 51)) MI MA ML D) = some (none, hp XI' XA' XP (.ref (sp + 51)) MI MA ML D) := by
      rw [e_X0_insertSort, hp_g_9_4, g1]
      exact f1
    rw [eb_X0_addGap_3]
    clear g2 b2 hbs hrs find hf f1 f2
    simp (disch := (first | assumption | (unfold i32; omega) | (unfold i64; omega) | omega)) only [↓reduceIte, ki_0, ki_1, ki_2, ki_3, ki_4, ki_5, ki_6, ki_7, ki_8, ki_9, ki_10, ki_11, ki_12, ki_13, ki_14, ki_15, ki_20, ki_21, ki_30, ki_31, ki_40, ki_41, ki_50, ki_51, ki_60, ki_63, ki_64, ki_65, ki_100, ki_158, ki_160, ki_200, ki_212, ki_1000, ki_2000, ki_2001, ki_5000, ki_10000, ki_10001, ki_100000, ki_200000, ki_1000000, ki_2000000, ki_3000000, iO_neg, iO_add, iO_sub, iO_mul, kn_4, kn_8, kn_10, kn_20, kn_24, kn_40, kn_41, kn_50, kn_60, kn_158, kn_160, kn_200, kn_212, kn_2001, tn_lt, fn_lt, tn_le, fn_le, tn_eq, fn_eq, x_lt, x_le, x_eq, x_ix, x_nat, t_lt, f_lt, t_le, f_le, t_eq, f_eq, eq_self, and_self, true_and, and_true, false_and, and_false, if_true, if_false, Int.toNat_natCast, bI_s, bL_s, bA_s, bA_n, bV_s, mq_s, mq_n, en_le, bl_0, bl_1, u_eq, u_ne, w_eq, w_ne, v_eq, v_ne, ↓hp_cc_9, ↓hp_g_9_0, ↓hp_g_9_1, ↓hp_g_9_2, ↓hp_g_9_3, ↓hp_g_9_4, ↓hp_p_9_4, ↓hp_g_9_5, ↓hp_g_9_6, ↓hp_p_9_7, ↓hp_g_9_7, ↓hp_a_10, ↓hp_s_10, ↓hp_l_10, ↓hp_a_11, ↓hp_s_11, ↓hp_l_11, ↓hp_a_12, ↓hp_s_12, ↓hp_l_12, ↓hp_a_13, ↓hp_s_13, ↓hp_l_13, ↓hp_a_14, ↓hp_s_14, ↓hp_l_14, ↓hp_a_15, ↓hp_s_15, ↓hp_l_15, g1, f1']
  by_cases c1 : p < st.1
  · have hb := hbs p c1
    have hr := hrs p
    by_cases c2 : sgn l (gx - st.2.2.1 p) (gy - st.2.2.2 p) = 0
    · rw [if_pos ⟨c1, c2⟩]
      obtain ⟨t3, t4, t5⟩ := g2 p c1
      refine ⟨XI, va_up XA 3 (upd (XA 3) p (iO (st.2.1 p + 1))), ?_, ⟨g1, ?_⟩, fun _ _ => rfl, fun m h3 _ _ => w_ne h3⟩
      · rw [eb_X0_addGap_2]
        rw [c2] at hb
        clear g2 b2 hbs hrs find hf new hr
        simp (disch := (first | assumption | (unfold i32; omega) | (unfold i64; omega) | omega)) only [↓reduceIte, ki_0, ki_1, ki_2, ki_3, ki_4, ki_5, ki_6, ki_7, ki_8, ki_9, ki_10, ki_11, ki_12, ki_13, ki_14, ki_15, ki_20, ki_21, ki_30, ki_31, ki_40, ki_41, ki_50, ki_51, ki_60, ki_63, ki_64, ki_65, ki_100, ki_158, ki_160, ki_200, ki_212, ki_1000, ki_2000, ki_2001, ki_5000, ki_10000, ki_10001, ki_100000, ki_200000, ki_1000000, ki_2000000, ki_3000000, iO_neg, iO_add, iO_sub, iO_mul, kn_4, kn_8, kn_10, kn_20, kn_24, kn_40, kn_41, kn_50, kn_60, kn_158, kn_160, kn_200, kn_212, kn_2001, tn_lt, fn_lt, tn_le, fn_le, tn_eq, fn_eq, x_lt, x_le, x_eq, x_ix, x_nat, t_lt, f_lt, t_le, f_le, t_eq, f_eq, eq_self, and_self, true_and, and_true, false_and, and_false, if_true, if_false, Int.toNat_natCast, bI_s, bL_s, bA_s, bA_n, bV_s, mq_s, mq_n, en_le, bl_0, bl_1, u_eq, u_ne, w_eq, w_ne, v_eq, v_ne, ↓hp_cc_9, ↓hp_g_9_0, ↓hp_g_9_1, ↓hp_g_9_2, ↓hp_g_9_3, ↓hp_g_9_4, ↓hp_p_9_4, ↓hp_g_9_5, ↓hp_g_9_6, ↓hp_p_9_7, ↓hp_g_9_7, ↓hp_a_10, ↓hp_s_10, ↓hp_l_10, ↓hp_a_11, ↓hp_s_11, ↓hp_l_11, ↓hp_a_12, ↓hp_s_12, ↓hp_l_12, ↓hp_a_13, ↓hp_s_13, ↓hp_l_13, ↓hp_a_14, ↓hp_s_14, ↓hp_l_14, ↓hp_a_15, ↓hp_s_15, ↓hp_l_15, g1, hb, t3]
      · intro t ht
        have ht : t < st.1 := ht
        obtain ⟨r3, r4, r5⟩ := g2 t ht
        refine ⟨?_, r4, r5⟩
        show upd (XA 3) p (iO (st.2.1 p + 1)) t = iO (va_up st.2.1 p (st.2.1 p + 1) t)
        by_cases e : t = p
        · rw [u_eq e, w_eq e]
        · rw [u_ne e, w_ne e]; exact r3
    · rw [if_neg (fun q => c2 q.2)]
      obtain ⟨XI', XA', f1, f2⟩ := new
      refine ⟨XI', XA', ?_, f2⟩
      rw [← f1, eb_X0_addGap_2]
      generalize sgn l (gx - st.2.2.1 p) (gy - st.2.2.2 p) = s at *
      clear g2 b2 hbs hrs find hf f1 f2
      have : i32 s := by unfold i32; omega
      clear hr
      simp (disch := (first | assumption | (unfold i32; omega) | (unfold i64; omega) | omega)) only [↓reduceIte, ki_0, ki_1, ki_2, ki_3, ki_4, ki_5, ki_6, ki_7, ki_8, ki_9, ki_10, ki_11, ki_12, ki_13, ki_14, ki_15, ki_20, ki_21, ki_30, ki_31, ki_40, ki_41, ki_50, ki_51, ki_60, ki_63, ki_64, ki_65, ki_100, ki_158, ki_160, ki_200, ki_212, ki_1000, ki_2000, ki_2001, ki_5000, ki_10000, ki_10001, ki_100000, ki_200000, ki_1000000, ki_2000000, ki_3000000, iO_neg, iO_add, iO_sub, iO_mul, kn_4, kn_8, kn_10, kn_20, kn_24, kn_40, kn_41, kn_50, kn_60, kn_158, kn_160, kn_200, kn_212, kn_2001, tn_lt, fn_lt, tn_le, fn_le, tn_eq, fn_eq, x_lt, x_le, x_eq, x_ix, x_nat, t_lt, f_lt, t_le, f_le, t_eq, f_eq, eq_self, and_self, true_and, and_true, false_and, and_false, if_true, if_false, Int.toNat_natCast, bI_s, bL_s, bA_s, bA_n, bV_s, mq_s, mq_n, en_le, bl_0, bl_1, u_eq, u_ne, w_eq, w_ne, v_eq, v_ne, ↓hp_cc_9, ↓hp_g_9_0, ↓hp_g_9_1, ↓hp_g_9_2, ↓hp_g_9_3, ↓hp_g_9_4, ↓hp_p_9_4, ↓hp_g_9_5, ↓hp_g_9_6, ↓hp_p_9_7, ↓hp_g_9_7, ↓hp_a_10, ↓hp_s_10, ↓hp_l_10, ↓hp_a_11, ↓hp_s_11, ↓hp_l_11, ↓hp_a_12, ↓hp_s_12, ↓hp_l_12, ↓hp_a_13, ↓hp_s_13, ↓hp_l_13, ↓hp_a_14, ↓hp_s_14, ↓hp_l_14, ↓hp_a_15, ↓hp_s_15, ↓hp_l_15, g1, hb]
  · rw [if_neg (fun q => c1 q.1)]
    obtain ⟨XI', XA', f1, f2⟩ := new
    refine ⟨XI', XA', ?_, f2⟩
    rw [← f1, eb_X0_addGap_2]
    clear g2 b2 hbs hrs find hf f1 f2
    simp (disch := (first | assumption | (unfold i32; omega) | (unfold i64; omega) | omega)) only [↓reduceIte, ki_0, ki_1, ki_2, ki_3, ki_4, ki_5, ki_6, ki_7, ki_8, ki_9, ki_10, ki_11, ki_12, ki_13, ki_14, ki_15, ki_20, ki_21, ki_30, ki_31, ki_40, ki_41, ki_50, ki_51, ki_60, ki_63, ki_64, ki_65, ki_100, ki_158, ki_160, ki_200, ki_212, ki_1000, ki_2000, ki_2001, ki_5000, ki_10000, ki_10001, ki_100000, ki_200000, ki_1000000, ki_2000000, ki_3000000, iO_neg, iO_add, iO_sub, iO_mul, kn_4, kn_8, kn_10, kn_20, kn_24, kn_40, kn_41, kn_50, kn_60, kn_158, kn_160, kn_200, kn_212, kn_2001, tn_lt, fn_lt, tn_le, fn_le, tn_eq, fn_eq, x_lt, x_le, x_eq, x_ix, x_nat, t_lt, f_lt, t_le, f_le, t_eq, f_eq, eq_self, and_self, true_and, and_true, false_and, and_false, if_true, if_false, Int.toNat_natCast, bI_s, bL_s, bA_s, bA_n, bV_s, mq_s, mq_n, en_le, bl_0, bl_1, u_eq, u_ne, w_eq, w_ne, v_eq, v_ne, ↓hp_cc_9, ↓hp_g_9_0, ↓hp_g_9_1, ↓hp_g_9_2, ↓hp_g_9_3, ↓hp_g_9_4, ↓hp_p_9_4, ↓hp_g_9_5, ↓hp_g_9_6, ↓hp_p_9_7, ↓hp_g_9_7, ↓hp_a_10, ↓hp_s_10, ↓hp_l_10, ↓hp_a_11, ↓hp_s_11, ↓hp_l_11, ↓hp_a_12, ↓hp_s_12, ↓hp_l_12, ↓hp_a_13, ↓hp_s_13, ↓hp_l_13, ↓hp_a_14, ↓hp_s_14, ↓hp_l_14, ↓hp_a_15, ↓hp_s_15, ↓hp_l_15, g1]
theorem x_lay7 (hs : SlO D sp l) (hS : SL l.1 l.2.1 l.2.2.1 l.2.2.2) {n : Nat} (hn : n ≤ 60) (hn1 : 1 ≤ n) : ∀ (j i : Nat) (XI : Nat → Int32) (XA : Nat → Nat → Int32), i + j = n → (∀ t, t < n → XA 7 t = iO (WN l t)) → (∀ a, a < n → XA 2 a = iO (nxt (ords l n) n a : Int)) → GX (gst l (gxf l n) (gyf l n) i) XI XA →
    ∃ XI' XA', b_X0_lay_7 sc (d + 5) 9 (iO (n : Int)) (iO (ords l n (n - 1) : Int)) (iO (i : Int)) (hp XI XA XP (.ref (sp + 51)) MI MA ML D) = some (none, hp XI' XA' XP (.ref (sp + 51)) MI MA ML D) ∧ GX (gsts l n) XI' XA' ∧ (∀ s, s ≠ 14 → XI' s = XI s) ∧ (∀ m, m ≠ 3 → m ≠ 4 → m ≠ 5 → XA' m = XA m) := by
  have hpm : perm (ords l n) n := ordr_perm (ah := ahd l) n
  intro j
  induction j with
  | zero =>
    intro i XI XA hi h7 h2 hG
    obtain rfl : i = n := by omega
    refine ⟨XI, XA, ?_, hG, fun _ _ => rfl, fun _ _ _ _ => rfl⟩
    rw [eb_X0_lay_7]
    clear h7 h2 hG hpm
    simp (disch := (first | assumption | (unfold i32; omega) | (unfold i64; omega) | omega)) only [↓reduceIte, ki_0, ki_1, ki_2, ki_3, ki_4, ki_5, ki_6, ki_7, ki_8, ki_9, ki_10, ki_11, ki_12, ki_13, ki_14, ki_15, ki_20, ki_21, ki_30, ki_31, ki_40, ki_41, ki_50, ki_51, ki_60, ki_63, ki_64, ki_65, ki_100, ki_158, ki_160, ki_200, ki_212, ki_1000, ki_2000, ki_2001, ki_5000, ki_10000, ki_10001, ki_100000, ki_200000, ki_1000000, ki_2000000, ki_3000000, iO_neg, iO_add, iO_sub, iO_mul, kn_4, kn_8, kn_10, kn_20, kn_24, kn_40, kn_41, kn_50, kn_60, kn_158, kn_160, kn_200, kn_212, kn_2001, tn_lt, fn_lt, tn_le, fn_le, tn_eq, fn_eq, x_lt, x_le, x_eq, x_ix, x_nat, t_lt, f_lt, t_le, f_le, t_eq, f_eq, eq_self, and_self, true_and, and_true, false_and, and_false, if_true, if_false, Int.toNat_natCast, bI_s, bL_s, bA_s, bA_n, bV_s, mq_s, mq_n, en_le, bl_0, bl_1, u_eq, u_ne, w_eq, w_ne, v_eq, v_ne]
  | succ j ih =>
    intro i XI XA hi h7 h2 hG
    obtain ⟨c1, c2, c3, c4, c5⟩ := gf_bd hS hn (a := i) (by omega)
    have hB := gst_bd (l := l) (gx := gxf l n) (gy := gyf l n) (n := n) (fun i hi => by obtain ⟨q1, q2, q3, q4, -⟩ := gf_bd hS hn hi; exact ⟨q1, q2, q3, q4⟩) i (by omega)
    obtain ⟨XI1, XA1, f1, f2, f3, f4⟩ := x_addGap (sc := sc) (d := d) (XP := XP) (MI := MI) (MA := MA) (ML := ML) hs c1 c2 c3 c4 hB (by omega) hG
    obtain ⟨XI', XA', k1, k2, k3, k4⟩ := ih (i + 1) XI1 XA1 (by omega) (fun t ht => by rw [f4 7 (by decide) (by decide) (by decide)]; exact h7 t ht) (fun t ht => by rw [f4 2 (by decide) (by decide) (by decide)]; exact h2 t ht) f2
    refine ⟨XI', XA', ?_, k2, fun s hs => by rw [k3 s hs, f3 s hs], fun m h3 h4 h5 => by rw [k4 m h3 h4 h5, f4 m h3 h4 h5]⟩
    have t7 := h7 i (by omega)
    have t7b := h7 (nxt (ords l n) n i) c5
    have t2 := h2 i (by omega)
    obtain ⟨q1, q2⟩ := inv_at (o := ords l n) (a := i) n (hpm.2.2 i (by omega))
    have hlast : (i = ords l n (n - 1)) ↔ inv (ords l n) i n + 1 = n := by
      constructor
      · intro e
        have := inv_of hpm (t := n - 1) (by omega)
        rw [← e] at this
        omega
      · intro e
        rw [← q2]
        congr 1
        omega
    have b1 := WN_bd hS (N := i) (by omega)
    have b2 := WN_bd hS (N := nxt (ords l n) n i) (by omega)
    have b3 := hpm.1 (n - 1) (by omega)
    rw [← k1, eb_X0_lay_7]
    have eX : gxf l n i = WN l i - WN l (nxt (ords l n) n i) + (if inv (ords l n) i n + 1 = n then 1 else 0) := rfl
    have eY : gyf l n i = (nxt (ords l n) n i : Int) - (i : Int) := rfl
    by_cases g : inv (ords l n) i n + 1 = n
    · rw [if_pos g] at eX
      have e0 := hlast.mpr g
      rw [eX, eY] at f1
      generalize WN l (nxt (ords l n) n i) = Q at *
      generalize nxt (ords l n) n i = N at *
      generalize ords l n (n - 1) = LL at *
      generalize WN l i = P at *
      clear k1 k2 k3 k4 f2 f3 f4 ih h7 h2 hG hB hpm hlast q1 q2 g eX eY c1 c2 c3 c4
      simp (disch := (first | assumption | (unfold i32; omega) | (unfold i64; omega) | omega)) only [↓reduceIte, ki_0, ki_1, ki_2, ki_3, ki_4, ki_5, ki_6, ki_7, ki_8, ki_9, ki_10, ki_11, ki_12, ki_13, ki_14, ki_15, ki_20, ki_21, ki_30, ki_31, ki_40, ki_41, ki_50, ki_51, ki_60, ki_63, ki_64, ki_65, ki_100, ki_158, ki_160, ki_200, ki_212, ki_1000, ki_2000, ki_2001, ki_5000, ki_10000, ki_10001, ki_100000, ki_200000, ki_1000000, ki_2000000, ki_3000000, iO_neg, iO_add, iO_sub, iO_mul, kn_4, kn_8, kn_10, kn_20, kn_24, kn_40, kn_41, kn_50, kn_60, kn_158, kn_160, kn_200, kn_212, kn_2001, tn_lt, fn_lt, tn_le, fn_le, tn_eq, fn_eq, x_lt, x_le, x_eq, x_ix, x_nat, t_lt, f_lt, t_le, f_le, t_eq, f_eq, eq_self, and_self, true_and, and_true, false_and, and_false, if_true, if_false, Int.toNat_natCast, bI_s, bL_s, bA_s, bA_n, bV_s, mq_s, mq_n, en_le, bl_0, bl_1, u_eq, u_ne, w_eq, w_ne, v_eq, v_ne, ↓hp_cc_9, ↓hp_g_9_0, ↓hp_g_9_1, ↓hp_g_9_2, ↓hp_g_9_3, ↓hp_g_9_4, ↓hp_p_9_4, ↓hp_g_9_5, ↓hp_g_9_6, ↓hp_p_9_7, ↓hp_g_9_7, ↓hp_a_10, ↓hp_s_10, ↓hp_l_10, ↓hp_a_11, ↓hp_s_11, ↓hp_l_11, ↓hp_a_12, ↓hp_s_12, ↓hp_l_12, ↓hp_a_13, ↓hp_s_13, ↓hp_l_13, ↓hp_a_14, ↓hp_s_14, ↓hp_l_14, ↓hp_a_15, ↓hp_s_15, ↓hp_l_15, t7, t2, t7b, eb_X0_lay_9, f1]
      try rfl
    · rw [if_neg g] at eX
      have e0 : i ≠ ords l n (n - 1) := fun q => g (hlast.mp q)
      rw [eX, eY] at f1
      generalize WN l (nxt (ords l n) n i) = Q at *
      generalize nxt (ords l n) n i = N at *
      generalize ords l n (n - 1) = LL at *
      generalize WN l i = P at *
      clear k1 k2 k3 k4 f2 f3 f4 ih h7 h2 hG hB hpm hlast q1 q2 g eX eY c1 c2 c3 c4
      simp (disch := (first | assumption | (unfold i32; omega) | (unfold i64; omega) | omega)) only [↓reduceIte, ki_0, ki_1, ki_2, ki_3, ki_4, ki_5, ki_6, ki_7, ki_8, ki_9, ki_10, ki_11, ki_12, ki_13, ki_14, ki_15, ki_20, ki_21, ki_30, ki_31, ki_40, ki_41, ki_50, ki_51, ki_60, ki_63, ki_64, ki_65, ki_100, ki_158, ki_160, ki_200, ki_212, ki_1000, ki_2000, ki_2001, ki_5000, ki_10000, ki_10001, ki_100000, ki_200000, ki_1000000, ki_2000000, ki_3000000, iO_neg, iO_add, iO_sub, iO_mul, kn_4, kn_8, kn_10, kn_20, kn_24, kn_40, kn_41, kn_50, kn_60, kn_158, kn_160, kn_200, kn_212, kn_2001, tn_lt, fn_lt, tn_le, fn_le, tn_eq, fn_eq, x_lt, x_le, x_eq, x_ix, x_nat, t_lt, f_lt, t_le, f_le, t_eq, f_eq, eq_self, and_self, true_and, and_true, false_and, and_false, if_true, if_false, Int.toNat_natCast, bI_s, bL_s, bA_s, bA_n, bV_s, mq_s, mq_n, en_le, bl_0, bl_1, u_eq, u_ne, w_eq, w_ne, v_eq, v_ne, ↓hp_cc_9, ↓hp_g_9_0, ↓hp_g_9_1, ↓hp_g_9_2, ↓hp_g_9_3, ↓hp_g_9_4, ↓hp_p_9_4, ↓hp_g_9_5, ↓hp_g_9_6, ↓hp_p_9_7, ↓hp_g_9_7, ↓hp_a_10, ↓hp_s_10, ↓hp_l_10, ↓hp_a_11, ↓hp_s_11, ↓hp_l_11, ↓hp_a_12, ↓hp_s_12, ↓hp_l_12, ↓hp_a_13, ↓hp_s_13, ↓hp_l_13, ↓hp_a_14, ↓hp_s_14, ↓hp_l_14, ↓hp_a_15, ↓hp_s_15, ↓hp_l_15, t7, t2, t7b, eb_X0_lay_9, f1]
      try rfl
theorem x_lay3 {XI : Nat → Int32} {n : Nat} (hn : n ≤ 60) (hn1 : 1 ≤ n) : ∀ (j i : Nat) (XA : Nat → Nat → Int32), i + j = n → (∀ t, t < n → XA 6 t = iO (ords l n t : Int)) → (∀ t, t < i → XA 2 (ords l n t) = iO (nxo (ords l n) n t : Int)) →
    ∃ XA', b_X0_lay_3 sc d 9 (iO (n : Int)) (iO (i : Int)) (hp XI XA XP (.ref (sp + 51)) MI MA ML D) = b_X0_lay_7 sc d 9 (iO (n : Int)) (iO (ords l n (n - 1) : Int)) (iO 0) (hp (va_up XI 14 (iO 0)) XA' XP (.ref (sp + 51)) MI MA ML D) ∧ (∀ m, m ≠ 2 → XA' m = XA m) ∧ (∀ t, t < n → XA' 2 (ords l n t) = iO (nxo (ords l n) n t : Int)) := by
  have hpm : perm (ords l n) n := ordr_perm (ah := ahd l) n
  intro j
  induction j with
  | zero =>
    intro i XA hi h6 h2
    obtain rfl : i = n := by omega
    have t6 := h6 (i - 1) (by omega)
    have e1 : ((i : Int) - 1).toNat = i - 1 := by omega
    refine ⟨XA, ?_, fun _ _ => rfl, h2⟩
    rw [eb_X0_lay_3]
    clear h6 h2 hpm
    simp (disch := (first | assumption | (unfold i32; omega) | (unfold i64; omega) | omega)) only [↓reduceIte, ki_0, ki_1, ki_2, ki_3, ki_4, ki_5, ki_6, ki_7, ki_8, ki_9, ki_10, ki_11, ki_12, ki_13, ki_14, ki_15, ki_20, ki_21, ki_30, ki_31, ki_40, ki_41, ki_50, ki_51, ki_60, ki_63, ki_64, ki_65, ki_100, ki_158, ki_160, ki_200, ki_212, ki_1000, ki_2000, ki_2001, ki_5000, ki_10000, ki_10001, ki_100000, ki_200000, ki_1000000, ki_2000000, ki_3000000, iO_neg, iO_add, iO_sub, iO_mul, kn_4, kn_8, kn_10, kn_20, kn_24, kn_40, kn_41, kn_50, kn_60, kn_158, kn_160, kn_200, kn_212, kn_2001, tn_lt, fn_lt, tn_le, fn_le, tn_eq, fn_eq, x_lt, x_le, x_eq, x_ix, x_nat, t_lt, f_lt, t_le, f_le, t_eq, f_eq, eq_self, and_self, true_and, and_true, false_and, and_false, if_true, if_false, Int.toNat_natCast, bI_s, bL_s, bA_s, bA_n, bV_s, mq_s, mq_n, en_le, bl_0, bl_1, u_eq, u_ne, w_eq, w_ne, v_eq, v_ne, ↓hp_cc_9, ↓hp_g_9_0, ↓hp_g_9_1, ↓hp_g_9_2, ↓hp_g_9_3, ↓hp_g_9_4, ↓hp_p_9_4, ↓hp_g_9_5, ↓hp_g_9_6, ↓hp_p_9_7, ↓hp_g_9_7, ↓hp_a_10, ↓hp_s_10, ↓hp_l_10, ↓hp_a_11, ↓hp_s_11, ↓hp_l_11, ↓hp_a_12, ↓hp_s_12, ↓hp_l_12, ↓hp_a_13, ↓hp_s_13, ↓hp_l_13, ↓hp_a_14, ↓hp_s_14, ↓hp_l_14, ↓hp_a_15, ↓hp_s_15, ↓hp_l_15, e1, t6]
  | succ j ih =>
    intro i XA hi h6 h2
    have t6 := h6 i (by omega)
    have b1 := hpm.1 i (by omega)
    obtain ⟨XA', f1, f2, f3⟩ := ih (i + 1) (va_up XA 2 (upd (XA 2) (ords l n i) (iO (nxo (ords l n) n i : Int)))) (by omega) h6 (by
      intro t ht
      rw [w_eq rfl]
      by_cases e : t = i
      · rw [e, u_eq rfl]
      · rw [u_ne (fun q => e (hpm.2.1 t i (by omega) (by omega) q))]
        exact h2 t (by omega))
    refine ⟨XA', ?_, fun m hm => by rw [f2 m hm, w_ne hm], f3⟩
    rw [← f1, eb_X0_lay_3]
    unfold nxo
    by_cases c : i + 1 < n
    · have t6b := h6 (i + 1) c
      have e1 : ((i : Int) + 1).toNat = i + 1 := by omega
      rw [if_pos c]
      generalize ords l n (i + 1) = N at *
      generalize ords l n i = O at *
      clear f1 f2 f3 ih h6 h2 hpm
      simp (disch := (first | assumption | (unfold i32; omega) | (unfold i64; omega) | omega)) only [↓reduceIte, ki_0, ki_1, ki_2, ki_3, ki_4, ki_5, ki_6, ki_7, ki_8, ki_9, ki_10, ki_11, ki_12, ki_13, ki_14, ki_15, ki_20, ki_21, ki_30, ki_31, ki_40, ki_41, ki_50, ki_51, ki_60, ki_63, ki_64, ki_65, ki_100, ki_158, ki_160, ki_200, ki_212, ki_1000, ki_2000, ki_2001, ki_5000, ki_10000, ki_10001, ki_100000, ki_200000, ki_1000000, ki_2000000, ki_3000000, iO_neg, iO_add, iO_sub, iO_mul, kn_4, kn_8, kn_10, kn_20, kn_24, kn_40, kn_41, kn_50, kn_60, kn_158, kn_160, kn_200, kn_212, kn_2001, tn_lt, fn_lt, tn_le, fn_le, tn_eq, fn_eq, x_lt, x_le, x_eq, x_ix, x_nat, t_lt, f_lt, t_le, f_le, t_eq, f_eq, eq_self, and_self, true_and, and_true, false_and, and_false, if_true, if_false, Int.toNat_natCast, bI_s, bL_s, bA_s, bA_n, bV_s, mq_s, mq_n, en_le, bl_0, bl_1, u_eq, u_ne, w_eq, w_ne, v_eq, v_ne, ↓hp_cc_9, ↓hp_g_9_0, ↓hp_g_9_1, ↓hp_g_9_2, ↓hp_g_9_3, ↓hp_g_9_4, ↓hp_p_9_4, ↓hp_g_9_5, ↓hp_g_9_6, ↓hp_p_9_7, ↓hp_g_9_7, ↓hp_a_10, ↓hp_s_10, ↓hp_l_10, ↓hp_a_11, ↓hp_s_11, ↓hp_l_11, ↓hp_a_12, ↓hp_s_12, ↓hp_l_12, ↓hp_a_13, ↓hp_s_13, ↓hp_l_13, ↓hp_a_14, ↓hp_s_14, ↓hp_l_14, ↓hp_a_15, ↓hp_s_15, ↓hp_l_15, t6, e1, t6b]
      try rfl
    · have t60 := h6 0 (by omega)
      rw [if_neg c]
      generalize ords l n 0 = N at *
      generalize ords l n i = O at *
      clear f1 f2 f3 ih h6 h2 hpm
      have e0 : (0 : Int).toNat = 0 := rfl
      simp (disch := (first | assumption | (unfold i32; omega) | (unfold i64; omega) | omega)) only [↓reduceIte, ki_0, ki_1, ki_2, ki_3, ki_4, ki_5, ki_6, ki_7, ki_8, ki_9, ki_10, ki_11, ki_12, ki_13, ki_14, ki_15, ki_20, ki_21, ki_30, ki_31, ki_40, ki_41, ki_50, ki_51, ki_60, ki_63, ki_64, ki_65, ki_100, ki_158, ki_160, ki_200, ki_212, ki_1000, ki_2000, ki_2001, ki_5000, ki_10000, ki_10001, ki_100000, ki_200000, ki_1000000, ki_2000000, ki_3000000, iO_neg, iO_add, iO_sub, iO_mul, kn_4, kn_8, kn_10, kn_20, kn_24, kn_40, kn_41, kn_50, kn_60, kn_158, kn_160, kn_200, kn_212, kn_2001, tn_lt, fn_lt, tn_le, fn_le, tn_eq, fn_eq, x_lt, x_le, x_eq, x_ix, x_nat, t_lt, f_lt, t_le, f_le, t_eq, f_eq, eq_self, and_self, true_and, and_true, false_and, and_false, if_true, if_false, Int.toNat_natCast, bI_s, bL_s, bA_s, bA_n, bV_s, mq_s, mq_n, en_le, bl_0, bl_1, u_eq, u_ne, w_eq, w_ne, v_eq, v_ne, ↓hp_cc_9, ↓hp_g_9_0, ↓hp_g_9_1, ↓hp_g_9_2, ↓hp_g_9_3, ↓hp_g_9_4, ↓hp_p_9_4, ↓hp_g_9_5, ↓hp_g_9_6, ↓hp_p_9_7, ↓hp_g_9_7, ↓hp_a_10, ↓hp_s_10, ↓hp_l_10, ↓hp_a_11, ↓hp_s_11, ↓hp_l_11, ↓hp_a_12, ↓hp_s_12, ↓hp_l_12, ↓hp_a_13, ↓hp_s_13, ↓hp_l_13, ↓hp_a_14, ↓hp_s_14, ↓hp_l_14, ↓hp_a_15, ↓hp_s_15, ↓hp_l_15, t6, e0, t60]
      try rfl
/-- the class lays the points -/
theorem x_lay (hs : SlO D sp l) (hS : SL l.1 l.2.1 l.2.2.1 l.2.2.2) {n : Nat} (hn : n ≤ 60) (hn1 : 1 ≤ n) (XI : Nat → Int32) (XA : Nat → Nat → Int32) (XC : Value) : ∃ XI' XA', f_X0_lay sc (d + 6) 9 (sp + 51) (iO (n : Int)) (hp XI XA XP XC MI MA ML D) = some (none, hp XI' XA' XP (.ref (sp + 51)) MI MA ML D) ∧ GX (gsts l n) XI' XA' ∧ (∀ a, a < n → XA' 2 a = iO (nxt (ords l n) n a : Int)) ∧ (∀ s, s ≠ 14 → XI' s = XI s) ∧ (∀ m, m = 0 ∨ m = 1 ∨ 8 ≤ m → XA' m = XA m) := by
  have hpm : perm (ords l n) n := ordr_perm (ah := ahd l) n
  obtain ⟨XA1, f1, f2, f3, f4⟩ := x_lay1 (sc := sc) (d := d + 1) (XI := XI) (XP := XP) (MI := MI) (MA := MA) (ML := ML) hs hS hn n 0 XA (by omega) (fun t ht => by omega) (fun t ht => by omega)
  obtain ⟨XA2, g1, g2, g3⟩ := x_lay3 (sc := sc) (d := d + 5) (XP := XP) (MI := MI) (MA := MA) (ML := ML) (D := D) (sp := sp) (l := l) (XI := XI) hn hn1 n 0 XA1 (by omega) f4 (fun t ht => by omega)
  have hnx : ∀ a, a < n → XA2 2 a = iO (nxt (ords l n) n a : Int) := by
    intro a ha
    obtain ⟨q1, q2⟩ := inv_at (o := ords l n) (a := a) n (hpm.2.2 a ha)
    have := g3 (inv (ords l n) a n) q1
    rw [q2] at this
    exact this
  obtain ⟨XI', XA', k1, k2, k3, k4⟩ := x_lay7 (sc := sc) (d := d) (XP := XP) (MI := MI) (MA := MA) (ML := ML) hs hS hn hn1 n 0 (va_up XI 14 (iO 0)) XA2 (by omega) (fun t ht => by rw [g2 7 (by decide)]; exact f3 t ht) hnx ⟨rfl, fun t ht => by have : t < 0 := ht; omega⟩
  refine ⟨XI', XA', ?_, k2, fun a ha => by rw [k4 2 (by decide) (by decide) (by decide)]; exact hnx a ha, fun s hs => by rw [k3 s hs, w_ne hs], fun m hm => by rw [k4 m (by omega) (by omega) (by omega), g2 m (by omega), f2 m (by omega) (by omega)]⟩
  rw [← k1]
  refine Eq.trans ?_ g1
  refine Eq.trans ?_ f1
  rw [e_X0_lay, hp_p_9_7]
  rfl
end GPX
