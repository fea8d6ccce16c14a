/-! act: the class -/
def TX (tr : List Int) (XI : Nat → Int32) (XA : Nat → Nat → Int32) : Prop := XI 3 = iO (tr.length : Nat) ∧ ∀ (i : Nat) (x : Int), tr[i]? = some x → XA 0 i = iO x
/-- a row's cell: class, number, second step -/
def RX (D : en_H) (p : Nat) (k : Int) (m s : Int32) : Prop := (k = 0 ∨ k = 1 ∨ k = 2 ∨ k = 3 ∨ k = 4) ∧ ∃ fs, en_nt D p = some (.inr (kcl k, fs)) ∧ en_nt fs 0 = some (.int m) ∧ en_nt fs 1 = some (.int s)
def AC (D : en_H) (F : en_H → Option en_R) (v : Int32) (l : List Int) : Prop := ∀ (XI : Nat → Int32) (XA : Nat → Nat → Int32) (XP : Nat → Nat → Option Nat) (XC : Value) (MI : Nat → Int32) (MA : Nat → Nat → Int32) (ML : Nat → Nat → Int64) (tr : List Int), TX tr XI XA → tr.length + l.length ≤ 50 → ∃ XI' XA', F (hp XI XA XP XC MI MA ML D) = some (some (.int v), hp XI' XA' XP XC MI MA ML D) ∧ TX (tr ++ l) XI' XA' ∧ (∀ m, m ≠ 3 → XI' m = XI m) ∧ (∀ m, m ≠ 0 → XA' m = XA m)
section ACC
variable {sc : en_S} {n p : Nat} {k : Int} {m s : Int32} {D : en_H}
theorem ac_ret {v : Int32} {F : en_H → Option en_R} (h : ∀ XI XA XP XC MI MA ML, F (hp XI XA XP XC MI MA ML D) = some (some (.int v), hp XI XA XP XC MI MA ML D)) : AC D F v [] := by
  intro XI XA XP XC MI MA ML tr hT hl
  exact ⟨XI, XA, h XI XA XP XC MI MA ML, by rw [List.append_nil]; exact hT, fun _ _ => rfl, fun _ _ => rfl⟩
theorem ac_bind {F G : en_H → Option en_R} {H : Int32 → en_H → Option en_R} {v w : Int32} {l l2 : List Int} (hF : ∀ XI XA XP XC MI MA ML, F (hp XI XA XP XC MI MA ML D) = en_bI (G (hp XI XA XP XC MI MA ML D)) H) (hG : AC D G v l) (hH : AC D (H v) w l2) : AC D F w (l ++ l2) := by
  intro XI XA XP XC MI MA ML tr hT hl
  rw [List.length_append] at hl
  obtain ⟨XI1, XA1, g1, g3, g4, g5⟩ := hG XI XA XP XC MI MA ML tr hT (by omega)
  obtain ⟨XI2, XA2, h1, h3, h4, h5⟩ := hH XI1 XA1 XP XC MI MA ML (tr ++ l) g3 (by rw [List.length_append]; omega)
  refine ⟨XI2, XA2, ?_, by rw [← List.append_assoc]; exact h3, fun m hm => (h4 m hm).trans (g4 m hm), fun m hm => (h5 m hm).trans (g5 m hm)⟩
  rw [hF XI XA XP XC MI MA ML, g1, bI_s, h1]
theorem ac_map {F G : en_H → Option en_R} {f : Int32 → Int32} {v : Int32} {l : List Int} (hF : ∀ XI XA XP XC MI MA ML, F (hp XI XA XP XC MI MA ML D) = en_bI (G (hp XI XA XP XC MI MA ML D)) (fun x z => some (some (.int (f x)), z))) (hG : AC D G v l) : AC D F (f v) l := by
  have := ac_bind hF hG (ac_ret (fun XI XA XP XC MI MA ML => rfl))
  rwa [List.append_nil] at this
theorem ac_pass {F G : en_H → Option en_R} {v : Int32} {l : List Int} (hF : ∀ XI XA XP XC MI MA ML, F (hp XI XA XP XC MI MA ML D) = en_bI (G (hp XI XA XP XC MI MA ML D)) (fun x z => some (some (.int x), z))) (hG : AC D G v l) : AC D F v l := ac_map (f := fun y => y) hF hG
theorem ac_eq {F G : en_H → Option en_R} {v : Int32} {l : List Int} (hF : ∀ XI XA XP XC MI MA ML, F (hp XI XA XP XC MI MA ML D) = G (hp XI XA XP XC MI MA ML D)) (hG : AC D G v l) : AC D F v l := by
  intro XI XA XP XC MI MA ML tr hT hl
  obtain ⟨XI1, XA1, g1, g2⟩ := hG XI XA XP XC MI MA ML tr hT hl
  exact ⟨XI1, XA1, (hF XI XA XP XC MI MA ML).trans g1, g2⟩
theorem ac_add {F G : en_H → Option en_R} {v : Int32} {b : Int} {l : List Int} (hF : ∀ XI XA XP XC MI MA ML, F (hp XI XA XP XC MI MA ML D) = en_bV (f_X10_add sc (n + 1) 5 (iO b) (hp XI XA XP XC MI MA ML D)) G) (hG : AC D G v l) : AC D F v (b :: l) := by
  intro XI XA XP XC MI MA ML tr hT hl
  obtain ⟨t1, t2⟩ := id hT
  rw [List.length_cons] at hl
  have hran : f_X10_add sc (n + 1) 5 (iO b) (hp XI XA XP XC MI MA ML D) = some (none, hp (va_up XI 3 (iO ((tr.length : Int) + 1))) (va_up XA 0 (upd (XA 0) tr.length (iO b))) XP XC MI MA ML D) := by
    rw [e_X10_add]
    clear hF hG hT t2
    simp (disch := (first | assumption | (unfold i32; omega) | (unfold i64; omega) | omega)) only [ki_0, ki_1, ki_2, ki_3, ki_4, ki_5, ki_6, ki_7, ki_8, ki_9, ki_10, ki_11, ki_12, ki_13, ki_14, ki_15, ki_20, ki_21, ki_30, ki_31, ki_40, ki_41, ki_50, ki_51, ki_60, ki_63, ki_64, ki_65, ki_100, ki_158, ki_160, ki_200, ki_212, ki_1000, ki_2000, ki_2001, ki_5000, ki_10000, ki_10001, ki_100000, ki_200000, ki_1000000, ki_2000000, ki_3000000, iO_neg, iO_add, iO_sub, iO_mul, kn_4, kn_8, kn_10, kn_20, kn_24, kn_40, kn_41, kn_50, kn_60, kn_158, kn_160, kn_200, kn_212, kn_2001, tn_lt, fn_lt, tn_le, fn_le, tn_eq, fn_eq, x_lt, x_le, x_eq, x_ix, x_nat, t_lt, f_lt, t_le, f_le, t_eq, f_eq, eq_self, and_self, true_and, and_true, false_and, and_false, if_true, if_false, Int.toNat_natCast, bI_s, bL_s, bA_s, bA_n, bV_s, mq_s, mq_n, en_le, bl_0, bl_1, u_eq, u_ne, w_eq, w_ne, v_eq, v_ne, hp_cc_5, hp_g_5_0, hp_g_5_1, hp_p_5_1, hp_a_6, hp_s_6, hp_l_6, t1]
  have hT2 : TX (tr ++ [b]) (va_up XI 3 (iO ((tr.length : Int) + 1))) (va_up XA 0 (upd (XA 0) tr.length (iO b))) := by
    refine ⟨?_, ?_⟩
    · show iO ((tr.length : Int) + 1) = iO ((tr ++ [b]).length : Nat)
      rw [List.length_append, List.length_singleton]; rfl
    · intro i x hx
      show upd (XA 0) tr.length (iO b) i = iO x
      rw [List.getElem?_append] at hx
      split at hx
      · rw [u_ne (by omega)]; exact t2 i x hx
      · have hs2 : i = tr.length := by
          have := (List.getElem?_eq_some_iff.mp hx).1
          simp at this
          omega
        subst hs2
        simp at hx
        subst hx
        rw [u_eq rfl]
  obtain ⟨XI2, XA2, h1, h3, h4, h5⟩ := hG _ _ XP XC MI MA ML (tr ++ [b]) hT2 (by rw [List.length_append, List.length_singleton]; omega)
  refine ⟨XI2, XA2, ?_, by rw [List.append_assoc] at h3; exact h3, fun m hm => by rw [h4 m hm, w_ne hm], fun m hm => by rw [h5 m hm, w_ne hm]⟩
  rw [hF XI XA XP XC MI MA ML, hran, bV_s, h1]
theorem rx_fd (h : RX D p k m s) : en_fd [(1, 0), (2, 0), (3, 0), (4, 0), (8, 0)] (kcl k) = some 0 := by
  rcases h.1 with h | h | h | h | h <;> rw [h] <;> rfl
theorem ac_goRow (h : RX D p k m s) (x : Int32) : AC D (fun z => f_X5_doGo sc (n + 2) (p + 51) x 5 z) (x + s) [10] := by
  have hfd := rx_fd h
  obtain ⟨-, fs, h1, h2, h3⟩ := h
  refine ac_add (sc := sc) (n := n) (b := 10) (G := fun z1 => en_gI z1 (p + 51) [(1, 0), (2, 0), (3, 0), (4, 0), (8, 0)] 1 (fun x3 => some (some (.int (x + x3)), z1))) (fun XI XA XP XC MI MA ML => by show f_X5_doGo sc (n + 2) (p + 51) x 5 _ = _; rw [e_X5_doGo, hp_cc_5, if_pos rfl]; rfl) (ac_ret (fun XI XA XP XC MI MA ML => ?_))
  exact d_gI h1 hfd h3 _
theorem ac_growRow (h : RX D p k m s) (x : Int32) : AC D (fun z => f_X5_doGrow sc (n + 2) (p + 51) x 5 z) (x - m) [12] := by
  have hfd := rx_fd h
  obtain ⟨-, fs, h1, h2, h3⟩ := h
  refine ac_add (sc := sc) (n := n) (b := 12) (G := fun z1 => en_gI z1 (p + 51) [(1, 0), (2, 0), (3, 0), (4, 0), (8, 0)] 0 (fun x3 => some (some (.int (x - x3)), z1))) (fun XI XA XP XC MI MA ML => by show f_X5_doGrow sc (n + 2) (p + 51) x 5 _ = _; rw [e_X5_doGrow, hp_cc_5, if_pos rfl]; rfl) (ac_ret (fun XI XA XP XC MI MA ML => ?_))
  exact d_gI h1 hfd h2 _
theorem ac_goEven (h : RX D p k m s) (hk : k = 1 ∨ k = 2 ∨ k = 4) (x : Int32) : AC D (fun z => f_X2_doGo sc (n + 3) (p + 51) x 5 z) ((x + s) * iO 2) [20, 10] := by
  refine ac_add (sc := sc) (n := n + 1) (b := 20) (G := fun z1 => en_vt z1 (p + 51) [(2, 30), (3, 30), (4, 30)] (fun i4 => en_bI (en_cl sc en_mt (n + 2) i4 [.ref (p + 51), .int x, .ref 5] z1) (fun x5 z3 => some (some (.int (x5 * iO 2)), z3)))) (fun XI XA XP XC MI MA ML => by show f_X2_doGo sc (n + 3) (p + 51) x 5 _ = _; rw [e_X2_doGo, hp_cc_5, if_pos rfl]; rfl) (ac_map (f := fun y => y * iO 2) (fun XI XA XP XC MI MA ML => ?_) (ac_goRow (sc := sc) (n := n) h x))
  obtain ⟨-, fs, h1, h2, h3⟩ := h
  rw [d_vt h1]
  rcases hk with h | h | h <;> rw [h] <;> rfl
theorem ac_growEven (h : RX D p k m s) (hk : k = 1 ∨ k = 2 ∨ k = 4) (x : Int32) : AC D (fun z => f_X2_doGrow sc (n + 3) (p + 51) x 5 z) (x - m + iO 7) [21, 12] := by
  refine ac_add (sc := sc) (n := n + 1) (b := 21) (G := fun z1 => en_vt z1 (p + 51) [(2, 32), (3, 32), (4, 32)] (fun i4 => en_bI (en_cl sc en_mt (n + 2) i4 [.ref (p + 51), .int x, .ref 5] z1) (fun x5 z3 => some (some (.int (x5 + iO 7)), z3)))) (fun XI XA XP XC MI MA ML => by show f_X2_doGrow sc (n + 3) (p + 51) x 5 _ = _; rw [e_X2_doGrow, hp_cc_5, if_pos rfl]; rfl) (ac_map (f := fun y => y + iO 7) (fun XI XA XP XC MI MA ML => ?_) (ac_growRow (sc := sc) (n := n) h x))
  obtain ⟨-, fs, h1, h2, h3⟩ := h
  rw [d_vt h1]
  rcases hk with h | h | h <;> rw [h] <;> rfl
theorem rx_cc {ρ : Type} (h : RX D p k m s) {XI : Nat → Int32} {XA : Nat → Nat → Int32} {XP : Nat → Nat → Option Nat} {XC : Value} {MI : Nat → Int32} {MA : Nat → Nat → Int32} {ML : Nat → Nat → Int64} (g : Nat → Option ρ) : en_cc (hp XI XA XP XC MI MA ML D) (p + 51) g = g (kcl k) := by
  obtain ⟨-, fs, h1, -⟩ := h
  exact d_cc h1 g
theorem ac_goCut (h : RX D p 3 m s) (x : Int32) : AC D (fun z => f_X1_doGo sc (n + 3) (p + 51) x 5 z) (x - s + s) [40, 10] := by
  have h' := h
  obtain ⟨-, fs, h1, h2, h3⟩ := h'
  refine ac_add (sc := sc) (n := n + 1) (b := 40) (G := fun z1 => en_gI z1 (p + 51) [(1, 0)] 1 (fun x3 => en_cc z1 (p + 51) (fun c5 => if 1 = c5 then en_bI (f_X5_doGo sc (n + 2) (p + 51) (x - x3) 5 z1) (fun x6 z4 => some (some (.int x6), z4)) else none))) (fun XI XA XP XC MI MA ML => by show f_X1_doGo sc (n + 3) (p + 51) x 5 _ = _; rw [e_X1_doGo, hp_cc_5, if_pos rfl]; rfl) (ac_pass (fun XI XA XP XC MI MA ML => ?_) (ac_goRow (sc := sc) (n := n) h (x - s)))
  rw [d_gI h1 (x := 0) rfl h3, rx_cc h]
  exact if_pos rfl
theorem ac_go (h : RX D p k m s) (x : Int32) : AC D (fun z => en_vt z (p + 51) [(1, 13), (2, 19), (3, 19), (4, 19), (8, 30)] (fun i => en_cl sc en_mt (n + 3) i [.ref (p + 51), .int x, .ref 5] z)) (a_go k s x).1 (a_go k s x).2 := by
  have h' := h
  obtain ⟨hk, fs, h1, h2, h3⟩ := h'
  unfold a_go
  rcases hk with g | g | g | g | g
  · subst g
    rw [if_pos rfl]
    exact ac_eq (G := fun z => f_X5_doGo sc (n + 3) (p + 51) x 5 z) (fun XI XA XP XC MI MA ML => by rw [d_vt h1]; rfl) (ac_goRow (sc := sc) (n := n + 1) h x)
  · subst g
    rw [if_neg (by decide), if_neg (by decide)]
    exact ac_eq (G := fun z => f_X2_doGo sc (n + 3) (p + 51) x 5 z) (fun XI XA XP XC MI MA ML => by rw [d_vt h1]; rfl) (ac_goEven (sc := sc) (n := n) h (by omega) x)
  · subst g
    rw [if_neg (by decide), if_neg (by decide)]
    exact ac_eq (G := fun z => f_X2_doGo sc (n + 3) (p + 51) x 5 z) (fun XI XA XP XC MI MA ML => by rw [d_vt h1]; rfl) (ac_goEven (sc := sc) (n := n) h (by omega) x)
  · subst g
    rw [if_neg (by decide), if_pos rfl]
    exact ac_eq (G := fun z => f_X1_doGo sc (n + 3) (p + 51) x 5 z) (fun XI XA XP XC MI MA ML => by rw [d_vt h1]; rfl) (ac_goCut (sc := sc) (n := n) h x)
  · subst g
    rw [if_neg (by decide), if_neg (by decide)]
    exact ac_eq (G := fun z => f_X2_doGo sc (n + 3) (p + 51) x 5 z) (fun XI XA XP XC MI MA ML => by rw [d_vt h1]; rfl) (ac_goEven (sc := sc) (n := n) h (by omega) x)
theorem ac_gapRow (h : RX D p k m s) (x : Int32) : AC D (fun z => f_X5_doGap sc (n + 4) (p + 51) x 5 z) (a_gapR k s x).1 (a_gapR k s x).2 := by
  refine ac_add (sc := sc) (n := n + 2) (b := 11) (G := fun z1 => en_vt z1 (p + 51) [(1, 13), (2, 19), (3, 19), (4, 19), (8, 30)] (fun i4 => en_bI (en_cl sc en_mt (n + 3) i4 [.ref (p + 51), .int x, .ref 5] z1) (fun x5 z3 => some (some (.int (x5 * iO 3)), z3)))) (fun XI XA XP XC MI MA ML => by show f_X5_doGap sc (n + 4) (p + 51) x 5 _ = _; rw [e_X5_doGap, hp_cc_5, if_pos rfl]; rfl) (ac_map (f := fun y => y * iO 3) (fun XI XA XP XC MI MA ML => vt_bI _ _ _ _ _) (ac_go (sc := sc) (n := n) h x))
theorem ac_gap (h : RX D p k m s) (x : Int32) : AC D (fun z => en_vt z (p + 51) [(1, 31), (2, 31), (3, 24), (4, 27), (8, 31)] (fun i => en_cl sc en_mt (n + 5) i [.ref (p + 51), .int x, .ref 5] z)) (a_gap k s x).1 (a_gap k s x).2 := by
  have h' := h
  obtain ⟨hk, fs, h1, h2, h3⟩ := h'
  unfold a_gap
  have plain : (k = 0 ∨ k = 1 ∨ k = 3) → AC D (fun z => en_vt z (p + 51) [(1, 31), (2, 31), (3, 24), (4, 27), (8, 31)] (fun i => en_cl sc en_mt (n + 5) i [.ref (p + 51), .int x, .ref 5] z)) (a_gapR k s x).1 (a_gapR k s x).2 := fun g => ac_eq (G := fun z => f_X5_doGap sc (n + 5) (p + 51) x 5 z) (fun XI XA XP XC MI MA ML => by
    rw [d_vt h1]
    rcases g with g | g | g <;> rw [g] <;> rfl) (ac_gapRow (sc := sc) (n := n + 1) h x)
  rcases hk with g | g | g | g | g
  · rw [if_neg (by omega), if_neg (by omega)]; exact plain (by omega)
  · rw [if_neg (by omega), if_neg (by omega)]; exact plain (by omega)
  · subst g
    rw [if_pos rfl]
    refine ac_eq (G := fun z => f_X4_doGap sc (n + 5) (p + 51) x 5 z) (fun XI XA XP XC MI MA ML => by rw [d_vt h1]; rfl) ?_
    refine ac_add (sc := sc) (n := n + 3) (b := 30) (G := fun z1 => en_cc z1 (p + 51) (fun c4 => if 4 = c4 then en_bI (f_X5_doGap sc (n + 4) (p + 51) (x + iO 1) 5 z1) (fun x5 z3 => some (some (.int x5), z3)) else none)) (fun XI XA XP XC MI MA ML => by show f_X4_doGap sc (n + 5) (p + 51) x 5 _ = _; rw [e_X4_doGap, hp_cc_5, if_pos rfl]; rfl) (ac_pass (fun XI XA XP XC MI MA ML => ?_) (ac_gapRow (sc := sc) (n := n) h (x + iO 1)))
    rw [rx_cc h]
    exact if_pos rfl
  · rw [if_neg (by omega), if_neg (by omega)]; exact plain (by omega)
  · subst g
    rw [if_neg (by decide), if_pos rfl]
    refine ac_eq (G := fun z => f_X3_doGap sc (n + 5) (p + 51) x 5 z) (fun XI XA XP XC MI MA ML => by rw [d_vt h1]; rfl) ?_
    refine ac_add (sc := sc) (n := n + 3) (b := 51) (G := fun z1 => en_cc z1 (p + 51) (fun c4 => if 3 = c4 then en_bI (f_X5_doGap sc (n + 4) (p + 51) x 5 z1) (fun x5 z3 => en_cc z3 (p + 51) (fun c7 => if 3 = c7 then en_bI (f_X2_doGo sc (n + 4) (p + 51) x 5 z3) (fun x8 z6 => some (some (.int (x5 + x8)), z6)) else none)) else none)) (fun XI XA XP XC MI MA ML => by show f_X3_doGap sc (n + 5) (p + 51) x 5 _ = _; rw [e_X3_doGap, hp_cc_5, if_pos rfl]; rfl) (ac_bind (H := fun x5 z3 => en_cc z3 (p + 51) (fun c7 => if 3 = c7 then en_bI (f_X2_doGo sc (n + 4) (p + 51) x 5 z3) (fun x8 z6 => some (some (.int (x5 + x8)), z6)) else none)) (fun XI XA XP XC MI MA ML => ?_) (ac_gapRow (sc := sc) (n := n) h x) (ac_map (f := fun y => (a_gapR 4 s x).1 + y) (fun XI XA XP XC MI MA ML => ?_) (ac_goEven (sc := sc) (n := n + 1) h (by omega) x)))
    · rw [rx_cc h]
      exact if_pos rfl
    · rw [rx_cc h]
      exact if_pos rfl
theorem ac_grow (h : RX D p k m s) (x : Int32) : AC D (fun z => en_vt z (p + 51) [(1, 14), (2, 20), (3, 23), (4, 20), (8, 32)] (fun i => en_cl sc en_mt (n + 4) i [.ref (p + 51), .int x, .ref 5] z)) (a_grow k m x).1 (a_grow k m x).2 := by
  have h' := h
  obtain ⟨hk, fs, h1, h2, h3⟩ := h'
  unfold a_grow
  rcases hk with g | g | g | g | g
  · subst g
    rw [if_pos rfl]
    exact ac_eq (G := fun z => f_X5_doGrow sc (n + 4) (p + 51) x 5 z) (fun XI XA XP XC MI MA ML => by rw [d_vt h1]; rfl) (ac_growRow (sc := sc) (n := n + 2) h x)
  · subst g
    rw [if_neg (by decide), if_neg (by decide), if_neg (by decide)]
    exact ac_eq (G := fun z => f_X2_doGrow sc (n + 4) (p + 51) x 5 z) (fun XI XA XP XC MI MA ML => by rw [d_vt h1]; rfl) (ac_growEven (sc := sc) (n := n + 1) h (by omega) x)
  · subst g
    rw [if_neg (by decide), if_neg (by decide), if_neg (by decide)]
    exact ac_eq (G := fun z => f_X2_doGrow sc (n + 4) (p + 51) x 5 z) (fun XI XA XP XC MI MA ML => by rw [d_vt h1]; rfl) (ac_growEven (sc := sc) (n := n + 1) h (by omega) x)
  · subst g
    rw [if_neg (by decide), if_pos rfl]
    refine ac_eq (G := fun z => f_X1_doGrow sc (n + 4) (p + 51) x 5 z) (fun XI XA XP XC MI MA ML => by rw [d_vt h1]; rfl) ?_
    refine ac_add (sc := sc) (n := n + 2) (b := 41) (G := fun z1 => en_cc z1 (p + 51) (fun c4 => if 1 = c4 then en_bI (f_X5_doGrow sc (n + 3) (p + 51) x 5 z1) (fun x5 z3 => some (some (.int (x5 * iO 5)), z3)) else none)) (fun XI XA XP XC MI MA ML => by show f_X1_doGrow sc (n + 4) (p + 51) x 5 _ = _; rw [e_X1_doGrow, hp_cc_5, if_pos rfl]; rfl) (ac_map (f := fun y => y * iO 5) (fun XI XA XP XC MI MA ML => ?_) (ac_growRow (sc := sc) (n := n + 1) h x))
    rw [rx_cc h]
    exact if_pos rfl
  · subst g
    rw [if_neg (by decide), if_neg (by decide), if_pos rfl]
    refine ac_eq (G := fun z => f_X3_doGrow sc (n + 4) (p + 51) x 5 z) (fun XI XA XP XC MI MA ML => by rw [d_vt h1]; rfl) ?_
    refine ac_add (sc := sc) (n := n + 2) (b := 50) (G := fun z1 => en_cc z1 (p + 51) (fun c4 => if 3 = c4 then en_bI (f_X2_doGrow sc (n + 3) (p + 51) x 5 z1) (fun x5 z3 => some (some (.int (x5 ^^^ iO 9)), z3)) else none)) (fun XI XA XP XC MI MA ML => by show f_X3_doGrow sc (n + 4) (p + 51) x 5 _ = _; rw [e_X3_doGrow, hp_cc_5, if_pos rfl]; rfl) (ac_map (f := fun y => y ^^^ iO 9) (fun XI XA XP XC MI MA ML => ?_) (ac_growEven (sc := sc) (n := n) h (by omega) x))
    rw [rx_cc h]
    exact if_pos rfl
theorem ac_tellRow (h : RX D p k m s) (x : Int32) : AC D (fun z => f_X5_doTell sc (n + 6) (p + 51) x 5 z) (a_tellR k s m x).1 (a_tellR k s m x).2 := by
  unfold a_tellR
  refine ac_add (sc := sc) (n := n + 4) (b := 13) (G := fun z1 => en_vt z1 (p + 51) [(1, 31), (2, 31), (3, 24), (4, 27), (8, 31)] (fun i4 => en_bI (en_cl sc en_mt (n + 5) i4 [.ref (p + 51), .int x, .ref 5] z1) (fun x5 z3 => en_vt z3 (p + 51) [(1, 14), (2, 20), (3, 23), (4, 20), (8, 32)] (fun i7 => en_bI (en_cl sc en_mt (n + 5) i7 [.ref (p + 51), .int x, .ref 5] z3) (fun x8 z6 => some (some (.int (x5 ^^^ x8)), z6)))))) (fun XI XA XP XC MI MA ML => by show f_X5_doTell sc (n + 6) (p + 51) x 5 _ = _; rw [e_X5_doTell, hp_cc_5, if_pos rfl]; rfl) (ac_bind (fun XI XA XP XC MI MA ML => vt_bI _ _ _ _ _) (ac_gap (sc := sc) (n := n) h x) (ac_map (f := fun y => (a_gap k s x).1 ^^^ y) (fun XI XA XP XC MI MA ML => vt_bI _ _ _ _ _) (ac_grow (sc := sc) (n := n + 1) h x)))
theorem ac_tell (h : RX D p k m s) (x : Int32) : AC D (fun z => en_vt z (p + 51) [(1, 33), (2, 33), (3, 33), (4, 28), (8, 33)] (fun i => en_cl sc en_mt (n + 7) i [.ref (p + 51), .int x, .ref 5] z)) (a_tell k s m x).1 (a_tell k s m x).2 := by
  have h' := h
  obtain ⟨hk, fs, h1, h2, h3⟩ := h'
  unfold a_tell
  by_cases g2 : k = 2
  · subst g2
    rw [if_pos rfl]
    refine ac_eq (G := fun z => f_X4_doTell sc (n + 7) (p + 51) x 5 z) (fun XI XA XP XC MI MA ML => by rw [d_vt h1]; rfl) ?_
    have hg : AC D (fun z => f_X2_doGrow sc (n + 6) (p + 51) x 5 z) (a_grow 2 m x).1 (a_grow 2 m x).2 := ac_growEven (sc := sc) (n := n + 3) h (by omega) x
    refine ac_add (sc := sc) (n := n + 5) (b := 31) (G := fun z1 => en_cc z1 (p + 51) (fun c4 => if 4 = c4 then en_bI (f_X5_doTell sc (n + 6) (p + 51) x 5 z1) (fun x5 z3 => en_cc z3 (p + 51) (fun c7 => if 4 = c7 then en_bI (f_X2_doGrow sc (n + 6) (p + 51) x 5 z3) (fun x8 z6 => some (some (.int (x5 - x8)), z6)) else none)) else none)) (fun XI XA XP XC MI MA ML => by show f_X4_doTell sc (n + 7) (p + 51) x 5 _ = _; rw [e_X4_doTell, hp_cc_5, if_pos rfl]; rfl) (ac_bind (H := fun x5 z3 => en_cc z3 (p + 51) (fun c7 => if 4 = c7 then en_bI (f_X2_doGrow sc (n + 6) (p + 51) x 5 z3) (fun x8 z6 => some (some (.int (x5 - x8)), z6)) else none)) (fun XI XA XP XC MI MA ML => ?_) (ac_tellRow (sc := sc) (n := n) h x) (ac_map (f := fun y => (a_tellR 2 s m x).1 - y) (fun XI XA XP XC MI MA ML => ?_) hg))
    · rw [rx_cc h]
      exact if_pos rfl
    · rw [rx_cc h]
      exact if_pos rfl
  · rw [if_neg g2]
    refine ac_eq (G := fun z => f_X5_doTell sc (n + 7) (p + 51) x 5 z) (fun XI XA XP XC MI MA ML => ?_) (ac_tellRow (sc := sc) (n := n + 1) h x)
    rw [d_vt h1]
    rcases hk with g | g | g | g | g
    · rw [g]; rfl
    · rw [g]; rfl
    · exact absurd g g2
    · rw [g]; rfl
    · rw [g]; rfl
end ACC
