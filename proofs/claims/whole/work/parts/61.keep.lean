/-! A ROW's object is made and kept -/
def wsec (g : GD) (s : Int) : GD := (g.1, g.2.1, s, g.2.2.2)
theorem HV_new {Γ : Nat → Option GD} {D D1 : en_H} {p : Nat} {g : GD} (hV : HV Γ D) (hf : FA D D1) (hp0 : Γ p = none) (h1 : g.2.1 ≤ 9) (h2 : g.2.2.2.2.1 ≤ 10001) (h3 : ∀ i, i < g.2.2.2.2.1 → 0 ≤ g.2.2.2.2.2.1 i ∧ g.2.2.2.2.2.1 i ≤ 100) (hrc : RC (va_up Γ p (some g)) D1 p g) : HV (va_up Γ p (some g)) D1 := by
  intro p' g' h'
  by_cases e : p' = p
  · subst e
    rw [w_eq rfl] at h'
    cases h'
    exact ⟨h1, h2, h3, hrc⟩
  · rw [w_ne e] at h'
    obtain ⟨a1, a2, a3, rc⟩ := (hV.fa hf) p' g' h'
    refine ⟨a1, a2, a3, ?_⟩
    rcases rc with r | r | ⟨b1, q, gq, kn, tk, en, arr, z, zs, o, os, b2, b3⟩
    · exact Or.inl r
    · exact Or.inr (Or.inl r)
    · exact Or.inr (Or.inr ⟨b1, q, gq, kn, tk, en, arr, z, zs, o, os, by rw [w_ne (fun h => by rw [h, hp0] at b2; cases b2)]; exact b2, b3⟩)
theorem SlO.set {D : en_H} {q p : Nat} {s : SL4} (h : SlO D q s) {ci : Nat} {fs : List Value} {c : va_E} (hp : en_nt D p = some (.inr (ci, fs))) (hci : ci ≠ 6) : SlO (D.set p c) q s := by
  obtain ⟨a, b, c, d, t, qs, ls, h1, h2, h3, h4⟩ := h
  refine ⟨a, b, c, d, t, qs, ls, ?_, ?_, ?_, h4⟩
  · rw [nt_set_ne (fun e => by rw [e, hp] at h1; cases h1; exact hci rfl)]
    exact h1
  · rw [nt_set_ne (fun e => by rw [e, hp] at h2; cases h2)]
    exact h2
  · rw [nt_set_ne (fun e => by rw [e, hp] at h3; cases h3)]
    exact h3
/-- the second step is written into a row's object -/
theorem HV_sec {Γ : Nat → Option GD} {D : en_H} {p : Nat} {g : GD} (hV : HV Γ D) (hg : Γ p = some g) (s : Int) : ∃ ci fs v1, en_nt D p = some (.inr (ci, fs)) ∧ (ci = 1 ∨ ci = 2 ∨ ci = 3 ∨ ci = 4 ∨ ci = 8) ∧ en_nt fs 0 = some (.int (iO (g.2.1 : Nat))) ∧ en_nt fs 1 = some v1 ∧ en_nt (fs.set 1 (.int (iO s))) 0 = some (.int (iO (g.2.1 : Nat))) ∧ HV (va_up Γ p (some (wsec g s))) (D.set p (.inr (ci, fs.set 1 (.int (iO s))))) := by
  -- the others keep their cells
  have others : ∀ (ci : Nat) (fs : List Value), en_nt D p = some (.inr (ci, fs)) → (ci = 1 ∨ ci = 2 ∨ ci = 3 ∨ ci = 4 ∨ ci = 8) → ∀ c, ∀ p' g', Γ p' = some g' → p' ≠ p → RC (va_up Γ p (some (wsec g s))) (D.set p c) p' g' := by
    intro ci fs h hci c p' g' h' hne
    obtain ⟨-, -, -, rc⟩ := hV p' g' h'
    rcases rc with ⟨b1, arr, b2, b3, b4⟩ | ⟨b1, sp, u, v, b2, b3, b4⟩ | ⟨b1, q, gq, kn, tk, en, arr, z, zs, o, os, b2, b3, b4, b5, b6⟩
    · refine Or.inl ⟨b1, arr, ?_, ?_, b4⟩
      · rw [nt_set_ne hne]; exact b2
      · rw [nt_set_ne (fun e => by rw [e, h] at b3; cases b3)]; exact b3
    · refine Or.inr (Or.inl ⟨b1, sp, u, v, ?_, b3.set h (by omega), b4⟩)
      rw [nt_set_ne hne]; exact b2
    · have c4 : en_nt (D.set p c) p' = _ := (nt_set_ne hne).trans b4
      have c5 : en_nt (D.set p c) (p' + 1) = _ := (nt_set_ne (fun e => by rw [e, h] at b5; cases b5)).trans b5
      by_cases e : q = p
      · subst e
        rw [hg] at b2
        cases b2
        exact Or.inr (Or.inr ⟨b1, q, wsec g s, kn, tk, en, arr, z, zs, o, os, w_eq rfl, b3, c4, c5, b6⟩)
      · exact Or.inr (Or.inr ⟨b1, q, gq, kn, tk, en, arr, z, zs, o, os, by rw [w_ne e]; exact b2, b3, c4, c5, b6⟩)
  have fin : ∀ (ci : Nat) (fs : List Value), en_nt D p = some (.inr (ci, fs)) → (ci = 1 ∨ ci = 2 ∨ ci = 3 ∨ ci = 4 ∨ ci = 8) → RC (va_up Γ p (some (wsec g s))) (D.set p (.inr (ci, fs.set 1 (.int (iO s))))) p (wsec g s) → HV (va_up Γ p (some (wsec g s))) (D.set p (.inr (ci, fs.set 1 (.int (iO s))))) := by
    intro ci fs h hci hrc p' g' h'
    by_cases e : p' = p
    · subst e
      rw [w_eq rfl] at h'
      cases h'
      obtain ⟨a1, a2, a3, -⟩ := hV p' g hg
      exact ⟨a1, a2, a3, hrc⟩
    · rw [w_ne e] at h'
      obtain ⟨a1, a2, a3, -⟩ := hV p' g' h'
      exact ⟨a1, a2, a3, others ci fs h hci _ p' g' h' e⟩
  rcases (hV p g hg).2.2.2 with ⟨b1, arr, b2, b3, b4⟩ | ⟨b1, sp, u, v, b2, b3, b4⟩ | ⟨b1, q, gq, kn, tk, en, arr, z, zs, o, os, b2, b3, b4, b5, b6⟩
  · refine ⟨_, _, _, b2, by omega, rfl, rfl, rfl, fin _ _ b2 (by omega) (Or.inl ⟨b1, arr, nt_set_eq b2, ?_, b4⟩)⟩
    rw [nt_set_ne (by omega)]; exact b3
  · have hci : evc g.1 = 1 ∨ evc g.1 = 2 ∨ evc g.1 = 3 ∨ evc g.1 = 4 ∨ evc g.1 = 8 := by rcases b1 with h | h | h <;> rw [h] <;> decide
    have h6 : evc g.1 ≠ 6 := by omega
    exact ⟨_, _, _, b2, hci, rfl, rfl, rfl, fin _ _ b2 hci (Or.inr (Or.inl ⟨b1, sp, u, v, nt_set_eq b2, b3.set b2 h6, b4⟩))⟩
  · have hq : q ≠ p := fun e => by
      rw [e, hg] at b2
      cases b2
      omega
    refine ⟨_, _, _, b4, by omega, rfl, rfl, rfl, fin _ _ b4 (by omega) (Or.inr (Or.inr ⟨b1, q, gq, kn, tk, en, arr, z, zs, o, os, by rw [w_ne hq]; exact b2, b3, nt_set_eq b4, ?_, b6⟩))⟩
    rw [nt_set_ne (by omega)]; exact b5
section KEP
variable {sc : en_S} {n : Nat} {S : ST5} {XI : Nat → Int32} {XA : Nat → Nat → Int32} {XP : Nat → Nat → Option Nat} {XC : Value} {MI : Nat → Int32} {MA : Nat → Nat → Int32} {ML : Nat → Nat → Int64} {D0 D : en_H} {Γ Γ1 : Nat → Option GD}
theorem x_keep (hV : CV S Γ XI XA XP D0) (hS : OK5 S) (hlen : S.2.1.length < 10) (hfa : FA D0 D) (hH : HV Γ1 D) (hext : ∀ x y, Γ x = some y → Γ1 x = some y) {p : Nat} {g : GD} (hΓp : Γ p = none) (hg : Γ1 p = some g) (hnum : g.2.1 = S.2.1.length) (hsl : (g.1 = 1 ∨ g.1 = 4) → S.1[g.2.2.2.1.toNat]? = some g.2.2.2.2.2.2) :
    ∃ XI' XP' D' Γ', f_X11_keep sc (n + 38) 1 (p + 51) (hp XI XA XP XC MI MA ML D) = some (some (.int (iO (S.2.1.length : Nat))), hp XI' XA XP' XC MI MA ML D') ∧ CV (addr S (g.1, g.2.2.2.1, g.2.2.2.2.1, g.2.2.2.2.2.1)) Γ' XI' XA XP' D' ∧ D'.length = D.length ∧ en_sz D' = en_sz D := by
  obtain ⟨v1, v2, v3, v4, v5, v6, v7, v8, v9⟩ := id hV
  obtain ⟨a1, a2, a3, -⟩ := hH p g hg
  obtain ⟨D1, s1, s2, s3⟩ := step_ok (sc := sc) g.2.1 p g hg rfl (n + 37) XI XA XP XC MI MA ML D 1 hH (by unfold i32; omega) (by omega)
  have hsec : max 0 (stp g 1) = (if 1 < g.2.2.2.2.1 then g.2.2.2.2.2.1 1 else 0) ∧ i32 (stp g 1) := by
    unfold stp
    by_cases e : 1 < g.2.2.2.2.1
    · have := a3 1 e
      rw [if_pos (by omega), if_pos e, show (1 : Int).toNat = 1 from rfl]
      exact ⟨by omega, by unfold i32; omega⟩
    · rw [if_neg (by omega), if_neg e]
      exact ⟨by omega, by unfold i32; omega⟩
  obtain ⟨ci, fs, w1, c1, c2, c3, c4, c5, c6⟩ := HV_sec s2 hg (max 0 (stp g 1))
  have hne6 : ci ≠ 6 := by omega
  refine ⟨va_up (va_up XI 1 (iO ((S.2.1.length : Int) + 1))) 2 (iO 0), va_up XP 1 (va_up (XP 1) S.2.1.length (some (p + 51))), _, _, ?_, ⟨v1, ?_, rfl, v4, ?_, ?_, ?_, v8, c6⟩, ?_, ?_⟩
  · rw [e_X11_keep, vt_bI, show (1 : Int32) = iO 1 from rfl, s1, bI_s, ki_0, e_maxI (by unfold i32; omega) hsec.2, bI_s]
    have hfd : en_fd [(1, 0), (2, 0), (3, 0), (4, 0), (8, 0)] ci = some 0 := by rcases c2 with h | h | h | h | h <;> rw [h] <;> rfl
    rw [d_pf c1 hfd c4]
    have d1 := nt_set_eq (c := .inr (ci, fs.set 1 (.int (iO (max 0 (stp g 1)))))) c1
    generalize D1.set p (.inr (ci, fs.set 1 (.int (iO (max 0 (stp g 1)))))) = D2 at *
    have hsA : ∀ (XI : Nat → Int32) (i : Int32) (f : en_H → Option en_R), en_sA (hp XI XA XP XC MI MA ML D2) 3 i (p + 51) f = if en_ix i 10 then f (hp XI XA (va_up XP 1 (va_up (XP 1) i.toNatClampNeg (some (p + 51)))) XC MI MA ML D2) else none := fun XI i f => hp_sA1 d1 c2 i f
    have hnb : ∀ (XI : Nat → Int32) (XP : Nat → Nat → Option Nat) (f : Int32 → Option en_R), en_gI (hp XI XA XP XC MI MA ML D2) (p + 51) [(1, 0), (2, 0), (3, 0), (4, 0), (8, 0)] 0 f = f (iO (g.2.1 : Nat)) := fun XI XP f => d_gI d1 hfd c5 f
    clear s1 s2 s3 hV v5 v6 v7 v8 v9 hsl c6 hH hext
    simp (disch := (first | assumption | (unfold i32; omega) | (unfold i64; omega) | omega)) only [ki_0, ki_1, ki_2, ki_3, ki_4, ki_5, ki_6, ki_7, ki_8, ki_9, ki_10, ki_11, ki_12, ki_13, ki_14, ki_15, ki_20, ki_21, ki_30, ki_31, ki_40, ki_41, ki_50, ki_51, ki_60, ki_63, ki_64, ki_65, ki_100, ki_158, ki_160, ki_200, ki_212, ki_1000, ki_2000, ki_2001, ki_5000, ki_10000, ki_10001, ki_100000, ki_200000, ki_1000000, ki_2000000, ki_3000000, iO_neg, iO_add, iO_sub, iO_mul, kn_4, kn_8, kn_10, kn_20, kn_24, kn_40, kn_41, kn_50, kn_60, kn_158, kn_160, kn_200, kn_212, kn_2001, tn_lt, fn_lt, tn_le, fn_le, tn_eq, fn_eq, x_lt, x_le, x_eq, x_ix, x_nat, t_lt, f_lt, t_le, f_le, t_eq, f_eq, eq_self, and_self, true_and, and_true, false_and, and_false, if_true, if_false, Int.toNat_natCast, bI_s, bL_s, bA_s, bA_n, bV_s, mq_s, mq_n, en_le, bl_0, bl_1, u_eq, u_ne, w_eq, w_ne, v_eq, v_ne, hp_cc_1, hp_g_1_0, hp_g_1_1, hp_g_1_2, hp_g_1_3, hp_g_1_4, hp_g_1_5, hp_g_1_6, hp_g_1_7, hp_g_1_8, hp_p_1_8, hp_g_1_9, hp_p_1_9, hp_g_1_10, hp_p_1_10, hp_a_2, hp_n_2, hp_a_3, hp_n_3, hp_a_4, v2, hsA, hnb, x_done, hnum]
  · show iO ((S.2.1.length : Int) + 1) = iO ((S.2.1 ++ [_]).length : Nat)
    rw [List.length_append, List.length_singleton]
    rfl
  · intro s q hq
    obtain ⟨p', w1, w2⟩ := v5 s q hq
    exact ⟨p', w1, ((w2.fr hfa.fr).fr s3.2.2.1).set c1 hne6⟩
  · intro r q hq
    have hq : (S.2.1 ++ [_])[r]? = some q := hq
    show ∃ p' g', va_up (XP 1) S.2.1.length (some (p + 51)) r = some (p' + 51) ∧ va_up Γ1 p (some (wsec g (max 0 (stp g 1)))) p' = some g' ∧ _
    rw [List.getElem?_append] at hq
    split at hq
    · obtain ⟨p', g', w1, w2, w3⟩ := v6 r q hq
      refine ⟨p', g', by rw [w_ne (by omega)]; exact w1, ?_, w3⟩
      rw [w_ne (fun e => by rw [e, hΓp] at w2; cases w2)]
      exact hext _ _ w2
    · rename_i hs
      have hs2 : r = S.2.1.length := by
        have := (List.getElem?_eq_some_iff.mp hq).1
        simp at this
        omega
      subst hs2
      simp at hq
      subst hq
      exact ⟨p, _, w_eq rfl, w_eq rfl, rfl, hnum, hsec.1, rfl, rfl, rfl, hsl⟩
  · intro k hk
    obtain ⟨a, b, c⟩ := v7 k hk
    exact ⟨(va_up_ne _ _ (by omega)).trans ((va_up_ne _ _ (by omega)).trans a), (va_up_ne _ _ (by omega)).trans ((va_up_ne _ _ (by omega)).trans b), c⟩
  · rw [List.length_set, s3.1]
  · have : en_s0 (.inr (ci, fs.set 1 (.int (iO (max 0 (stp g 1)))))) = en_s0 (.inr (ci, fs)) := by
      show (fs.set 1 _).length = fs.length
      exact List.length_set
    rw [en_sz_set D1 p _ _ c1 this, s3.2.1]
end KEP
