/-! A SLOPE's object is made -/
section A3
variable {α : Type} (D : List α) (x y w v : α)
theorem a3s0 : (D ++ [x, y, w]).set D.length v = D ++ [v, y, w] := by rw [List.set_append_right _ _ (by omega)]; simp
theorem a3s1 : (D ++ [x, y, w]).set (D.length + 1) v = D ++ [x, v, w] := by rw [List.set_append_right _ _ (by omega)]; simp
theorem a3s2 : (D ++ [x, y, w]).set (D.length + 2) v = D ++ [x, y, v] := by rw [List.set_append_right _ _ (by omega)]; simp
end A3
section A3n
variable (D : en_H) (x y w : va_E)
theorem a3n0 : en_nt (D ++ [x, y, w]) D.length = some x := by rw [en_nt_eq, List.getElem?_append_right (by omega)]; simp
theorem a3n1 : en_nt (D ++ [x, y, w]) (D.length + 1) = some y := by rw [en_nt_eq, List.getElem?_append_right (by omega)]; simp
theorem a3n2 : en_nt (D ++ [x, y, w]) (D.length + 2) = some w := by rw [en_nt_eq, List.getElem?_append_right (by omega)]; simp
theorem a1n0 : en_nt (D ++ [x]) D.length = some x := nt_new
theorem a1s0 (v : va_E) : (D ++ [x]).set D.length v = D ++ [v] := by rw [List.set_append_right _ _ (by omega)]; simp
theorem a2n0 : en_nt (D ++ [x, y]) D.length = some x := by rw [en_nt_eq, List.getElem?_append_right (by omega)]; simp
theorem a2n1 : en_nt (D ++ [x, y]) (D.length + 1) = some y := by rw [en_nt_eq, List.getElem?_append_right (by omega)]; simp
theorem a2s0 (v : va_E) : (D ++ [x, y]).set D.length v = D ++ [v, y] := by rw [List.set_append_right _ _ (by omega)]; simp
theorem a2s1 (v : va_E) : (D ++ [x, y]).set (D.length + 1) v = D ++ [x, v] := by rw [List.set_append_right _ _ (by omega)]; simp
end A3n
theorem dv_bd {g a A K : Int} (hg : 1 ≤ g) (h : A = g * a) (h1 : -K ≤ A) (h2 : A ≤ K) : -K ≤ a ∧ a ≤ K := by
  constructor
  · rcases Int.lt_or_le a (-K) with q | q
    · exfalso
      have hK : 0 ≤ K := by omega
      have := mul_le_mul' (a := 1) (b := g) (c := -a) (d := -a) (by omega) hg (by omega) (by omega)
      rw [Int.mul_neg g] at this
      omega
    · exact q
  · rcases Int.lt_or_le K a with q | q
    · exfalso
      have hK : 0 ≤ K := by omega
      have := mul_le_mul' (a := 1) (b := g) (c := a) (d := a) (by omega) hg (by omega) (by omega)
      omega
    · exact q
/-- the quotients of a slope: what they are like, and by what the class finds them -/
theorem qls_QB {s : SL4} (hS : SL s.1 s.2.1 s.2.2.1 s.2.2.2) : QB (qls s) ∧ 1 ≤ (qls s).length ∧ (qls s).length ≤ 20 := by
  obtain ⟨a1, a2, b1, b2, c1, c2, d1, d2, hns, hb0, -⟩ := id hS
  unfold qls
  by_cases hb : s.2.1 = 0
  · rw [hb]
    refine ⟨(ql0_QB 20 s.1 s.2.2.1 (by omega) (by omega) (by omega) (by omega)).1, ?_, ?_⟩
    · rw [ql_0 (by omega)]
      split <;> simp
    · have : ∀ (k : Nat) (a c d : Int), 0 < c → (ql k a 0 c d).length ≤ k := by
        intro k
        induction k with
        | zero => intro a c d _; simp [ql]
        | succ k ih =>
          intro a c d hc
          rw [ql_0 hc]
          split
          · simp
          · rw [List.length_cons]
            have m1 := Int.emod_nonneg a (show c ≠ 0 by omega)
            have := ih c (a % c) d (by omega)
            omega
      exact this 20 _ _ _ (by omega)
  · have hns := hns hb
    rw [← repq_start (by omega) (by omega) hb hns]
    generalize hE : (if 0 < s.2.1 then s.2.1 else -s.2.1) * s.2.2.1 = e
    have he0 : 1 ≤ (if 0 < s.2.1 then s.2.1 else -s.2.1) ∧ (if 0 < s.2.1 then s.2.1 else -s.2.1) ≤ 20 := by split <;> omega
    have he : 0 < e := by rw [← hE]; exact Int.mul_pos (by omega) (by omega)
    have he2 : e ≤ 2000 := by rw [← hE]; exact (mul_le_mul' (a := _) (b := 20) (c := s.2.2.1) (d := 100) (by omega) he0.2 (by omega) c2)
    have hn0 : 0 ≤ e * e * s.2.2.2 := Int.mul_nonneg (sq_nn e) (by omega)
    obtain ⟨r1, r2⟩ := isq_int hn0
    have hnb : e * e * s.2.2.2 ≤ 200000000 := by
      have := sq_bd (x := e) (K := 2000) (by omega) he2
      have := mul_le_mul' (a := e * e) (b := 4000000) (c := s.2.2.2) (d := 50) (by omega) (by omega) (by omega) d2
      omega
    have hr3 : (isq (e * e * s.2.2.2).toNat : Int) ≤ 15000 := rt_le (by omega) (by omega)
    have hcc := sq_bd (x := s.2.2.1) (K := 100) (by omega) c2
    have hcc0 := Int.mul_pos (show 0 < s.2.2.1 by omega) (show 0 < s.2.2.1 by omega)
    have hac := mul_bd (x := s.1) (y := s.2.2.1) (a := 1000) (b := 100) (by omega) (by omega) (by omega) (by omega)
    have hPQ : PQ (e * e * s.2.2.2) (if 0 < s.2.1 then s.1 * s.2.2.1 else -s.1 * s.2.2.1) (if 0 < s.2.1 then s.2.2.1 * s.2.2.1 else -s.2.2.1 * s.2.2.1) 60000 := by
      rw [← hE]
      by_cases g : 0 < s.2.1
      · rw [if_pos g, if_pos g, if_pos g]
        exact ⟨by omega, ⟨s.2.1 * s.2.1 * s.2.2.2 - s.1 * s.1, by grind⟩, by omega, by omega⟩
      · rw [if_neg g, if_neg g, if_neg g]
        refine ⟨by rw [Int.neg_mul]; omega, ⟨-(s.2.1 * s.2.1 * s.2.2.2 - s.1 * s.1), by grind⟩, by rw [Int.neg_mul]; omega, by rw [Int.neg_mul]; omega⟩
    have hP1 : -1200000 ≤ (if 0 < s.2.1 then s.1 * s.2.2.1 else -s.1 * s.2.2.1) ∧ (if 0 < s.2.1 then s.1 * s.2.2.1 else -s.1 * s.2.2.1) ≤ 1200000 := by
      rw [Int.neg_mul]
      split <;> omega
    refine ⟨(repq_QB he (by omega) hns (by omega) (by omega) r1 r2 20 _ _ 60000 (by omega) (by omega) (by omega) hPQ hP1.1 hP1.2).1, ?_, ?_⟩
    · rw [repq_len he (by omega) hns (by omega) r1 r2 20 _ _ 60000 (by omega) hPQ]; omega
    · rw [repq_len he (by omega) hns (by omega) r1 r2 20 _ _ 60000 (by omega) hPQ]; omega
section INI
variable {sc : en_S} {n : Nat} {XI : Nat → Int32} {XA : Nat → Nat → Int32} {XP : Nat → Nat → Option Nat} {XC : Value} {MI : Nat → Int32} {MA : Nat → Nat → Int32} {ML : Nat → Nat → Int64} {D : en_H}
/-- the rows of quotients and lines, once a, b, c, d stand -/
theorem x_init6 {s : SL4} (hS : SL s.1 s.2.1 s.2.2.1 s.2.2.2) {a b c d : Int} {g1 g2 : Nat → Int32} (hq : ∀ (i : Nat) (x : Int), (qls s)[i]? = some x → g1 i = iO x) : ∃ g3, b_X7_init_6 sc (n + 2) (D.length + 51) (iO ((qls s).length : Nat)) (D.length + 51) (hp XI XA XP XC MI MA ML (D ++ [.inr (6, [.ref (D.length + 52), .int 0, .ref (D.length + 53), .int 0, .long (lO a), .long (lO b), .long (lO c), .long (lO d)]), ia g1, ia g2])) = some (none, hp XI XA XP XC MI MA ML (D ++ [.inr (6, CSf (.ref (D.length + 52)) (.int (iO ((qls s).length : Nat))) (.int (iO ((ll (qls s)).length : Nat))) (.ref (D.length + 53)) a b c d), ia g1, ia g3])) ∧ (∀ (i : Nat) (x : Int), (ll (qls s))[i]? = some x → g3 i = iO x) := by
  obtain ⟨hQB, hl1, hl2⟩ := qls_QB hS
  -- the cells behind quotientCount
  have n0 := a3n0 D (.inr (6, [.ref (D.length + 52), .int (iO ((qls s).length : Nat)), .ref (D.length + 53), .int 0, .long (lO a), .long (lO b), .long (lO c), .long (lO d)])) (ia g1) (ia g2)
  have n1 := a3n1 D (.inr (6, [.ref (D.length + 52), .int (iO ((qls s).length : Nat)), .ref (D.length + 53), .int 0, .long (lO a), .long (lO b), .long (lO c), .long (lO d)])) (ia g1) (ia g2)
  have n2 := a3n2 D (.inr (6, [.ref (D.length + 52), .int (iO ((qls s).length : Nat)), .ref (D.length + 53), .int 0, .long (lO a), .long (lO b), .long (lO c), .long (lO d)])) (ia g1) (ia g2)
  obtain ⟨g3, f1, f2, f3, f4⟩ := fl_loop (sc := sc) (n := n + 1) (XI := XI) (XA := XA) (XP := XP) (XC := XC) (MI := MI) (MA := MA) (ML := ML) n2 (q1 := D.length + 1) (by omega) n1 hQB hl2 hq ((qls s).length - 1) 1 1 0 1 (upd g2 0 (iO 1)) (by omega) (by omega) (by omega) (by omega) (by omega) (by omega) (by omega) (by omega)
  rw [a3s2, a3s2, List.drop_one] at f1
  rw [List.drop_one] at f3
  refine ⟨g3, ?_, ?_⟩
  · have hset : ([.ref (D.length + 52), .int 0, .ref (D.length + 53), .int 0, .long (lO a), .long (lO b), .long (lO c), .long (lO d)] : List Value).set 1 (.int (iO ((qls s).length : Nat))) = [.ref (D.length + 52), .int (iO ((qls s).length : Nat)), .ref (D.length + 53), .int 0, .long (lO a), .long (lO b), .long (lO c), .long (lO d)] := rfl
    rw [eb_X7_init_6, d_pf (a3n0 D _ _ _) (x := 0) rfl rfl, a3s0, hset]
    rw [d_gA n0 (x := 0) (k := 0) (v := D.length + 52) rfl rfl, d_gI n0 (x := 0) (k := 1) (v := iO ((qls s).length : Nat)) rfl rfl, d_gA n0 (x := 0) (k := 2) (v := D.length + 53) rfl rfl, e_X7_findLines]
    have hs : ∀ (i v : Int32) (f : en_H → Option en_R), en_sI (hp XI XA XP XC MI MA ML (D ++ [.inr (6, [.ref (D.length + 52), .int (iO ((qls s).length : Nat)), .ref (D.length + 53), .int 0, .long (lO a), .long (lO b), .long (lO c), .long (lO d)]), ia g1, ia g2])) (D.length + 53) i v f = if en_ix i 20 then f (hp XI XA XP XC MI MA ML ((D ++ [.inr (6, [.ref (D.length + 52), .int (iO ((qls s).length : Nat)), .ref (D.length + 53), .int 0, .long (lO a), .long (lO b), .long (lO c), .long (lO d)]), ia g1, ia g2]).set (D.length + 2) (ia (upd g2 i.toNatClampNeg v)))) else none := fun i v f => d_sI (p := D.length + 2) n2 i v f
    rw [hs, if_pos (by decide), a3s2]
    show en_bI (b_X7_findLines_1 sc (n + 1) (D.length + 1 + 51) (iO ((qls s).length : Nat)) (D.length + 2 + 51) (lO 0) (lO 1) (iO ((1 : Nat) : Int)) (iO ((1 : Nat) : Int)) (hp XI XA XP XC MI MA ML (D ++ [.inr (6, [.ref (D.length + 52), .int (iO ((qls s).length : Nat)), .ref (D.length + 53), .int 0, .long (lO a), .long (lO b), .long (lO c), .long (lO d)]), ia g1, ia (upd g2 0 (iO 1))]))) _ = _
    rw [f1, bI_s, d_pf (a3n0 D _ _ _) (x := 0) rfl rfl, a3s0]
    rw [show 1 + (lls (qls s).tail 0 1).length = (ll (qls s)).length by unfold ll; rw [List.length_cons]; omega]
    rfl
  · intro i x hx
    unfold ll at hx
    match i, hx with
    | 0, hx =>
      simp at hx
      subst hx
      rw [f2 0 (by omega), u_eq rfl]
    | i + 1, hx =>
      rw [List.getElem?_cons_succ] at hx
      rw [← f3 i x hx]
      congr 1
      omega
end INI
