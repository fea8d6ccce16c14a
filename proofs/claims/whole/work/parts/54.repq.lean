/-! QUOTIENTS by P and Q -/
theorem ql_scale {n : Nat} {g a b c d : Int} (hg : 0 < g) (hc : 0 < c) (hd : 0 < d) (hn : b ≠ 0 → nsq d) : ql n (g * a) (g * b) (g * c) d = ql n a b c d := by
  have h := ql_eq n (a := g * a) (b := g * b) (c := g * c) (t := 1) (a' := a) (b' := b) (c' := c) (d := d) ⟨Int.mul_pos hg hc, hc, by omega, by grind, by grind⟩ hd (fun q => hn (fun e => q (by rw [e, Int.mul_zero]))) (fun q => by rw [Int.mul_one, Int.mul_one]; exact hn (fun e => q (by rw [e, Int.mul_zero])))
  rwa [Int.mul_one, Int.mul_one] at h
noncomputable def repq (k : Nat) (P e Q d : Int) : List Int := if 0 < Q then ql k P e Q d else ql k (-P) (-e) (-Q) d
theorem fl_pos {e d r : Int} (he : 0 < e) (hr : 0 ≤ r) (h1 : r * r ≤ e * e * d) (h2 : e * e * d < (r + 1) * (r + 1)) : fl e d = r ∧ fl (-e) d = -r - 1 := by
  have h0 : 0 ≤ e * e * d := by have := sq_nn r; omega
  obtain ⟨a1, a2⟩ := isq_int h0
  have : (isq (e * e * d).toNat : Int) = r := by
    have b1 : (isq (e * e * d).toNat : Int) < r + 1 := rt_lt (by omega) (by omega)
    have b2 : r < (isq (e * e * d).toNat : Int) + 1 := rt_lt (by omega) (by omega)
    omega
  unfold fl
  rw [if_pos (by omega), if_neg (by omega), sq_neg, this]
  exact ⟨rfl, rfl⟩
theorem repq_step {k : Nat} {P e Q d r P1 Q1 : Int} (he : 0 < e) (hd : 0 < d) (hns : nsq d) (hr : 0 ≤ r) (h1 : r * r ≤ e * e * d) (h2 : e * e * d < (r + 1) * (r + 1)) (hQ : Q ≠ 0) (hP1 : P1 = pqw r P Q * Q - P) (hQ1 : Q1 * Q = e * e * d - P1 * P1) (hq1 : Q1 ≠ 0) : repq (k + 1) P e Q d = pqw r P Q :: repq k P1 e Q1 d := by
  obtain ⟨f1, f2⟩ := fl_pos he hr h1 h2
  unfold repq pqw at *
  by_cases g : 0 < Q
  · rw [if_pos g] at *
    have hw : whl P e d Q = (P + r) / Q := by unfold whl; rw [f1]
    rw [if_pos g, ql, hw, if_neg (show ¬ (P - (P + r) / Q * Q = 0 ∧ e = 0) by omega), if_neg (show ¬ e = 0 by omega)]
    congr 1
    rw [show P - (P + r) / Q * Q = -P1 by omega, sq_neg, show P1 * P1 - e * e * d = -(Q1 * Q) by omega]
    by_cases g1 : 0 < Q1
    · have := Int.mul_pos g1 g
      rw [if_neg (by omega), if_pos g1, show -(Q * -P1) = Q * P1 by rw [Int.mul_neg]; omega, show -(-(Q1 * Q)) = Q * Q1 by rw [Int.mul_comm Q]; omega]
      exact ql_scale g g1 hd (fun _ => hns)
    · have := Int.mul_pos (a := -Q1) (b := Q) (by omega) g
      rw [Int.neg_mul] at this
      rw [if_pos (by omega), if_neg g1, show -(Q * e) = Q * -e from (Int.mul_neg _ _).symm, show -(Q1 * Q) = Q * -Q1 by rw [Int.mul_neg, Int.mul_comm Q]]
      exact ql_scale g (by omega) hd (fun _ => hns)
  · rw [if_neg g] at *
    have hw : whl (-P) (-e) d (-Q) = (-P - r - 1) / (-Q) := by unfold whl; rw [f2]; congr 1; omega
    rw [if_neg g, ql, hw, if_neg (show ¬ (-P - (-P - r - 1) / (-Q) * (-Q) = 0 ∧ -e = 0) by omega), if_neg (show ¬ -e = 0 by omega)]
    congr 1
    rw [show -P - (-P - r - 1) / (-Q) * (-Q) = P1 by rw [Int.mul_neg]; omega, sq_neg, show P1 * P1 - e * e * d = -(Q1 * Q) by omega]
    by_cases g1 : 0 < Q1
    · have := Int.mul_pos (a := Q1) (b := -Q) g1 (by omega)
      rw [Int.mul_neg] at this
      rw [if_pos (by omega), if_pos g1, show -(-Q * -e) = -Q * e by rw [Int.mul_neg]; omega, show -(Q1 * Q) = -Q * Q1 by rw [Int.neg_mul, Int.mul_comm Q]]
      exact ql_scale (by omega) g1 hd (fun _ => hns)
    · have := Int.mul_pos (a := -Q1) (b := -Q) (by omega) (by omega)
      rw [Int.neg_mul_neg] at this
      rw [if_neg (by omega), if_neg g1, show -(-Q * P1) = -Q * -P1 by rw [Int.mul_neg], show -(-(Q1 * Q)) = -Q * -Q1 by rw [Int.neg_mul_neg, Int.mul_comm Q]; omega]
      exact ql_scale (by omega) (by omega) hd (fun _ => hns)
theorem pqw_bd {r P Q P1 K : Int} (hr : 0 ≤ r) (hK : 0 ≤ K) (hQ : Q ≠ 0) (hP1 : P1 = pqw r P Q * Q - P) (h1 : -K ≤ P1) (h2 : P1 ≤ K) (h3 : -K ≤ P) (h4 : P ≤ K) : -(2 * K) ≤ pqw r P Q ∧ pqw r P Q ≤ 2 * K := by
  generalize pqw r P Q = w at *
  have e : w * Q = P1 + P := by omega
  constructor
  · rcases Int.lt_or_le w (-(2 * K)) with g | g
    · exfalso
      rcases Int.lt_or_gt_of_ne hQ with q | q
      · have := mul_le_mul' (a := 2 * K + 1) (b := -w) (c := 1) (d := -Q) (by omega) (by omega) (by omega) (by omega)
        rw [Int.neg_mul_neg] at this
        omega
      · have := mul_le_mul' (a := 2 * K + 1) (b := -w) (c := 1) (d := Q) (by omega) (by omega) (by omega) (by omega)
        rw [Int.neg_mul] at this
        omega
    · exact g
  · rcases Int.lt_or_le (2 * K) w with g | g
    · exfalso
      rcases Int.lt_or_gt_of_ne hQ with q | q
      · have := mul_le_mul' (a := 2 * K + 1) (b := w) (c := 1) (d := -Q) (by omega) (by omega) (by omega) (by omega)
        rw [Int.mul_neg] at this
        omega
      · have := mul_le_mul' (a := 2 * K + 1) (b := w) (c := 1) (d := Q) (by omega) (by omega) (by omega) (by omega)
        omega
    · exact g
/-- the next one is at least 1 -/
theorem pqw_1 {n r P Q P1 Q1 : Int} (hr : 0 ≤ r) (h1 : r * r ≤ n) (h2 : n < (r + 1) * (r + 1)) (hQ : Q ≠ 0) (hP1 : P1 = pqw r P Q * Q - P) (hQ1 : Q1 * Q = n - P1 * P1) (hq1 : Q1 ≠ 0) : 1 ≤ pqw r P1 Q1 := by
  unfold pqw at *
  by_cases g : 0 < Q
  · rw [if_pos g] at hP1
    obtain ⟨b1, b2, b3, b4⟩ := pq_pos (P := P) (Q := Q) hr h1 h2 g hP1
    by_cases g1 : 0 < Q1
    · rw [if_pos g1, Int.le_ediv_iff_mul_le g1, Int.one_mul]
      rcases Int.lt_or_le (P1 + r) Q1 with y | y
      · exfalso
        have i1 : (r + 1) * (r + 1) - P1 * P1 = (r + 1 - P1) * (r + 1 + P1) := by grind
        have hp := Int.mul_pos g1 g
        have i2 : 0 ≤ r + 1 + P1 := by
          rcases Int.lt_or_le (r + 1 + P1) 0 with z | z
          · exfalso
            have := Int.mul_nonneg (a := r + 1 - P1) (b := -(r + 1 + P1)) (by omega) (by omega)
            rw [Int.mul_neg] at this
            omega
          · exact z
        have i3 := mul_le_mul' (a := r + 1 - P1) (b := Q) (c := r + 1 + P1) (d := Q1) (by omega) (by omega) i2 (by omega)
        rw [Int.mul_comm Q] at i3
        omega
      · exact y
    · rw [if_neg g1, Int.le_ediv_iff_mul_le (by omega), Int.one_mul]
      have hp := Int.mul_pos (a := -Q1) (b := Q) (by omega) g
      rw [Int.neg_mul] at hp
      have hneg : P1 < -r := by
        rcases Int.lt_or_le P1 (-r) with z | z
        · exact z
        · exfalso
          have := sq_bd (x := P1) (K := r) z b2
          omega
      rcases Int.lt_or_le (-P1 - r - 1) (-Q1) with y | y
      · exfalso
        have i1 : P1 * P1 - r * r = (-P1 - r) * (-P1 + r) := by grind
        have i3 := mul_le_mul' (a := -P1 - r) (b := -Q1) (c := -P1 + r) (d := Q - 1) (by omega) (by omega) (by omega) (by omega)
        rw [show -Q1 * (Q - 1) = -(Q1 * Q) + Q1 by rw [Int.mul_sub, Int.neg_mul]; omega] at i3
        omega
      · exact y
  · rw [if_neg g] at hP1
    obtain ⟨b1, b2, b3, b4⟩ := pq_neg (P := P) (Q := Q) hr h1 h2 (by omega) hP1
    by_cases g1 : 0 < Q1
    · rw [if_pos g1, Int.le_ediv_iff_mul_le g1, Int.one_mul]
      rcases Int.lt_or_le (P1 + r) Q1 with y | y
      · exfalso
        have i1 : P1 * P1 - r * r = (P1 - r) * (P1 + r) := by grind
        have i3 := mul_le_mul' (a := P1 - r) (b := -Q) (c := P1 + r) (d := Q1 - 1) (by omega) (by omega) (by omega) (by omega)
        rw [show -Q * (Q1 - 1) = -(Q1 * Q) + Q by rw [Int.mul_sub, Int.neg_mul, Int.mul_comm Q]; omega] at i3
        omega
      · exact y
    · exfalso
      have hp := Int.mul_pos (a := -Q1) (b := -Q) (by omega) (by omega)
      rw [Int.neg_mul_neg] at hp
      omega
/-- what the quotients are like -/
def QB (l : List Int) : Prop := ∀ (i : Nat) (x : Int), l[i]? = some x → -10000000 ≤ x ∧ x ≤ 10000000 ∧ (1 ≤ i → 1 ≤ x)
theorem QB.cons {w : Int} {l : List Int} (h1 : -10000000 ≤ w) (h2 : w ≤ 10000000) (h3 : QB l) (h4 : ∀ x, l[0]? = some x → 1 ≤ x) : QB (w :: l) := by
  intro i x h
  match i, h with
  | 0, h =>
    simp at h
    subst h
    exact ⟨h1, h2, fun q => by omega⟩
  | i + 1, h =>
    rw [List.getElem?_cons_succ] at h
    obtain ⟨a, b, c⟩ := h3 i x h
    refine ⟨a, b, fun _ => ?_⟩
    rcases Nat.eq_zero_or_pos i with z | z
    · subst z; exact h4 x h
    · exact c z
theorem repq_QB {e d r : Int} (he : 0 < e) (hd : 0 < d) (hns : nsq d) (hr : 0 ≤ r) (hr2 : r ≤ 20000) (h1 : r * r ≤ e * e * d) (h2 : e * e * d < (r + 1) * (r + 1)) : ∀ (k : Nat) (P Q K : Int), k ≤ 20 → 2 * r + 1 ≤ K → K + 40000 * k ≤ 1000000 → PQ (e * e * d) P Q K → -1200000 ≤ P → P ≤ 1200000 → QB (repq k P e Q d) ∧ ∀ x, (repq k P e Q d)[0]? = some x → x = pqw r P Q := by
  have hne : ∀ x : Int, e * e * d - x * x ≠ 0 := fun x h => nc_ne (e := x) (b := e) (d := d) (by omega) hns (by omega)
  intro k
  induction k with
  | zero =>
    intro P Q K _ _ _ _ _ _
    have e0 : repq 0 P e Q d = [] := by unfold repq ql; split <;> rfl
    rw [e0]
    exact ⟨fun i x h => by simp at h, fun x h => by simp at h⟩
  | succ k ih =>
    intro P Q K hk hK hK2 hPQ p1 p2
    obtain ⟨P1, Q1, a1, a2, a3, a4, a5⟩ := pq_next hr h1 h2 hne hK hPQ
    rw [repq_step he hd hns hr h1 h2 hPQ.1 a1 a2 a3.1]
    obtain ⟨i1, i2⟩ := ih P1 Q1 (K + 2 * r) (by omega) (by omega) (by omega) a3 (by omega) (by omega)
    obtain ⟨w1, w2⟩ := pqw_bd (K := 1200000) hr (by omega) hPQ.1 a1 (by omega) (by omega) p1 p2
    refine ⟨QB.cons (by omega) (by omega) i1 ?_, ?_⟩
    · intro x hx
      rw [i2 x hx]
      exact pqw_1 hr h1 h2 hPQ.1 a1 a2 a3.1
    · intro x hx
      simp at hx
      exact hx.symm
/-- the start: (a + b times the root of d) / c -/
theorem repq_start {k : Nat} {a b c d : Int} (hc : 0 < c) (hd : 0 < d) (hb : b ≠ 0) (hns : nsq d) : repq k (if 0 < b then a * c else -a * c) ((if 0 < b then b else -b) * c) (if 0 < b then c * c else -c * c) d = ql k a b c d := by
  have hcc := Int.mul_pos hc hc
  unfold repq
  by_cases g : 0 < b
  · rw [if_pos g, if_pos g, if_pos g, if_pos hcc, Int.mul_comm a, Int.mul_comm b]
    exact ql_scale hc hc hd (fun _ => hns)
  · rw [if_neg g, if_neg g, if_neg g, if_neg (by rw [Int.neg_mul]; omega)]
    rw [show -(-a * c) = c * a by rw [Int.neg_mul, Int.mul_comm a]; omega, show -(-b * c) = c * b by rw [Int.neg_mul, Int.mul_comm b]; omega, show -(-c * c) = c * c by rw [Int.neg_mul]; omega]
    exact ql_scale hc hc hd (fun _ => hns)
/-- fractions -/
theorem ql_0 {k : Nat} {a c d : Int} (hc : 0 < c) : ql (k + 1) a 0 c d = if a % c = 0 then [a / c] else a / c :: ql k c 0 (a % c) d := by
  have e : a - a / c * c = a % c := by
    have := Int.emod_add_mul_ediv a c
    rw [Int.mul_comm] at this
    omega
  rw [ql, whl_0, e, if_pos rfl]
  by_cases g : a % c = 0
  · rw [if_pos ⟨g, rfl⟩, if_pos g]
  · rw [if_neg (fun h => g h.1), if_neg g]
theorem ql0_QB {d : Int} : ∀ (k : Nat) (a c : Int), 0 < c → c ≤ 1000 → -1000 ≤ a → a ≤ 1000 → QB (ql k a 0 c d) ∧ ∀ x, (ql k a 0 c d)[0]? = some x → x = a / c := by
  intro k
  induction k with
  | zero =>
    intro a c _ _ _ _
    exact ⟨fun i x h => by simp [ql] at h, fun x h => by simp [ql] at h⟩
  | succ k ih =>
    intro a c hc hc2 ha ha2
    rw [ql_0 hc]
    have hd := ed_rng (a := a) (b := c) (k := 1000) hc (by omega) ha ha2
    have m1 := Int.emod_nonneg a (show c ≠ 0 by omega)
    have m2 := Int.emod_lt_of_pos a hc
    by_cases g : a % c = 0
    · rw [if_pos g]
      refine ⟨?_, fun x hx => by simp at hx; exact hx.symm⟩
      exact QB.cons (by omega) (by omega) (fun i x h => by simp at h) (fun x h => by simp at h)
    · rw [if_neg g]
      obtain ⟨i1, i2⟩ := ih c (a % c) (by omega) (by omega) (by omega) (by omega)
      refine ⟨QB.cons (by omega) (by omega) i1 ?_, fun x hx => by simp at hx; exact hx.symm⟩
      intro x hx
      rw [i2 x hx, Int.le_ediv_iff_mul_le (by omega)]
      omega
