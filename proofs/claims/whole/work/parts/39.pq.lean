/-! NUMBERS (P + the root of n) / Q on the way: they stay small -/
theorem mul_le_mul' {a b c d : Int} (ha : 0 ≤ a) (h1 : a ≤ b) (hc : 0 ≤ c) (h2 : c ≤ d) : a * c ≤ b * d := Int.mul_le_mul h1 h2 hc (by omega)
theorem pq_pos {n r P Q : Int} (hr : 0 ≤ r) (h1 : r * r ≤ n) (h2 : n < (r + 1) * (r + 1)) (hQ : 0 < Q) {P1 : Int} (hP : P1 = (P + r) / Q * Q - P) : r - Q < P1 ∧ P1 ≤ r ∧ -(Q * Q) ≤ n - P1 * P1 ∧ n - P1 * P1 < Q * (2 * r + 1) := by
  have e1 := Int.emod_add_mul_ediv (P + r) Q
  have e2 := Int.emod_nonneg (P + r) (show Q ≠ 0 by omega)
  have e3 := Int.emod_lt_of_pos (P + r) hQ
  rw [Int.mul_comm Q] at e1
  have a1 : r - Q < P1 := by omega
  have a2 : P1 ≤ r := by omega
  refine ⟨a1, a2, ?_, ?_⟩
  · have i1 : r * r - P1 * P1 = (r - P1) * (r + P1) := by grind
    rcases Int.lt_or_le (r + P1) 0 with g | g
    · have := mul_le_mul' (a := r - P1) (b := Q) (c := -(r + P1)) (d := Q) (by omega) (by omega) (by omega) (by omega)
      rw [Int.mul_neg] at this
      omega
    · have := Int.mul_nonneg (a := r - P1) (b := r + P1) (by omega) g
      have := Int.mul_pos hQ hQ
      omega
  · have i1 : (r + 1) * (r + 1) - P1 * P1 = (r + 1 - P1) * (r + 1 + P1) := by grind
    rcases Int.lt_or_le (r + 1 + P1) 0 with g | g
    · have := Int.mul_nonneg (a := r + 1 - P1) (b := -(r + 1 + P1)) (by omega) (by omega)
      rw [Int.mul_neg] at this
      have := Int.mul_pos hQ (show 0 < 2 * r + 1 by omega)
      omega
    · have := mul_le_mul' (a := r + 1 - P1) (b := Q) (c := r + 1 + P1) (d := 2 * r + 1) (by omega) (by omega) g (by omega)
      omega
theorem pq_neg {n r P Q : Int} (hr : 0 ≤ r) (h1 : r * r ≤ n) (h2 : n < (r + 1) * (r + 1)) (hQ : Q < 0) {P1 : Int} (hP : P1 = (-P - r - 1) / (-Q) * Q - P) : r < P1 ∧ P1 ≤ r - Q ∧ n - P1 * P1 < 0 ∧ Q * (2 * r - Q) ≤ n - P1 * P1 := by
  have e1 := Int.emod_add_mul_ediv (-P - r - 1) (-Q)
  have e2 := Int.emod_nonneg (-P - r - 1) (show -Q ≠ 0 by omega)
  have e3 := Int.emod_lt_of_pos (-P - r - 1) (show 0 < -Q by omega)
  rw [Int.mul_comm (-Q), Int.mul_neg] at e1
  have a1 : r < P1 := by omega
  have a2 : P1 ≤ r - Q := by omega
  refine ⟨a1, a2, ?_, ?_⟩
  · have := rt_mono (a := r + 1) (b := P1) (by omega) (by omega)
    omega
  · have i1 : P1 * P1 - r * r = (P1 - r) * (P1 + r) := by grind
    have := mul_le_mul' (a := P1 - r) (b := -Q) (c := P1 + r) (d := 2 * r - Q) (by omega) (by omega) (by omega) (by omega)
    rw [Int.neg_mul] at this
    omega
/-- the whole that is taken: of (P + the root of n) / Q -/
def pqw (r P Q : Int) : Int := if 0 < Q then (P + r) / Q else (-P - r - 1) / (-Q)
/-- what holds of P and Q on the way -/
def PQ (n P Q K : Int) : Prop := Q ≠ 0 ∧ Q ∣ n - P * P ∧ -K ≤ Q ∧ Q ≤ K
theorem pq_next {n r P Q K : Int} (hr : 0 ≤ r) (h1 : r * r ≤ n) (h2 : n < (r + 1) * (r + 1)) (hne : ∀ x : Int, n - x * x ≠ 0) (hK : 2 * r + 1 ≤ K) (h : PQ n P Q K) :
    ∃ P1 Q1, P1 = pqw r P Q * Q - P ∧ Q1 * Q = n - P1 * P1 ∧ PQ n P1 Q1 (K + 2 * r) ∧ -(r + K) ≤ P1 ∧ P1 ≤ r + K := by
  obtain ⟨q0, ⟨m, hm⟩, k1, k2⟩ := h
  refine ⟨pqw r P Q * Q - P, m - (pqw r P Q * pqw r P Q * Q - 2 * pqw r P Q * P), rfl, ?_, ?_⟩
  · generalize pqw r P Q = w
    grind
  have hQ1 : (m - (pqw r P Q * pqw r P Q * Q - 2 * pqw r P Q * P)) * Q = n - (pqw r P Q * Q - P) * (pqw r P Q * Q - P) := by
    generalize pqw r P Q = w
    grind
  generalize hX : m - (pqw r P Q * pqw r P Q * Q - 2 * pqw r P Q * P) = Q1 at *
  have hn0 := hne (pqw r P Q * Q - P)
  have hq1 : Q1 ≠ 0 := by
    intro g
    rw [g, Int.zero_mul] at hQ1
    exact hn0 hQ1.symm
  have hdv : Q1 ∣ n - (pqw r P Q * Q - P) * (pqw r P Q * Q - P) := ⟨Q, hQ1.symm⟩
  unfold pqw at *
  by_cases g : 0 < Q
  · rw [if_pos g] at *
    obtain ⟨b1, b2, b3, b4⟩ := pq_pos (P := P) (Q := Q) hr h1 h2 g rfl
    generalize (P + r) / Q * Q - P = P1 at *
    refine ⟨⟨hq1, hdv, ?_, ?_⟩, by omega, by omega⟩
    · rcases Int.lt_or_le Q1 (-Q) with y | y
      · exfalso
        have : Q1 * Q ≤ (-Q - 1) * Q := Int.mul_le_mul_of_nonneg_right (by omega) (by omega)
        have e : (-Q - 1) * Q = -(Q * Q) - Q := by grind
        omega
      · omega
    · rcases Int.lt_or_le (2 * r + 1) Q1 with y | y
      · exfalso
        have : (2 * r + 1) * Q ≤ Q1 * Q := Int.mul_le_mul_of_nonneg_right (by omega) (by omega)
        rw [Int.mul_comm Q] at b4
        omega
      · omega
  · rw [if_neg g] at *
    obtain ⟨b1, b2, b3, b4⟩ := pq_neg (P := P) (Q := Q) hr h1 h2 (by omega) rfl
    generalize (-P - r - 1) / (-Q) * Q - P = P1 at *
    refine ⟨⟨hq1, hdv, ?_, ?_⟩, by omega, by omega⟩
    · rcases Int.lt_or_le Q1 0 with y | y
      · exfalso
        have := Int.mul_pos (a := -Q1) (b := -Q) (by omega) (by omega)
        rw [Int.neg_mul_neg] at this
        omega
      · omega
    · rcases Int.lt_or_le (2 * r - Q) Q1 with y | y
      · exfalso
        have : (2 * r - Q + 1) * (-Q) ≤ Q1 * (-Q) := Int.mul_le_mul_of_nonneg_right (by omega) (by omega)
        have e : (2 * r - Q + 1) * (-Q) = -(Q * (2 * r - Q)) - Q := by grind
        rw [Int.mul_neg Q1] at this
        omega
      · omega
