/-! FLOORS of x + y times the root of d -/
theorem nn_scale {g x y d : Int} (hg : 0 < g) : nn (g * x) (g * y) d ↔ nn x y d := by
  have e1 : g * x * (g * x) = g * g * (x * x) := by simp only [Int.mul_assoc, Int.mul_left_comm]
  have e2 : g * y * (g * y) * d = g * g * (y * y * d) := by simp only [Int.mul_assoc, Int.mul_left_comm]
  have hgg : 0 < g * g := Int.mul_pos hg hg
  have a1 : 0 ≤ g * x ↔ 0 ≤ x := by
    constructor
    · intro h
      rcases Int.lt_or_le x 0 with q | q
      · have := Int.mul_pos hg (b := -x) (by omega)
        rw [Int.mul_neg] at this
        omega
      · exact q
    · intro h; exact Int.mul_nonneg (by omega) h
  have a2 : 0 ≤ g * y ↔ 0 ≤ y := by
    constructor
    · intro h
      rcases Int.lt_or_le y 0 with q | q
      · have := Int.mul_pos hg (b := -y) (by omega)
        rw [Int.mul_neg] at this
        omega
      · exact q
    · intro h; exact Int.mul_nonneg (by omega) h
  have a3 : g * y < 0 ↔ y < 0 := by omega
  have a4 : ∀ p q : Int, g * g * p ≤ g * g * q ↔ p ≤ q := fun p q => ⟨fun h => Int.le_of_mul_le_mul_left h hgg, fun h => Int.mul_le_mul_of_nonneg_left h (by omega)⟩
  unfold nn
  rw [e1, e2, a1, a2, a3, a4, a4]
theorem nn_sq {t x y d : Int} (ht : 0 < t) : nn x y (d * (t * t)) ↔ nn x (y * t) d := by
  have e2 : y * t * (y * t) * d = y * y * (d * (t * t)) := by simp only [Int.mul_assoc, Int.mul_left_comm, Int.mul_comm]
  have a2 : 0 ≤ y * t ↔ 0 ≤ y := by
    constructor
    · intro h
      rcases Int.lt_or_le y 0 with q | q
      · have := Int.mul_pos (a := -y) (b := t) (by omega) ht
        rw [Int.neg_mul] at this
        omega
      · exact q
    · intro h; exact Int.mul_nonneg h (by omega)
  have a3 : y * t < 0 ↔ y < 0 := by omega
  unfold nn
  rw [e2, a2, a3]
theorem nn_up {x y d e : Int} (hd : 0 ≤ d) (h : nn x y d) (he : 0 ≤ e) : nn (x + e) y d := by
  have := nn_add hd h (show nn e 0 d from Or.inl ⟨by omega, Or.inl he⟩)
  rwa [Int.add_zero] at this
/-- d lies between two squares -/
def nsq (d : Int) : Prop := ∃ k : Int, 0 ≤ k ∧ k * k < d ∧ d < (k + 1) * (k + 1)
/-- the root of such a d is no fraction -/
theorem nsq_no {d : Int} (h : nsq d) : ∀ (n : Nat) (y r : Int), 0 < y → y ≤ n → 0 ≤ r → r * r ≠ y * y * d := by
  obtain ⟨k, hk0, hk1, hk2⟩ := h
  intro n
  induction n with
  | zero => intro y r h1 h2; omega
  | succ n ih =>
    intro y r hy hyn hr e
    have hd : 0 < d := by have := sq_nn k; omega
    -- k y < r < (k + 1) y
    have l1 : k * y < r := by
      apply rt_lt hr
      rw [e, show k * y * (k * y) = y * y * (k * k) by simp only [Int.mul_assoc, Int.mul_left_comm, Int.mul_comm]]
      exact Int.mul_lt_mul_of_pos_left hk1 (Int.mul_pos hy hy)
    have l2 : r < (k + 1) * y := by
      apply rt_lt (Int.mul_nonneg (by omega) (by omega))
      rw [e, show (k + 1) * y * ((k + 1) * y) = y * y * ((k + 1) * (k + 1)) by simp only [Int.mul_assoc, Int.mul_left_comm, Int.mul_comm]]
      exact Int.mul_lt_mul_of_pos_left hk2 (Int.mul_pos hy hy)
    rw [Int.add_mul, Int.one_mul] at l2
    have hr2 : 0 ≤ d * y - k * r := by
      -- k r ≤ d y, since k r y ≤ r r = d y y
      rcases Int.lt_or_le (d * y - k * r) 0 with g | g
      · exfalso
        have g1 : (d * y - k * r) * y < 0 := by
          have := Int.mul_pos (a := -(d * y - k * r)) (b := y) (by omega) hy
          rw [Int.neg_mul] at this
          omega
        have g2 : r * (k * y) ≤ r * r := Int.mul_le_mul_of_nonneg_left (by omega) hr
        have e1 : (d * y - k * r) * y = y * y * d - r * (k * y) := by
          rw [Int.sub_mul]
          congr 1 <;> simp only [Int.mul_assoc, Int.mul_left_comm, Int.mul_comm]
        omega
      · exact g
    refine ih (r - k * y) (d * y - k * r) (by omega) (by omega) hr2 ?_
    have q1 : (d * y - k * r) * (d * y - k * r) = d * (y * y * d) - 2 * (d * k * (y * r)) + k * k * (r * r) := by
      have s1 := sq_add (d * y) (-(k * r))
      rw [show d * y - k * r = d * y + -(k * r) by omega, s1, sq_neg]
      have t1 : d * y * (d * y) = d * (y * y * d) := by simp only [Int.mul_assoc, Int.mul_left_comm, Int.mul_comm]
      have t2 : d * y * -(k * r) = -(d * k * (y * r)) := by rw [Int.mul_neg]; congr 1; simp only [Int.mul_assoc, Int.mul_left_comm, Int.mul_comm]
      have t3 : k * r * (k * r) = k * k * (r * r) := by simp only [Int.mul_assoc, Int.mul_left_comm, Int.mul_comm]
      rw [t1, t2, t3]
      omega
    have q2 : (r - k * y) * (r - k * y) * d = d * (r * r) - 2 * (d * k * (y * r)) + k * k * (y * y * d) := by
      have s1 := sq_add r (-(k * y))
      rw [show r - k * y = r + -(k * y) by omega, s1, sq_neg, Int.add_mul, Int.add_mul]
      have t1 : r * r * d = d * (r * r) := Int.mul_comm _ _
      have t2 : 2 * (r * -(k * y)) * d = -(2 * (d * k * (y * r))) := by
        rw [Int.mul_neg, Int.mul_neg, Int.neg_mul]; congr 1; simp only [Int.mul_assoc, Int.mul_left_comm, Int.mul_comm]
      have t3 : k * y * (k * y) * d = k * k * (y * y * d) := by simp only [Int.mul_assoc, Int.mul_left_comm, Int.mul_comm]
      rw [t1, t2, t3]
      omega
    rw [q1, q2, e]
