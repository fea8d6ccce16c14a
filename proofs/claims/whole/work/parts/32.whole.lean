/-! THE WHOLE of (x + y times the root of d) / m -/
theorem isq_ex : ∀ n : Nat, ∃ r : Nat, r * r ≤ n ∧ n < (r + 1) * (r + 1)
  | 0 => ⟨0, by decide, by decide⟩
  | n + 1 => by
    obtain ⟨r, h1, h2⟩ := isq_ex n
    by_cases g : n + 1 < (r + 1) * (r + 1)
    · exact ⟨r, by omega, g⟩
    · refine ⟨r + 1, by omega, ?_⟩
      have : (r + 1 + 1) * (r + 1 + 1) = (r + 1) * (r + 1) + 2 * (r + 1) + 1 := by
        simp only [Nat.add_mul, Nat.mul_add]
        omega
      omega
noncomputable def isq (n : Nat) : Nat := Classical.choose (isq_ex n)
theorem isq_le (n : Nat) : isq n * isq n ≤ n := (Classical.choose_spec (isq_ex n)).1
theorem isq_lt (n : Nat) : n < (isq n + 1) * (isq n + 1) := (Classical.choose_spec (isq_ex n)).2
/-- the greatest whole number that is not above y times the root of d -/
noncomputable def fl (y d : Int) : Int := if 0 ≤ y then (isq (y * y * d).toNat : Int) else -(isq (y * y * d).toNat : Int) - 1
theorem isq_int {m : Int} (h : 0 ≤ m) : (isq m.toNat : Int) * isq m.toNat ≤ m ∧ m < ((isq m.toNat : Int) + 1) * ((isq m.toNat : Int) + 1) := by
  have h1 := isq_le m.toNat
  have h2 := isq_lt m.toNat
  constructor
  · have : ((isq m.toNat * isq m.toNat : Nat) : Int) ≤ (m.toNat : Int) := by omega
    rw [Int.natCast_mul] at this
    omega
  · have : (m.toNat : Int) < (((isq m.toNat + 1) * (isq m.toNat + 1) : Nat) : Int) := by omega
    rw [Int.natCast_mul, Int.natCast_add] at this
    have this : (m.toNat : Int) < ((isq m.toNat : Int) + 1) * ((isq m.toNat : Int) + 1) := this
    omega
theorem nn_fl {x y d : Int} (hd : 0 < d) (hn : 0 ≤ y ∨ nsq d) : nn x y d ↔ -fl y d ≤ x := by
  have hq : 0 ≤ y * y * d := Int.mul_nonneg (sq_nn y) (by omega)
  obtain ⟨h1, h2⟩ := isq_int hq
  unfold fl
  have hr0 : (0 : Int) ≤ (isq (y * y * d).toNat : Int) := by omega
  generalize hr : (isq (y * y * d).toNat : Int) = r at *
  by_cases hy : 0 ≤ y
  · rw [if_pos hy]
    constructor
    · intro h
      rcases h with ⟨-, h | h⟩ | ⟨h, -⟩
      · omega
      · rcases Int.lt_or_le x (-r) with g | g
        · exfalso
          have := rt_mono (a := r + 1) (b := -x) (by omega) (by omega)
          rw [sq_neg] at this
          omega
        · exact g
      · omega
    · intro h
      refine Or.inl ⟨hy, ?_⟩
      rcases Int.lt_or_le x 0 with g | g
      · right
        have := rt_mono (a := -x) (b := r) (by omega) (by omega)
        rw [sq_neg] at this
        omega
      · exact Or.inl g
  · rw [if_neg hy]
    have hns := hn.resolve_left hy
    have hne : r * r ≠ y * y * d := by
      have := nsq_no hns (-y).toNat (-y) r (by omega) (by omega) hr0
      rwa [sq_neg] at this
    constructor
    · intro h
      rcases h with ⟨h, -⟩ | ⟨-, h3, h4⟩
      · omega
      · rcases Int.lt_or_le x (r + 1) with g | g
        · exfalso
          have := rt_mono (a := x) (b := r) h3 (by omega)
          omega
        · omega
    · intro h
      refine Or.inr ⟨by omega, by omega, ?_⟩
      have := rt_mono (a := r + 1) (b := x) (by omega) (by omega)
      omega
/-- the whole of (x + y times the root of d) / m -/
noncomputable def whl (x y d m : Int) : Int := (x + fl y d) / m
theorem whl_iff {x y d m k : Int} (hd : 0 < d) (hn : 0 ≤ y ∨ nsq d) (hm : 0 < m) : nn (x - k * m) y d ↔ k ≤ whl x y d m := by
  rw [nn_fl hd hn, whl, Int.le_ediv_iff_mul_le hm]
  omega
theorem whl_uniq {x y d m k : Int} (hd : 0 < d) (hn : 0 ≤ y ∨ nsq d) (hm : 0 < m) (h1 : nn (x - k * m) y d) (h2 : ¬ nn (x - (k + 1) * m) y d) : whl x y d m = k := by
  rw [whl_iff hd hn hm] at h1 h2
  omega
