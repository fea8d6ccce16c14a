/-! share: roots of unlike numbers that no square divides are no multiples of each other -/
theorem sqfl_prod0 : ∀ d ∈ sqfl, ∀ e ∈ sqfl, d ≠ e → ∃ k : Nat, k < 48 ∧ ((k : Int) * k < d * e ∧ d * e < ((k : Int) + 1) * (k + 1)) := by decide +kernel
theorem sqfl_prod {d e : Int} (hd : d ∈ sqfl) (he : e ∈ sqfl) (h : d ≠ e) : nsq (d * e) := by
  obtain ⟨k, -, h1, h2⟩ := sqfl_prod0 d hd e he h
  exact ⟨k, by omega, h1, h2⟩
/-- x times the root of d is y times the root of e only if d is e -/
theorem sqfl_one {d e x y : Int} (hd : d ∈ sqfl) (he : e ∈ sqfl) (hx : x ≠ 0) (hy : y ≠ 0) (h : x * x * d = y * y * e) : d = e := by
  rcases Int.lt_or_gt_of_ne (show (x * d) ≠ 0 from fun q => by
    rcases Int.mul_eq_zero.mp q with z | z
    · exact hx z
    · have := sqfl_ok d hd; omega) with _ | _
  all_goals
    by_cases g : d = e
    · exact g
    · exfalso
      have key := nc_ne (e := x * d) (b := y) (d := d * e) hy (sqfl_prod hd he g)
      apply key
      have : x * d * (x * d) = x * x * d * d := by grind
      rw [this, h]
      grind
