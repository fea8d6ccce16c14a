/-! THE SIGN of x + y times the root of d: both sides' methods answer it -/
def sg (x y d : Int) : Int :=
  if y = 0 then (if 0 < x then 1 else if x < 0 then -1 else 0)
  else if 0 < y then (if 0 ≤ x then 1 else if x * x < y * y * d then 1 else if x * x = y * y * d then 0 else -1)
  else (if x ≤ 0 then -1 else if y * y * d < x * x then 1 else if x * x = y * y * d then 0 else -1)
theorem sg_range (x y d : Int) : sg x y d = -1 ∨ sg x y d = 0 ∨ sg x y d = 1 := by
  unfold sg
  repeat' split
  all_goals simp
theorem sg_neg (x y d : Int) : sg (-x) (-y) d = -sg x y d := by
  unfold sg
  rw [sq_neg, sq_neg]
  generalize x * x = P
  generalize y * y * d = Q
  repeat' split
  all_goals omega
theorem sq_pos {y d : Int} (hy : y ≠ 0) (hd : 0 < d) : 0 < y * y * d := by
  apply Int.mul_pos _ hd
  rcases Int.lt_or_gt_of_ne hy with h | h
  · have := Int.mul_pos (a := -y) (b := -y) (by omega) (by omega)
    rwa [sq_neg] at this
  · exact Int.mul_pos h h
theorem sq_zero {x : Int} (h : x * x ≤ 0) : x = 0 := by
  rcases Int.lt_or_le x 0 with g | g
  · have := Int.mul_pos (a := -x) (b := -x) (by omega) (by omega)
    rw [sq_neg] at this
    omega
  · rcases Int.lt_or_le 0 x with g2 | g2
    · have := Int.mul_pos g2 g2
      omega
    · omega
theorem sg_nn {x y d : Int} (hd : 0 < d) : 0 ≤ sg x y d ↔ nn x y d := by
  have h2 := @sq_zero x
  have h3 : x = 0 → x * x = 0 := fun h => by rw [h]; rfl
  unfold sg nn
  by_cases hy : y = 0
  · subst hy
    have e : (0 : Int) * 0 * d = 0 := by simp
    rw [e]
    generalize x * x = P at *
    simp only [if_true]
    constructor
    · intro h
      repeat' split at h
      all_goals omega
    · intro h
      repeat' split
      all_goals omega
  · have hQ := sq_pos hy hd
    generalize x * x = P at *
    generalize y * y * d = Q at *
    rw [if_neg hy]
    constructor
    · intro h
      repeat' split at h
      all_goals omega
    · intro h
      repeat' split
      all_goals omega
theorem e_sign {sc : en_S} {n : Nat} {x y d : Int} {z : en_H} (hx : i64 x) (hy : i64 y) (hxx : i64 (x * x)) (hyd : i64 (y * y * d)) : f_X12_sign sc (n + 1) (lO x) (lO y) (lO d) z = some (some (.int (iO (sg x y d))), z) := by
  have z0 : (0 : Int64) = lO 0 := rfl
  have h0 : i64 0 := by unfold i64; omega
  have c1 := lO_eq hy h0
  have c2 := lO_le hx h0
  have c3 := lO_le h0 hx
  have c4 := lO_lt hx h0
  have c5 := lO_le hy h0
  have c6 := lO_lt h0 hx
  have c7 := lO_le h0 hy
  have c8 := lO_eq hxx hyd
  have c9 := lO_le hxx hyd
  have k01 : ¬ (0 : Int32) = 1 := by decide
  have k10 : ¬ (1 : Int32) = 0 := by decide
  simp only [e_X12_sign, eb_X12_sign_5, eb_X12_sign_6, eb_X12_sign_9, en_le, lg_cmp_eq, lg_cmp_le, lg_cmp_ge, lg_cmp_gt, lg_cmp_lt, z0, lO_mul, c1, c2, c3, c4, c5, c6, c7, c8, c9, k01, k10, if_false, if_true]
  unfold sg
  generalize x * x = P at *
  generalize y * y * d = Q at *
  repeat' split
  all_goals first | rfl | omega
theorem e_signOf {sc : en_S} {n : Nat} {x y d : Int} {z : en_H} (hx : i64 x) (hy : i64 y) (hxd : i64 (x * x - y * y * d)) : f_X11_signOf sc (n + 1) (lO x) (lO y) (lO d) z = some (some (.int (iO (sg x y d))), z) := by
  have z0 : (0 : Int64) = lO 0 := rfl
  have h0 : i64 0 := by unfold i64; omega
  have c1 := lO_le hx h0
  have c2 := lO_le h0 hx
  have c3 := lO_le hy h0
  have c4 := lO_le h0 hy
  have c5 := lO_le hxd h0
  have c6 := lO_le h0 hxd
  have k1 : ¬ ((0 : Int32) * 0 < 0) := by decide
  have k2 : ¬ ((0 : Int32) * -1 < 0) := by decide
  have k3 : ¬ ((0 : Int32) * 1 < 0) := by decide
  have k4 : ¬ ((-1 : Int32) * 0 < 0) := by decide
  have k5 : ¬ ((-1 : Int32) * -1 < 0) := by decide
  have k6 : ((-1 : Int32) * 1 < 0) := by decide
  have k7 : ¬ ((1 : Int32) * 0 < 0) := by decide
  have k8 : ((1 : Int32) * -1 < 0) := by decide
  have k9 : ¬ ((1 : Int32) * 1 < 0) := by decide
  have n1 : ¬ (-1 : Int32) = 0 := by decide
  have n2 : ¬ (1 : Int32) = 0 := by decide
  simp only [e_X11_signOf, eb_X11_signOf_3, eb_X11_signOf_6, en_le, lg_cmp_le, lg_cmp_ge, z0, lO_mul, lO_sub, c1, c2, c3, c4, c5, c6, k1, k2, k3, k4, k5, k6, k7, k8, k9, n1, n2, if_false, if_true]
  unfold sg
  generalize x * x = P at *
  generalize y * y * d = Q at *
  repeat' split
  all_goals first | rfl | omega
