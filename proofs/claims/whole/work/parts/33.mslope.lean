/-! THE MODEL'S SLOPES: side, wholeOf -/
/-- a slope as it may be: (A + B times the root of D) / C, above 0 and at most 20 -/
def SL (A B C D : Int) : Prop := -1000 ≤ A ∧ A ≤ 1000 ∧ -20 ≤ B ∧ B ≤ 20 ∧ 1 ≤ C ∧ C ≤ 100 ∧ 2 ≤ D ∧ D ≤ 50 ∧ (B ≠ 0 → nsq D) ∧ (B = 0 → D = 2) ∧ sg A B D = 1 ∧ sg (A - 20 * C) B D ≤ 0
/-- the model holds slope s -/
def MS (MA : Nat → Nat → Int32) (s : Nat) (A B C D : Int) : Prop := MA 0 s = iO A ∧ MA 1 s = iO B ∧ MA 2 s = iO C ∧ MA 3 s = iO D
section MSL
variable {sc : en_S} {n : Nat} {XI : Nat → Int32} {XA : Nat → Nat → Int32} {XP : Nat → Nat → Option Nat} {XC : Value} {MI : Nat → Int32} {MA : Nat → Nat → Int32} {ML : Nat → Nat → Int64} {D0 : en_H} {A B C D : Int} {s : Nat}
theorem e_side (hs : s < 8) (hM : MS MA s A B C D) (hS : SL A B C D) {N m q : Int} (h1 : i64 (q * A * N - m * C)) (h2 : i64 (q * B * N)) (h3 : i64 ((q * A * N - m * C) * (q * A * N - m * C))) (h4 : i64 (q * B * N * (q * B * N) * D)) :
    f_X12_side sc (n + 2) 26 (iO s) (lO N) (lO m) (lO q) (hp XI XA XP XC MI MA ML D0) = some (some (.int (iO (sg (q * A * N - m * C) (q * B * N) D))), hp XI XA XP XC MI MA ML D0) := by
  obtain ⟨m0, m1, m2, m3⟩ := hM
  obtain ⟨a1, a2, b1, b2, c1, c2, d1, d2, -⟩ := hS
  have hix : en_ix (iO (s : Int)) 8 := (iO_ix (by unfold i32; omega)).mpr (by omega)
  have hna : (iO (s : Int)).toNatClampNeg = s := by rw [iO_nat (by omega) (by unfold i32; omega)]; omega
  rw [e_X12_side]
  simp only [hp_g_26_3, hp_g_26_4, hp_g_26_5, hp_g_26_6, hp_a_27, hp_a_28, hp_a_29, hp_a_30, if_pos hix, hna, m0, m1, m2, m3]
  rw [iO_wide (by unfold i32; omega), iO_wide (by unfold i32; omega), iO_wide (by unfold i32; omega), iO_wide (by unfold i32; omega)]
  simp only [lO_mul, lO_sub]
  rw [e_sign h1 h2 h3 h4]
  rfl
end MSL
