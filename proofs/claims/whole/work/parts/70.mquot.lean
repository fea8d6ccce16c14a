/-! THE MODEL's quotients -/
section MQT
variable {sc : en_S} {n : Nat} {XI : Nat → Int32} {XA : Nat → Nat → Int32} {XP : Nat → Nat → Option Nat} {XC : Value} {MI : Nat → Int32} {MA : Nat → Nat → Int32} {D0 : en_H}
/-- lowest terms, and on -/
theorem m_q9 {x y w D : Int} {mo : Int32} {ML : Nat → Nat → Int64} (hx : -4000000000000 < x) (hx2 : x < 4000000000000) (hy : -4000000000000 < y) (hy2 : y < 4000000000000) (hw : 0 < w) (hw2 : w < 4000000000000) : ∃ g x2 y2 w2 : Int, 0 < g ∧ g = ((Int.gcd (Int.gcd x y : Nat) w : Nat) : Int) ∧ x = x2 * g ∧ y = y2 * g ∧ w = w2 * g ∧ b_X12_quotientsOf_9 sc (n + 1) 26 (lO D) mo (lO x) (lO y) (lO w) (hp XI XA XP XC MI MA ML D0) = b_X12_quotientsOf_1 sc (n + 1) 26 (lO x2) (lO y2) (lO w2) (lO D) mo (hp XI XA XP XC MI MA ML D0) := by
  have g1 : ((Int.gcd (Int.gcd x y : Nat) w : Nat) : Int) ∣ ((Int.gcd x y : Nat) : Int) := Int.gcd_dvd_left _ _
  have g2 : ((Int.gcd (Int.gcd x y : Nat) w : Nat) : Int) ∣ w := Int.gcd_dvd_right _ _
  have g3 : ((Int.gcd x y : Nat) : Int) ∣ x := Int.gcd_dvd_left _ _
  have g4 : ((Int.gcd x y : Nat) : Int) ∣ y := Int.gcd_dvd_right _ _
  obtain ⟨x2, h1⟩ := Int.dvd_trans g1 g3
  obtain ⟨y2, h2⟩ := Int.dvd_trans g1 g4
  obtain ⟨w2, h3⟩ := g2
  have hxy : ((Int.gcd x y : Nat) : Int) < 4000000000001 := by
    have h0 : Int.gcd x y = Nat.gcd x.natAbs y.natAbs := rfl
    rcases Nat.eq_zero_or_pos x.natAbs with z | z
    · rw [h0, z, Nat.gcd_zero_left]; omega
    · have := Nat.gcd_le_left y.natAbs z
      rw [h0]; omega
  have c1 := m_common (sc := sc) (n := n) (a := x) (b := y) (z := hp XI XA XP XC MI MA ML D0) (by omega) (by omega) (by omega) (by omega)
  have c2 := m_common (sc := sc) (n := n) (a := ((Int.gcd x y : Nat) : Int)) (b := w) (z := hp XI XA XP XC MI MA ML D0) (by omega) (by omega) (by omega) (by omega)
  have hg : 0 < ((Int.gcd (Int.gcd x y : Nat) w : Nat) : Int) := by
    rcases Nat.eq_zero_or_pos (Int.gcd (Int.gcd x y : Nat) w) with h | h
    · rw [h] at h3
      have : w = 0 := by rw [h3]; exact Int.zero_mul _
      omega
    · omega
  have hgw : ((Int.gcd (Int.gcd x y : Nat) w : Nat) : Int) < 4000000000001 := by
    rw [h3] at hw hw2
    have w2p := Int.pos_of_mul_pos_right hw hg
    have := mul_le_mul' (a := ((Int.gcd (Int.gcd x y : Nat) w : Nat) : Int)) (b := ((Int.gcd (Int.gcd x y : Nat) w : Nat) : Int)) (c := 1) (d := w2) (by omega) (by omega) (by omega) (by omega)
    sorry
  sorry
end MQT
