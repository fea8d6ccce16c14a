/-! THE JDK's own methods -/
theorem xor64 (x y : Int64) : 0 ≤ x ^^^ y ↔ (0 ≤ x.toInt ↔ 0 ≤ y.toInt) := by
  have h1 : ∀ w : Int64, w.toBitVec.msb = decide (w.toInt < 0) := fun w => BitVec.msb_eq_toInt
  have h2 : 0 ≤ x ^^^ y ↔ 0 ≤ (x ^^^ y).toInt := by rw [Int64.le_iff_toInt_le]; rfl
  rw [h2]
  have h3 := h1 (x ^^^ y)
  rw [Int64.toBitVec_xor, BitVec.msb_xor, h1 x, h1 y] at h3
  by_cases a : x.toInt < 0 <;> by_cases b : y.toInt < 0 <;> by_cases c : (x ^^^ y).toInt < 0 <;> simp [a, b, c] at h3 <;> omega
theorem xor32 (x y : Int32) : 0 ≤ x ^^^ y ↔ (0 ≤ x.toInt ↔ 0 ≤ y.toInt) := by
  have h1 : ∀ w : Int32, w.toBitVec.msb = decide (w.toInt < 0) := fun w => BitVec.msb_eq_toInt
  have h2 : 0 ≤ x ^^^ y ↔ 0 ≤ (x ^^^ y).toInt := by rw [Int32.le_iff_toInt_le]; rfl
  rw [h2]
  have h3 := h1 (x ^^^ y)
  rw [Int32.toBitVec_xor, BitVec.msb_xor, h1 x, h1 y] at h3
  by_cases a : x.toInt < 0 <;> by_cases b : y.toInt < 0 <;> by_cases c : (x ^^^ y).toInt < 0 <;> simp [a, b, c] at h3 <;> omega
/-- division toward 0, by what is above 0 -/
theorem td_pos {a b : Int} (hb : 0 < b) : (0 ≤ a → a.tdiv b = a / b) ∧ (a < 0 → a.tdiv b = -((-a) / b)) := by
  constructor
  · intro h; exact Int.tdiv_eq_ediv_of_nonneg h
  · intro h
    have := Int.tdiv_eq_ediv_of_nonneg (a := -a) (b := b) (by omega)
    rw [Int.neg_tdiv] at this
    omega
theorem ed_rng {a b k : Int} (hb : 0 < b) (hk : 0 ≤ k) (h1 : -k ≤ a) (h2 : a ≤ k) : -k ≤ a / b ∧ a / b ≤ k := by
  have e1 := Int.mul_ediv_add_emod a b
  have e2 := Int.emod_nonneg a (by omega : b ≠ 0)
  have e3 := Int.emod_lt_of_pos a hb
  constructor
  · rcases Int.lt_or_le (a / b) (-k) with g | g
    · have : b * (a / b) ≤ 1 * (a / b) := by
        have h := Int.mul_le_mul_of_nonneg_right (a := 1) (b := b) (c := -(a / b)) (by omega) (by omega)
        rw [Int.mul_neg, Int.mul_neg] at h
        omega
      have h6 : b * (a / b + 1) ≤ 1 * (a / b + 1) := by
        have h := Int.mul_le_mul_of_nonneg_right (a := 1) (b := b) (c := -(a / b + 1)) (by omega) (by omega)
        rw [Int.mul_neg, Int.mul_neg] at h
        omega
      rw [Int.mul_add] at h6
      omega
    · exact g
  · rcases Int.lt_or_le k (a / b) with g | g
    · have : 1 * (a / b) ≤ b * (a / b) := Int.mul_le_mul_of_nonneg_right (by omega) (by omega)
      omega
    · exact g
theorem e_floorDivL {sc : en_S} {n : Nat} {a b : Int} {z : en_H} (ha : i64 a) (ha2 : a ≠ -9223372036854775808) (hb : i64 b) (hb0 : 0 < b) : f_J9_floorDiv_f86c9 sc (n + 1) (lO a) (lO b) z = some (some (.long (lO (a / b))), z) := by
  have z0 : (0 : Int64) = lO 0 := rfl
  have h1 : (1 : Int64) = lO 1 := rfl
  have h0 : i64 0 := by unfold i64; omega
  have hne : ¬ lO b = 0 := by rw [z0, lO_eq hb h0]; omega
  unfold i64 at ha hb
  have hr := ed_rng (k := 9223372036854775807) hb0 (by omega) (by omega : -9223372036854775807 ≤ a) (by omega)
  obtain ⟨t1, t2⟩ := td_pos (a := a) hb0
  have hr2 := ed_rng (a := -a) (k := 9223372036854775807) hb0 (by omega) (by omega) (by omega)
  have e1 := Int.mul_ediv_add_emod a b
  have e2 := Int.emod_nonneg a (by omega : b ≠ 0)
  have e3 := Int.emod_lt_of_pos a hb0
  have g1 := Int.mul_ediv_add_emod (-a) b
  have g2 := Int.emod_nonneg (-a) (by omega : b ≠ 0)
  have g3 := Int.emod_lt_of_pos (-a) hb0
  have htd : i64 (a.tdiv b) := by
    unfold i64
    rcases Int.lt_or_le a 0 with h | h
    · rw [t2 h]; omega
    · rw [t1 h]; omega
  rw [e_J9_floorDiv_f86c9, if_neg hne]
  simp only [en_le, lg_cmp_ge, lg_cmp_eq]
  have hxor : 0 ≤ lO a ^^^ lO b ↔ 0 ≤ a := by
    rw [xor64, lO_toInt ha, lO_toInt hb]
    omega
  rw [lO_div ha hb htd, lO_mul, h1, lO_sub]
  rcases Int.lt_or_le a 0 with h | h
  · rw [if_neg (fun q => by have := hxor.mp q; omega)]
    rw [t2 h]
    have hm : -((-a) / b) * b = -(b * (-a / b)) := by rw [Int.neg_mul, Int.mul_comm]
    rw [hm]
    have hi : i64 (-(b * (-a / b))) := by unfold i64; omega
    have hq := lO_eq hi ha
    by_cases hc : (-a) % b = 0
    · rw [if_pos (hq.mpr (by omega))]
      -- a is a multiple of b
      have : a / b = -(-a / b) := by
        have h5 : a = b * (-(-a / b)) := by rw [Int.mul_neg]; omega
        calc a / b = b * (-(-a / b)) / b := by rw [← h5]
          _ = -(-a / b) := Int.mul_ediv_cancel_left _ (by omega)
      rw [this]
    · rw [if_neg (fun q => by have := hq.mp q; omega)]
      have : a / b = -(-a / b) - 1 := by
        have h5 : a = b * (-(-a / b) - 1) + (b - (-a) % b) := by
          rw [Int.mul_sub, Int.mul_neg]; omega
        have h6 := Int.ediv_emod_unique (a := a) (b := b) (r := b - (-a) % b) (q := -(-a / b) - 1) hb0
        exact (h6.mpr ⟨by omega, by omega, by omega⟩).1
      rw [this]
  · rw [if_pos (hxor.mpr h), t1 h]
