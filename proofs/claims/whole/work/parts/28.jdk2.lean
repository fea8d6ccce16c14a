/-! THE JDK's own methods, further -/
theorem tm_pos {a b : Int} (hb : 0 < b) : (0 ≤ a → a - a.tdiv b * b = a % b) ∧ (a < 0 → a - a.tdiv b * b = -((-a) % b)) := by
  obtain ⟨t1, t2⟩ := td_pos (a := a) hb
  constructor
  · intro h
    have e1 := Int.mul_ediv_add_emod a b
    rw [t1 h, Int.mul_comm]; omega
  · intro h
    have e1 := Int.mul_ediv_add_emod (-a) b
    rw [t2 h, Int.neg_mul, Int.mul_comm]; omega
theorem em_neg {a b : Int} (hb : 0 < b) (h : (-a) % b ≠ 0) : a % b = b - (-a) % b := by
  have g1 := Int.mul_ediv_add_emod (-a) b
  have g2 := Int.emod_nonneg (-a) (by omega : b ≠ 0)
  have g3 := Int.emod_lt_of_pos (-a) hb
  have h5 : a = b * (-(-a / b) - 1) + (b - (-a) % b) := by
    rw [Int.mul_sub, Int.mul_neg]; omega
  have h6 := Int.ediv_emod_unique (a := a) (b := b) (r := b - (-a) % b) (q := -(-a / b) - 1) hb
  exact (h6.mpr ⟨by omega, by omega, by omega⟩).2
theorem em_neg0 {a b : Int} (h : (-a) % b = 0) : a % b = 0 := Int.emod_eq_zero_of_dvd ((Int.dvd_neg (a := b) (b := a)).mp (Int.dvd_of_emod_eq_zero h))
theorem e_floorModL {sc : en_S} {n : Nat} {a b : Int} {z : en_H} (ha : i64 a) (ha2 : a ≠ -9223372036854775808) (hb : i64 b) (hb0 : 0 < b) : f_J9_floorMod_f86c9 sc (n + 1) (lO a) (lO b) z = some (some (.long (lO (a % b))), z) := by
  have z0 : (0 : Int64) = lO 0 := rfl
  have h0 : i64 0 := by unfold i64; omega
  have hne : ¬ lO b = 0 := by rw [z0, lO_eq hb h0]; omega
  have ha' := ha
  have hb' := hb
  unfold i64 at ha' hb'
  obtain ⟨t1, t2⟩ := td_pos (a := a) hb0
  obtain ⟨m1, m2⟩ := tm_pos (a := a) hb0
  have hr := ed_rng (k := 9223372036854775807) hb0 (by omega) (by omega : -9223372036854775807 ≤ a) (by omega)
  have hr2 := ed_rng (a := -a) (k := 9223372036854775807) hb0 (by omega) (by omega) (by omega)
  have e2 := Int.emod_nonneg a (by omega : b ≠ 0)
  have e3 := Int.emod_lt_of_pos a hb0
  have g2 := Int.emod_nonneg (-a) (by omega : b ≠ 0)
  have g3 := Int.emod_lt_of_pos (-a) hb0
  have htd : i64 (a.tdiv b) := by
    unfold i64
    rcases Int.lt_or_le a 0 with h | h
    · rw [t2 h]; omega
    · rw [t1 h]; omega
  have hxor : 0 ≤ lO a ^^^ lO b ↔ 0 ≤ a := by
    rw [xor64, lO_toInt ha, lO_toInt hb]
    omega
  rw [e_J9_floorMod_f86c9, if_neg hne]
  simp only [en_le, lg_cmp_ge, lg_cmp_eq]
  rw [lO_div ha hb htd, lO_mul, lO_sub, lO_add]
  rcases Int.lt_or_le a 0 with h | h
  · rw [if_neg (fun q => by have := hxor.mp q; omega), m2 h]
    have hq : lO (-(-a % b)) = 0 ↔ -(-a % b) = 0 := lO_eq (a := -(-a % b)) (b := 0) (by unfold i64; omega) h0
    by_cases hc : (-a) % b = 0
    · rw [if_pos (hq.mpr (by omega)), em_neg0 hc, hc]
      rfl
    · rw [if_neg (fun q => by have := hq.mp q; omega), em_neg hb0 hc]
      congr 5
      omega
  · rw [if_pos (hxor.mpr h), m1 h]
theorem e_floorDivI {sc : en_S} {n : Nat} {a b : Int} {z : en_H} (ha : i32 a) (ha2 : a ≠ -2147483648) (hb : i32 b) (hb0 : 0 < b) : f_J9_floorDiv_7cf53 sc (n + 1) (iO a) (iO b) z = some (some (.int (iO (a / b))), z) := by
  have z0 : (0 : Int32) = iO 0 := rfl
  have h1 : (1 : Int32) = iO 1 := rfl
  have h0 : i32 0 := by unfold i32; omega
  have hne : ¬ iO b = 0 := by rw [z0, iO_eq hb h0]; omega
  unfold i32 at ha hb
  have hr := ed_rng (k := 2147483647) hb0 (by omega) (by omega : -2147483647 ≤ a) (by omega)
  obtain ⟨t1, t2⟩ := td_pos (a := a) hb0
  have hr2 := ed_rng (a := -a) (k := 2147483647) hb0 (by omega) (by omega) (by omega)
  have e1 := Int.mul_ediv_add_emod a b
  have e2 := Int.emod_nonneg a (by omega : b ≠ 0)
  have e3 := Int.emod_lt_of_pos a hb0
  have g1 := Int.mul_ediv_add_emod (-a) b
  have g2 := Int.emod_nonneg (-a) (by omega : b ≠ 0)
  have g3 := Int.emod_lt_of_pos (-a) hb0
  have htd : i32 (a.tdiv b) := by
    unfold i32
    rcases Int.lt_or_le a 0 with h | h
    · rw [t2 h]; omega
    · rw [t1 h]; omega
  have hxor : 0 ≤ iO a ^^^ iO b ↔ 0 ≤ a := by
    rw [xor32, iO_toInt ha, iO_toInt hb]
    omega
  rw [e_J9_floorDiv_7cf53, if_neg hne]
  simp only [en_le]
  rw [iO_div ha hb htd, iO_mul, h1, iO_sub]
  rcases Int.lt_or_le a 0 with h | h
  · rw [if_neg (fun q => by have := hxor.mp q; omega)]
    rw [t2 h]
    have hm : -((-a) / b) * b = -(b * (-a / b)) := by rw [Int.neg_mul, Int.mul_comm]
    rw [hm]
    have hi : i32 (-(b * (-a / b))) := by unfold i32; omega
    have hq := iO_eq hi ha
    by_cases hc : (-a) % b = 0
    · rw [if_pos (hq.mpr (by omega))]
      have : a / b = -(-a / b) := by
        have h5 : a = b * (-(-a / b)) := by rw [Int.mul_neg]; omega
        calc a / b = b * (-(-a / b)) / b := by rw [← h5]
          _ = -(-a / b) := Int.mul_ediv_cancel_left _ (by omega)
      rw [this]
    · rw [if_neg (fun q => by have := hq.mp q; omega)]
      have : a / b = -(-a / b) - 1 := by
        have h5 : a = b * (-(-a / b) - 1) + (b - (-a) % b) := by
          rw [Int.mul_sub, Int.mul_neg]; omega
        have h6 := Int.ediv_emod_unique (a := a) (b := b) (r := b - (-a) % b) (q := -(-a / b) - 1) hb0
        exact (h6.mpr ⟨by omega, by omega, by omega⟩).1
      rw [this]
  · rw [if_pos (hxor.mpr h), t1 h]
theorem e_floorModI {sc : en_S} {n : Nat} {a b : Int} {z : en_H} (ha : i32 a) (ha2 : a ≠ -2147483648) (hb : i32 b) (hb0 : 0 < b) : f_J9_floorMod_7cf53 sc (n + 1) (iO a) (iO b) z = some (some (.int (iO (a % b))), z) := by
  have z0 : (0 : Int32) = iO 0 := rfl
  have h0 : i32 0 := by unfold i32; omega
  have hne : ¬ iO b = 0 := by rw [z0, iO_eq hb h0]; omega
  have ha' := ha
  have hb' := hb
  unfold i32 at ha' hb'
  obtain ⟨t1, t2⟩ := td_pos (a := a) hb0
  obtain ⟨m1, m2⟩ := tm_pos (a := a) hb0
  have hr := ed_rng (k := 2147483647) hb0 (by omega) (by omega : -2147483647 ≤ a) (by omega)
  have hr2 := ed_rng (a := -a) (k := 2147483647) hb0 (by omega) (by omega) (by omega)
  have e2 := Int.emod_nonneg a (by omega : b ≠ 0)
  have e3 := Int.emod_lt_of_pos a hb0
  have g2 := Int.emod_nonneg (-a) (by omega : b ≠ 0)
  have g3 := Int.emod_lt_of_pos (-a) hb0
  have htd : i32 (a.tdiv b) := by
    unfold i32
    rcases Int.lt_or_le a 0 with h | h
    · rw [t2 h]; omega
    · rw [t1 h]; omega
  have hxor : 0 ≤ iO a ^^^ iO b ↔ 0 ≤ a := by
    rw [xor32, iO_toInt ha, iO_toInt hb]
    omega
  rw [e_J9_floorMod_7cf53, if_neg hne]
  simp only [en_le]
  rw [iO_div ha hb htd, iO_mul, iO_sub, iO_add]
  rcases Int.lt_or_le a 0 with h | h
  · rw [if_neg (fun q => by have := hxor.mp q; omega), m2 h]
    have hq : iO (-(-a % b)) = 0 ↔ -(-a % b) = 0 := iO_eq (a := -(-a % b)) (b := 0) (by unfold i32; omega) h0
    by_cases hc : (-a) % b = 0
    · rw [if_pos (hq.mpr (by omega)), em_neg0 hc, hc]
      rfl
    · rw [if_neg (fun q => by have := hq.mp q; omega), em_neg hb0 hc]
      congr 5
      omega
  · rw [if_pos (hxor.mpr h), m1 h]
theorem e_absI {sc : en_S} {n : Nat} {a : Int} {z : en_H} (ha : i32 a) : f_J9_abs_0f7a4 sc (n + 1) (iO a) z = some (some (.int (iO (if 0 ≤ a then a else -a))), z) := by
  rw [e_J9_abs_0f7a4, iO_neg]
  have h : (0 : Int32) ≤ iO a ↔ 0 ≤ a := iO_le (a := 0) (b := a) (by unfold i32; omega) ha
  by_cases g : 0 ≤ a
  · rw [if_pos (h.mpr g), if_pos g]
  · rw [if_neg (fun q => g (h.mp q)), if_neg g]
theorem e_absL {sc : en_S} {n : Nat} {a : Int} {z : en_H} (ha : i64 a) : f_J9_abs_067f4 sc (n + 1) (lO a) z = some (some (.long (lO (if 0 ≤ a then a else -a))), z) := by
  rw [e_J9_abs_067f4, lO_neg]
  have h : (0 : Int64) ≤ lO a ↔ 0 ≤ a := lO_le (a := 0) (b := a) (by unfold i64; omega) ha
  simp only [lg_cmp_ge]
  by_cases g : 0 ≤ a
  · rw [if_pos (h.mpr g), if_pos g]
  · rw [if_neg (fun q => g (h.mp q)), if_neg g]
theorem e_maxI {sc : en_S} {n : Nat} {a b : Int} {z : en_H} (ha : i32 a) (hb : i32 b) : f_J9_max_7cf53 sc (n + 1) (iO a) (iO b) z = some (some (.int (iO (max a b))), z) := by
  rw [e_J9_max_7cf53]
  have h := iO_lt ha hb
  by_cases g : a < b
  · rw [if_pos (h.mpr g), Int.max_eq_right (by omega)]
  · rw [if_neg (fun q => g (h.mp q)), Int.max_eq_left (by omega)]
theorem e_minI {sc : en_S} {n : Nat} {a b : Int} {z : en_H} (ha : i32 a) (hb : i32 b) : f_J9_min_7cf53 sc (n + 1) (iO a) (iO b) z = some (some (.int (iO (min a b))), z) := by
  rw [e_J9_min_7cf53]
  have h := iO_lt hb ha
  by_cases g : b < a
  · rw [if_pos (h.mpr g), Int.min_eq_right (by omega)]
  · rw [if_neg (fun q => g (h.mp q)), Int.min_eq_left (by omega)]
theorem e_maxL {sc : en_S} {n : Nat} {a b : Int} {z : en_H} (ha : i64 a) (hb : i64 b) : f_J9_max_f86c9 sc (n + 1) (lO a) (lO b) z = some (some (.long (lO (max a b))), z) := by
  rw [e_J9_max_f86c9]
  have h := lO_lt ha hb
  simp only [lg_cmp_lt]
  by_cases g : a < b
  · rw [if_pos (h.mpr g), Int.max_eq_right (by omega)]
  · rw [if_neg (fun q => g (h.mp q)), Int.max_eq_left (by omega)]
