/-! THE WHOLE ROOT: EvenSteps.rootOf -/
theorem nlz32 {sc : en_S} {n : Nat} {z : en_H} {k : Nat} (hk : k < 4294967296) (hk0 : 1 ≤ k) : ∃ r : Int, f_J6_numberOfLeadingZeros_0f7a4 sc (n + 1) (iO k) z = some (some (.int (iO r)), z) ∧ 0 ≤ r ∧ r ≤ 31 ∧ ((k : Int) + 1) ≤ 2 ^ (32 - r.toNat) := by
  rw [e_J6_numberOfLeadingZeros_0f7a4]
  simp only [en_le]
  rcases Nat.lt_or_ge k 2147483648 with g | g
  · have hi : i32 (k : Int) := by unfold i32; omega
    have h0 : (0 : Int32) < iO k ↔ (0 : Int) < k := iO_lt (a := 0) (b := (k : Int)) (by unfold i32; omega) hi
    rw [if_pos (h0.mpr (by omega))]
    have h1 : iO k < 65536 ↔ (k : Int) < 65536 := iO_lt (a := (k : Int)) (b := 65536) hi (by unfold i32; omega)
    by_cases q : (k : Int) < 65536
    · rw [if_pos (h1.mpr q)]
      obtain ⟨r, a1, a2, a3, a4⟩ := nlz4 (sc := sc) (n := n) (z := z) (i := k) (t := 31) (by omega) (by omega)
      refine ⟨r, a1, by omega, by omega, ?_⟩
      rwa [show 1 + (31 - r).toNat = 32 - r.toNat by omega] at a4
    · rw [if_neg (fun h => q (h1.mp h)), us_nat g 16 16 (by decide)]
      have e15 : (31 + (-16) : Int32) = iO 15 := rfl
      rw [e15]
      obtain ⟨r, a1, a2, a3, a4⟩ := nlz4 (sc := sc) (n := n) (z := z) (i := k / 2 ^ 16) (t := 15) (by omega) (by omega)
      refine ⟨r, a1, by omega, by omega, ?_⟩
      rw [show 32 - r.toNat = 1 + (15 - r).toNat + 16 by omega, Int.pow_add]
      have a5 := Int.mul_le_mul_of_nonneg_right (c := 65536) a4 (by decide)
      show _ ≤ _ * (65536 : Int)
      omega
  · -- the highest bit is set
    have e : iO (k : Int) = iO ((k : Int) - 4294967296) := by
      apply Int32.toInt_inj.mp
      unfold iO
      rw [Int32.toInt_ofInt, Int32.toInt_ofInt]
      rw [show (k : Int) = (k : Int) - 4294967296 + (2 ^ 32 : Nat) by omega, Int.add_bmod_right]
      simp
    have hi : i32 ((k : Int) - 4294967296) := by unfold i32; omega
    rw [e]
    have h0 : (0 : Int32) < iO ((k : Int) - 4294967296) ↔ (0 : Int) < (k : Int) - 4294967296 := iO_lt (a := 0) (b := (k : Int) - 4294967296) (by unfold i32; omega) hi
    have h1 : iO ((k : Int) - 4294967296) = 0 ↔ (k : Int) - 4294967296 = 0 := iO_eq (a := (k : Int) - 4294967296) (b := 0) hi (by unfold i32; omega)
    rw [if_neg (fun h => by have := h0.mp h; omega), if_neg (fun h => by have := h1.mp h; omega)]
    exact ⟨0, rfl, by omega, by omega, by show _ ≤ (4294967296 : Int); omega⟩
theorem ul_nat {k : Nat} (hk : k < 2 ^ 63) : en_ul (lO (k : Int)) 32 = lO ((k / 4294967296 : Nat) : Int) := by
  have e1 : lO (k : Int) = Int64.ofNat k := Int64.ofInt_eq_ofNat
  have e2 : lO ((k / 4294967296 : Nat) : Int) = Int64.ofNat (k / 4294967296) := Int64.ofInt_eq_ofNat
  rw [e1, e2]
  unfold en_ul
  apply Int64.toBitVec_inj.mp
  apply BitVec.eq_of_toNat_eq
  have h3 : ((32 : Int32).toInt64.toUInt64 &&& Int64.toUInt64 63) = 32 := by decide
  rw [h3]
  show (((Int64.ofNat k).toUInt64 >>> 32).toBitVec).toNat = (BitVec.ofNat 64 (k / 4294967296)).toNat
  rw [UInt64.toBitVec_shiftRight]
  show ((BitVec.ofNat 64 k) >>> ((32 : UInt64).toBitVec % 64)).toNat = _
  rw [show ((32 : UInt64).toBitVec % 64) = 32#64 by decide, BitVec.ushiftRight_eq', BitVec.toNat_ushiftRight, BitVec.toNat_ofNat, BitVec.toNat_ofNat, Nat.mod_eq_of_lt (by omega), Nat.mod_eq_of_lt (by omega)]
  show k >>> 32 = _
  rw [Nat.shiftRight_eq_div_pow, BitVec.toNat_ofNat, Nat.mod_eq_of_lt (by omega)]
theorem nlz64 {sc : en_S} {n : Nat} {z : en_H} {k : Nat} (hk : k < 2 ^ 62) (hk0 : 1 ≤ k) : ∃ r : Int, f_J13_numberOfLeadingZeros_95d88 sc (n + 2) (lO k) z = some (some (.int (iO r)), z) ∧ 0 ≤ r ∧ r ≤ 63 ∧ ((k : Int) + 1) ≤ 2 ^ (64 - r.toNat) := by
  rw [e_J13_numberOfLeadingZeros_95d88]
  simp only [en_le]
  rw [ul_nat (by omega), lO_narrow, lO_narrow]
  have h0 : iO ((k / 4294967296 : Nat) : Int) = 0 ↔ ((k / 4294967296 : Nat) : Int) = 0 := iO_eq (a := ((k / 4294967296 : Nat) : Int)) (b := 0) (by unfold i32; omega) (by unfold i32; omega)
  by_cases g : ((k / 4294967296 : Nat) : Int) = 0
  · rw [if_pos (h0.mpr g)]
    obtain ⟨r, a1, a2, a3, a4⟩ := nlz32 (sc := sc) (n := n) (z := z) (k := k) (by omega) hk0
    rw [a1]
    refine ⟨32 + r, ?_, by omega, by omega, ?_⟩
    · show some (some (Value.int (32 + iO r)), z) = _
      rw [show (32 : Int32) = iO 32 from rfl, iO_add]
    · rwa [show 64 - (32 + r).toNat = 32 - r.toNat by omega]
  · rw [if_neg (fun h => g (h0.mp h))]
    obtain ⟨r, a1, a2, a3, a4⟩ := nlz32 (sc := sc) (n := n) (z := z) (k := k / 4294967296) (by omega) (by omega)
    rw [a1]
    refine ⟨r, rfl, by omega, by omega, ?_⟩
    rw [show 64 - r.toNat = 32 - r.toNat + 32 by omega, Int.pow_add]
    have a5 := Int.mul_le_mul_of_nonneg_right (c := 4294967296) a4 (by decide)
    show _ ≤ _ * (4294967296 : Int)
    omega
theorem lO_nat_div {a b : Nat} (ha : a < 2 ^ 63) (hb : b < 2 ^ 63) : lO a / lO b = lO ((a / b : Nat) : Int) := by
  have e : (a : Int).tdiv (b : Int) = ((a / b : Nat) : Int) := rfl
  have hle : a / b ≤ a := Nat.div_le_self a b
  have h9 : ∀ q : Nat, q ≤ a → i64 (q : Int) := fun q hq => by unfold i64; omega
  rw [lO_div (by unfold i64; omega) (by unfold i64; omega) (by rw [e]; exact h9 _ hle), e]
theorem rt_shl : ∀ v : Nat, v < 40 → (1 : Int64) <<< ((iO v).toInt64 &&& 63) = lO ((2 ^ v : Nat) : Int) := by decide +kernel
theorem rt_loop {sc : en_S} {n : Nat} {z : en_H} {m r : Nat} (hm : m < 2 ^ 62) (hr0 : 1 ≤ r) (h1 : r * r ≤ m) (h2 : m < (r + 1) * (r + 1)) : ∀ (k j x : Nat), j + k + 1 ≤ 64 → r ≤ x → x < r + 2 ^ k → x < 2 ^ 62 → b_X11_rootOf_2 sc n (lO m) (lO x) (iO j) z = some (some (.long (lO r)), z) := by
  intro k
  induction k with
  | zero =>
    intro j x hj hx hx2 hx3
    obtain rfl : x = r := by omega
    have c1 : ¬ (64 : Int32) ≤ iO j := fun q => by
      have := (iO_le (a := 64) (b := (j : Int)) (by unfold i32; omega) (by unfold i32; omega)).mp q
      omega
    have c2 : ¬ lO x = 0 := fun q => by
      have := (lO_eq (a := (x : Int)) (b := 0) (by unfold i64; omega) (by unfold i64; omega)).mp q
      omega
    have hd : m / x < 2 ^ 62 := Nat.lt_of_le_of_lt (Nat.div_le_self m x) hm
    have hq : x ≤ m / x := (Nat.le_div_iff_mul_le (by omega)).mpr h1
    rw [eb_X11_rootOf_2, if_neg c1, if_neg c2]
    simp only [en_le, lg_cmp_ge]
    have e2 : (2 : Int64) = lO ((2 : Nat) : Int) := rfl
    rw [lO_nat_div (by omega) (by omega), lO_add, e2, ← Int.natCast_add, lO_nat_div (by omega) (by omega)]
    rw [if_pos ((lO_le (by unfold i64; omega) (by unfold i64; omega)).mpr (by omega))]
  | succ k ih =>
    intro j x hj hx hx2 hx3
    have c1 : ¬ (64 : Int32) ≤ iO j := fun q => by
      have := (iO_le (a := 64) (b := (j : Int)) (by unfold i32; omega) (by unfold i32; omega)).mp q
      omega
    have c2 : ¬ lO x = 0 := fun q => by
      have := (lO_eq (a := (x : Int)) (b := 0) (by unfold i64; omega) (by unfold i64; omega)).mp q
      omega
    have hd : m / x < 2 ^ 62 := Nat.lt_of_le_of_lt (Nat.div_le_self m x) hm
    have e1 : (1 : Int64) = lO ((1 : Nat) : Int) := rfl
    have e2 : (2 : Int64) = lO ((2 : Nat) : Int) := rfl
    have e3 : (1 : Int32) = iO ((1 : Nat) : Int) := rfl
    rw [eb_X11_rootOf_2, if_neg c1, if_neg c2]
    simp only [en_le, lg_cmp_ge]
    rw [lO_nat_div (by omega) (by omega), lO_add, e2, ← Int.natCast_add, lO_nat_div (by omega) (by omega)]
    by_cases hxr : x = r
    · subst hxr
      have hq : x ≤ m / x := (Nat.le_div_iff_mul_le (by omega)).mpr h1
      rw [if_pos ((lO_le (by unfold i64; omega) (by unfold i64; omega)).mpr (by omega))]
    · have hq : m / x ≤ r := by
        apply Nat.le_of_lt_succ
        rw [Nat.div_lt_iff_lt_mul (by omega)]
        exact Nat.lt_of_lt_of_le h2 (Nat.mul_le_mul_left (r + 1) (by omega))
      -- the mean of x and m / x is at least the root
      have hlow : r ≤ (x + m / x) / 2 := by
        rcases Nat.lt_or_ge ((x + m / x) / 2) r with g | g
        · exfalso
          -- x + m / x + 1 ≤ 2 r, so (x)(m / x + 1) ≤ r * r ≤ m < x (m / x + 1)
          have g1 : x + (m / x + 1) ≤ 2 * r := by omega
          have g2 : m < x * (m / x + 1) := Nat.lt_mul_div_succ m (by omega)
          have g3 : x * (m / x + 1) ≤ r * r := by
            generalize m / x + 1 = y at g1
            obtain ⟨u, hu⟩ : ∃ u, x = r + u := ⟨x - r, by omega⟩
            subst hu
            obtain ⟨w, hw⟩ : ∃ w, r = y + u + w := ⟨r - y - u, by omega⟩
            subst hw
            have : (y + u + w + u) * y ≤ (y + u + w) * (y + u + w) := by
              have : (y + u + w) * (y + u + w) = (y + u + w + u) * y + (u * u + (u * w + u * w) + w * w + y * w) := by
                simp only [Nat.add_mul, Nat.mul_add, Nat.mul_comm, Nat.mul_left_comm, Nat.mul_assoc]
                omega
              omega
            exact this
          omega
        · exact g
      rw [if_neg (fun q => by have := (lO_le (by unfold i64; omega) (by unfold i64; omega)).mp q; omega), e1]
      rw [if_pos ((lO_le (by unfold i64; omega) (by unfold i64; omega)).mpr (by omega)), e3, iO_add, ← Int.natCast_add]
      exact ih (j + 1) _ (by omega) hlow (by rw [Nat.pow_succ] at hx2; omega) (by omega)
/-- the whole root of a number -/
theorem e_rootOf {sc : en_S} {n : Nat} {z : en_H} {m r : Nat} (hm : m < 2 ^ 62) (h1 : r * r ≤ m) (h2 : m < (r + 1) * (r + 1)) : f_X11_rootOf sc (n + 3) (lO m) z = some (some (.long (lO r)), z) := by
  rw [e_X11_rootOf]
  simp only [lg_cmp_ge]
  have e1 : (1 : Int64) = lO ((1 : Nat) : Int) := rfl
  by_cases hm0 : m = 0
  · subst hm0
    obtain rfl : r = 0 := by
      rcases Nat.eq_zero_or_pos r with h | h
      · exact h
      · have := Nat.mul_pos h h
        omega
    rw [if_neg (fun q => by
      rw [e1] at q
      have := (lO_le (by unfold i64; omega) (by unfold i64; omega)).mp q
      omega)]
    rfl
  · have hr0 : 1 ≤ r := by
      rcases Nat.eq_zero_or_pos r with h | h
      · subst h; omega
      · exact h
    rw [if_pos (by rw [e1]; exact (lO_le (by unfold i64; omega) (by unfold i64; omega)).mpr (by omega))]
    obtain ⟨t, a1, a2, a3, a4⟩ := nlz64 (sc := sc) (n := n) (z := z) (k := m) hm (by omega)
    rw [a1]
    show en_le _ _ = _
    simp only [en_le]
    obtain ⟨t, rfl⟩ : ∃ t' : Nat, t = t' := ⟨t.toNat, by omega⟩
    have e65 : (65 : Int32) = iO ((65 : Nat) : Int) := rfl
    have ei2 : (2 : Int32) = iO ((2 : Nat) : Int) := rfl
    have ed : iO (((65 : Nat) : Int) - (t : Int)) / iO ((2 : Nat) : Int) = iO (((65 - t) / 2 : Nat) : Int) := by
      have e : (((65 : Nat) : Int) - (t : Int)).tdiv ((2 : Nat) : Int) = (((65 - t) / 2 : Nat) : Int) := by
        rw [show ((65 : Nat) : Int) - (t : Int) = ((65 - t : Nat) : Int) by omega]
        rfl
      rw [iO_div (by unfold i32; omega) (by unfold i32; omega) (by rw [e]; unfold i32; omega), e]
    rw [e65, ei2, iO_sub, ed, rt_shl _ (by omega)]
    have hv : 64 - t ≤ 2 * ((65 - t) / 2) := by omega
    have hp : (2 : Nat) ^ (64 - t) ≤ 2 ^ ((65 - t) / 2) * 2 ^ ((65 - t) / 2) := by
      rw [← Nat.pow_add]
      exact Nat.pow_le_pow_right (by decide) (by omega)
    have ha : m + 1 ≤ 2 ^ (64 - t) := by
      have : ((m + 1 : Nat) : Int) ≤ ((2 ^ (64 - t) : Nat) : Int) := by
        rw [Int.natCast_add, Int.natCast_pow]
        exact a4
      omega
    have hx : r < 2 ^ ((65 - t) / 2) := by
      rcases Nat.lt_or_ge r (2 ^ ((65 - t) / 2)) with g | g
      · exact g
      · have := Nat.mul_le_mul g g
        omega
    have hb : (2 : Nat) ^ ((65 - t) / 2) ≤ 2 ^ 32 := Nat.pow_le_pow_right (by decide) (by omega)
    exact rt_loop hm hr0 h1 h2 40 0 _ (by omega) (by omega) (by omega) (by omega)
