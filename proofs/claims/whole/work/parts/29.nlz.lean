/-! LEADING ZEROS, as far as they are asked for -/
theorem iO_nI (n : Nat) : iO (n : Int) = nI n := Int32.ofInt_eq_ofNat
theorem us_nat {k : Nat} (hk : k < 2147483648) (y : Int32) (s : Nat) (hs : ((y.toUInt32 &&& Int32.toUInt32 31).toBitVec % 32).toNat = s) : en_us (iO (k : Int)) y = iO ((k / 2 ^ s : Nat) : Int) := by
  rw [iO_nI, iO_nI]
  exact pk_ushrN (by omega) y s hs
theorem nlz6 {sc : en_S} {n : Nat} {z : en_H} {i : Nat} {t : Int} (hi : 1 ≤ i) (hi2 : i < 16) : ∃ r : Int, b_J6_numberOfLeadingZeros_0f7a4_6 sc n (iO i) (iO t) z = some (some (.int (iO r)), z) ∧ t - 3 ≤ r ∧ r ≤ t ∧ ((i : Int) + 1) ≤ 2 ^ (1 + (t - r).toNat) := by
  have m2 : (-2 : Int32) = iO (-2) := rfl
  have h4 : iO i < 4 ↔ (i : Int) < 4 := iO_lt (a := (i : Int)) (b := 4) (by unfold i32; omega) (by unfold i32; omega)
  rw [eb_J6_numberOfLeadingZeros_0f7a4_6]
  simp only [en_le]
  by_cases g : (i : Int) < 4
  · rw [if_pos (h4.mpr g), us_nat (by omega) 1 1 (by decide), iO_sub]
    refine ⟨_, rfl, ?_, ?_, ?_⟩
    · omega
    · omega
    · have : i = 1 ∨ i = 2 ∨ i = 3 := by omega
      rcases this with rfl | rfl | rfl
      · show _ ≤ (2 : Int) ^ (1 + (t - (t - 0)).toNat)
        rw [show t - (t - 0) = 0 by omega]; decide
      · show _ ≤ (2 : Int) ^ (1 + (t - (t - 1)).toNat)
        rw [show t - (t - 1) = 1 by omega]; decide
      · show _ ≤ (2 : Int) ^ (1 + (t - (t - 1)).toNat)
        rw [show t - (t - 1) = 1 by omega]; decide
  · rw [if_neg (fun q => g (h4.mp q)), us_nat (by omega) 2 2 (by decide), us_nat (by omega) 1 1 (by decide), m2, iO_add, iO_sub]
    refine ⟨_, rfl, ?_, ?_, ?_⟩
    · omega
    · omega
    · rcases Nat.lt_or_ge i 8 with q | q
      · have e : i / 2 ^ 2 / 2 ^ 1 = 0 := by omega
        rw [e, show t - (t + -2 - ((0 : Nat) : Int)) = 2 by omega]
        show _ ≤ (8 : Int)
        omega
      · have e : i / 2 ^ 2 / 2 ^ 1 = 1 := by omega
        rw [e, show t - (t + -2 - ((1 : Nat) : Int)) = 3 by omega]
        show _ ≤ (16 : Int)
        omega
theorem nlz4 {sc : en_S} {n : Nat} {z : en_H} {i : Nat} {t : Int} (hi : 1 ≤ i) (hi2 : i < 65536) : ∃ r : Int, b_J6_numberOfLeadingZeros_0f7a4_4 sc n (iO i) (iO t) z = some (some (.int (iO r)), z) ∧ t - 15 ≤ r ∧ r ≤ t ∧ ((i : Int) + 1) ≤ 2 ^ (1 + (t - r).toNat) := by
  have m4 : (-4 : Int32) = iO (-4) := rfl
  have m8 : (-8 : Int32) = iO (-8) := rfl
  have h256 : iO i < 256 ↔ (i : Int) < 256 := iO_lt (a := (i : Int)) (b := 256) (by unfold i32; omega) (by unfold i32; omega)
  have pw : ∀ (a b : Nat) (x y : Int), x + 1 ≤ 2 ^ a → y + 1 ≤ (x + 1) * 2 ^ b → y + 1 ≤ (2 : Int) ^ (a + b) := by
    intro a b x y h1 h2
    rw [Int.pow_add]
    exact Int.le_trans h2 (Int.mul_le_mul_of_nonneg_right h1 (Int.le_of_lt (Int.pow_pos (by decide))))
  rw [eb_J6_numberOfLeadingZeros_0f7a4_4]
  simp only [en_le]
  by_cases g : (i : Int) < 256
  · have h16 : iO i < 16 ↔ (i : Int) < 16 := iO_lt (a := (i : Int)) (b := 16) (by unfold i32; omega) (by unfold i32; omega)
    rw [if_pos (h256.mpr g)]
    by_cases g2 : (i : Int) < 16
    · rw [if_pos (h16.mpr g2)]
      obtain ⟨r, h1, h2, h3, h4⟩ := nlz6 (sc := sc) (n := n) (z := z) (i := i) (t := t) hi (by omega)
      exact ⟨r, h1, by omega, h3, h4⟩
    · rw [if_neg (fun q => g2 (h16.mp q)), us_nat (by omega) 4 4 (by decide), m4, iO_add]
      obtain ⟨r, h1, h2, h3, h4⟩ := nlz6 (sc := sc) (n := n) (z := z) (i := i / 2 ^ 4) (t := t + -4) (by omega) (by omega)
      refine ⟨r, h1, by omega, by omega, ?_⟩
      have := pw _ 4 _ (i : Int) h4 (by show (i : Int) + 1 ≤ (((i / 2 ^ 4 : Nat) : Int) + 1) * 16; omega)
      rwa [show 1 + (t + -4 - r).toNat + 4 = 1 + (t - r).toNat by omega] at this
  · rw [if_neg (fun q => g (h256.mp q)), us_nat (by omega) 8 8 (by decide), m8, iO_add]
    have h16 : iO ((i / 2 ^ 8 : Nat) : Int) < 16 ↔ ((i / 2 ^ 8 : Nat) : Int) < 16 := iO_lt (a := ((i / 2 ^ 8 : Nat) : Int)) (b := 16) (by unfold i32; omega) (by unfold i32; omega)
    by_cases g2 : ((i / 2 ^ 8 : Nat) : Int) < 16
    · rw [if_pos (h16.mpr g2)]
      obtain ⟨r, h1, h2, h3, h4⟩ := nlz6 (sc := sc) (n := n) (z := z) (i := i / 2 ^ 8) (t := t + -8) (by omega) (by omega)
      refine ⟨r, h1, by omega, by omega, ?_⟩
      have := pw _ 8 _ (i : Int) h4 (by show (i : Int) + 1 ≤ (((i / 2 ^ 8 : Nat) : Int) + 1) * 256; omega)
      rwa [show 1 + (t + -8 - r).toNat + 8 = 1 + (t - r).toNat by omega] at this
    · rw [if_neg (fun q => g2 (h16.mp q)), us_nat (by omega) 4 4 (by decide), m4, iO_add]
      obtain ⟨r, h1, h2, h3, h4⟩ := nlz6 (sc := sc) (n := n) (z := z) (i := i / 2 ^ 8 / 2 ^ 4) (t := t + -8 + -4) (by omega) (by omega)
      refine ⟨r, h1, by omega, by omega, ?_⟩
      have := pw _ 12 _ (i : Int) h4 (by show (i : Int) + 1 ≤ (((i / 2 ^ 8 / 2 ^ 4 : Nat) : Int) + 1) * 4096; omega)
      rwa [show 1 + (t + -8 + -4 - r).toNat + 12 = 1 + (t - r).toNat by omega] at this
