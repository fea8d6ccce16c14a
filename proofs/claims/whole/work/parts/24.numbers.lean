/-! NUMBERS: machine numbers as the whole numbers that they stand for -/
def iO (k : Int) : Int32 := Int32.ofInt k
def lO (k : Int) : Int64 := Int64.ofInt k
/-- it fits an int, a long -/
def i32 (k : Int) : Prop := -2147483648 ≤ k ∧ k < 2147483648
def i64 (k : Int) : Prop := -9223372036854775808 ≤ k ∧ k < 9223372036854775808
theorem iO_add (a b : Int) : iO a + iO b = iO (a + b) := (Int32.ofInt_add a b).symm
theorem iO_sub (a b : Int) : iO a - iO b = iO (a - b) := (Int32.ofInt_sub a b).symm
theorem iO_mul (a b : Int) : iO a * iO b = iO (a * b) := (Int32.ofInt_mul a b).symm
theorem iO_neg (a : Int) : -iO a = iO (-a) := (Int32.ofInt_neg a).symm
theorem lO_add (a b : Int) : lO a + lO b = lO (a + b) := (Int64.ofInt_add a b).symm
theorem lO_sub (a b : Int) : lO a - lO b = lO (a - b) := (Int64.ofInt_sub a b).symm
theorem lO_mul (a b : Int) : lO a * lO b = lO (a * b) := (Int64.ofInt_mul a b).symm
theorem lO_neg (a : Int) : -lO a = lO (-a) := (Int64.ofInt_neg a).symm
theorem bm32 {z : Int} (h : i32 z) : z.bmod (2 ^ 32) = z := by
  unfold i32 at h
  rw [Int.bmod_def]
  split <;> omega
theorem bm64 {z : Int} (h : i64 z) : z.bmod (2 ^ 64) = z := by
  unfold i64 at h
  rw [Int.bmod_def]
  split <;> omega
theorem iO_toInt {k : Int} (h : i32 k) : (iO k).toInt = k := by
  unfold iO
  rw [Int32.toInt_ofInt]
  exact bm32 h
theorem lO_toInt {k : Int} (h : i64 k) : (lO k).toInt = k := by
  unfold lO
  rw [Int64.toInt_ofInt]
  exact bm64 h
theorem iO_as (x : Int32) : iO x.toInt = x := Int32.ofInt_toInt x
theorem lO_as (x : Int64) : lO x.toInt = x := Int64.ofInt_toInt x
theorem i32_of (x : Int32) : i32 x.toInt := ⟨by have := Int32.le_toInt x; omega, by have := Int32.toInt_lt x; omega⟩
theorem i64_of (x : Int64) : i64 x.toInt := ⟨by have := Int64.le_toInt x; omega, by have := Int64.toInt_lt x; omega⟩
theorem iO_lt {a b : Int} (ha : i32 a) (hb : i32 b) : iO a < iO b ↔ a < b := by
  rw [Int32.lt_iff_toInt_lt, iO_toInt ha, iO_toInt hb]
theorem iO_le {a b : Int} (ha : i32 a) (hb : i32 b) : iO a ≤ iO b ↔ a ≤ b := by
  rw [Int32.le_iff_toInt_le, iO_toInt ha, iO_toInt hb]
theorem iO_eq {a b : Int} (ha : i32 a) (hb : i32 b) : iO a = iO b ↔ a = b := by
  rw [← Int32.toInt_inj, iO_toInt ha, iO_toInt hb]
theorem lO_lt {a b : Int} (ha : i64 a) (hb : i64 b) : lO a < lO b ↔ a < b := by
  rw [Int64.lt_iff_toInt_lt, lO_toInt ha, lO_toInt hb]
theorem lO_le {a b : Int} (ha : i64 a) (hb : i64 b) : lO a ≤ lO b ↔ a ≤ b := by
  rw [Int64.le_iff_toInt_le, lO_toInt ha, lO_toInt hb]
theorem lO_eq {a b : Int} (ha : i64 a) (hb : i64 b) : lO a = lO b ↔ a = b := by
  rw [← Int64.toInt_inj, lO_toInt ha, lO_toInt hb]
theorem iO_lit (n : Nat) : (OfNat.ofNat n : Int32) = iO n := by
  apply Int32.toInt_inj.mp
  unfold iO
  rw [Int32.toInt_ofInt]
  exact Int32.toInt_ofNat
theorem lO_lit (n : Nat) : (OfNat.ofNat n : Int64) = lO n := by
  apply Int64.toInt_inj.mp
  unfold lO
  rw [Int64.toInt_ofInt]
  exact Int64.toInt_ofNat
theorem iO_wide {k : Int} (h : i32 k) : (iO k).toInt64 = lO k := by
  apply Int64.toInt_inj.mp
  unfold i32 at h
  rw [Int32.toInt_toInt64, iO_toInt h, lO_toInt (by unfold i64; omega)]
theorem lO_narrow (k : Int) : (lO k).toInt32 = iO k := by
  apply Int32.toInt_inj.mp
  unfold iO lO
  rw [Int64.toInt_toInt32, Int64.toInt_ofInt, Int32.toInt_ofInt]
  exact Int.bmod_bmod_of_dvd (by decide)
theorem iO_nat {k : Int} (h0 : 0 ≤ k) (h : i32 k) : (iO k).toNatClampNeg = k.toNat := by
  show (iO k).toInt.toNat = k.toNat
  rw [iO_toInt h]
theorem iO_ix {k : Int} {n : Nat} (h : i32 k) : en_ix (iO k) n ↔ 0 ≤ k ∧ k < n := by
  unfold en_ix
  rw [iO_toInt h]
theorem iO_div {a b : Int} (ha : i32 a) (hb : i32 b) (h : i32 (a.tdiv b)) : iO a / iO b = iO (a.tdiv b) := by
  apply Int32.toInt_inj.mp
  rw [Int32.toInt_div, iO_toInt ha, iO_toInt hb, iO_toInt h]
  exact bm32 h
theorem lO_div {a b : Int} (ha : i64 a) (hb : i64 b) (h : i64 (a.tdiv b)) : lO a / lO b = lO (a.tdiv b) := by
  apply Int64.toInt_inj.mp
  rw [Int64.toInt_div, lO_toInt ha, lO_toInt hb, lO_toInt h]
  exact bm64 h
