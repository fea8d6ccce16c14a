/-! BITS are counted: Long.bitCount -/
theorem and_split {a b c d : Nat} (hb : b < 256) (hd : d < 256) : (256 * a + b) &&& (256 * c + d) = 256 * (a &&& c) + (b &&& d) := by
  have h8 : ∀ (x y j : Nat), y < 256 → (256 * x + y).testBit j = if j < 8 then y.testBit j else x.testBit (j - 8) := fun x y j hy => Nat.testBit_two_pow_mul_add (i := 8) x hy j
  have hbd : b &&& d < 256 := Nat.and_lt_two_pow (n := 8) b hd
  apply Nat.eq_of_testBit_eq
  intro j
  rw [Nat.testBit_and, h8 a b j hb, h8 c d j hd, h8 _ _ j hbd]
  split
  · rw [Nat.testBit_and]
  · rw [Nat.testBit_and]
/-- a byte, k times -/
def mk8 (c : Nat) : Nat → Nat
  | 0 => 0
  | k + 1 => 256 * mk8 c k + c
def bs1 (k x : Nat) : Nat := x - (x / 2 &&& mk8 85 k)
def bs2 (k x : Nat) : Nat := (x &&& mk8 51 k) + (x / 4 &&& mk8 51 k)
def bs3 (k x : Nat) : Nat := (x + x / 16) &&& mk8 15 k
def by1 (b : Nat) : Nat := b - (b / 2 &&& 85)
def by2 (b : Nat) : Nat := (b &&& 51) + (b / 4 &&& 51)
def by3 (b : Nat) : Nat := (b + b / 16) &&& 15
theorem by_ok : ∀ b : Nat, b < 256 → by1 b < 256 ∧ by2 (by1 b) ≤ 68 ∧ by2 (by1 b) % 16 ≤ 4 ∧ by3 (by2 (by1 b)) = b % 2 + b / 2 % 2 + b / 4 % 2 + b / 8 % 2 + b / 16 % 2 + b / 32 % 2 + b / 64 % 2 + b / 128 % 2 := by decide +kernel
theorem by_e1 : ∀ y : Nat, y < 128 → ∀ e : Nat, e < 2 → (128 * e + y) &&& 85 = y &&& 85 := by decide +kernel
theorem by_e2 : ∀ y : Nat, y < 64 → ∀ e : Nat, e < 4 → (64 * e + y) &&& 51 = y &&& 51 := by decide +kernel
theorem by_e3 : ∀ y : Nat, y < 73 → ∀ e : Nat, e < 5 → (16 * e + y) &&& 15 = y &&& 15 := by decide +kernel
theorem bs1_s {k a b : Nat} (hb : b < 256) : bs1 (k + 1) (256 * a + b) = 256 * bs1 k a + by1 b := by
  have e1 : (256 * a + b) / 2 = 256 * (a / 2) + (128 * (a % 2) + b / 2) := by omega
  have h1 : a / 2 &&& mk8 85 k ≤ a / 2 := Nat.and_le_left
  have h2 : b / 2 &&& 85 ≤ b / 2 := Nat.and_le_left
  unfold bs1 by1
  rw [e1, mk8, and_split (by omega) (by omega), by_e1 _ (by omega) _ (by omega)]
  omega
theorem bs2_s {k a b : Nat} (hb : b < 256) : bs2 (k + 1) (256 * a + b) = 256 * bs2 k a + by2 b := by
  have e1 : (256 * a + b) / 4 = 256 * (a / 4) + (64 * (a % 4) + b / 4) := by omega
  unfold bs2 by2
  rw [e1, mk8, and_split (by omega) (by omega), and_split (by omega) (by omega), by_e2 _ (by omega) _ (by omega)]
  omega
theorem bs3_s {k a b : Nat} (hb : b ≤ 68) (ha : a % 16 ≤ 4) : bs3 (k + 1) (256 * a + b) = 256 * bs3 k a + by3 b := by
  have e1 : 256 * a + b + (256 * a + b) / 16 = 256 * (a + a / 16) + (16 * (a % 16) + (b + b / 16)) := by omega
  unfold bs3 by3
  rw [e1, mk8, and_split (by omega) (by omega), by_e3 _ (by omega) _ (by omega)]
theorem bs12_16 : ∀ (k x : Nat), x < 256 ^ k → bs2 k (bs1 k x) % 16 ≤ 4
  | 0, x, h => by
    have : x = 0 := by rw [Nat.pow_zero] at h; omega
    subst this
    decide
  | k + 1, x, h => by
    obtain ⟨q1, q2, q3, -⟩ := by_ok (x % 256) (by omega)
    have e : x = 256 * (x / 256) + x % 256 := by omega
    rw [e, bs1_s (by omega), bs2_s q1]
    omega
/-- bits of the bytes -/
def pb (b : Nat) : Nat := b % 2 + b / 2 % 2 + b / 4 % 2 + b / 8 % 2 + b / 16 % 2 + b / 32 % 2 + b / 64 % 2 + b / 128 % 2
theorem bs_s {k a b : Nat} (hb : b < 256) (ha : a < 256 ^ k) : bs3 (k + 1) (bs2 (k + 1) (bs1 (k + 1) (256 * a + b))) = 256 * bs3 k (bs2 k (bs1 k a)) + pb b := by
  obtain ⟨q1, q2, q3, q4⟩ := by_ok b hb
  rw [bs1_s hb, bs2_s q1, bs3_s q2 (bs12_16 k a ha), q4]
  rfl
theorem bs_0 : bs3 0 (bs2 0 (bs1 0 0)) = 0 := by decide
/-- how many of the first places hold -/
def tb (f : Nat → Bool) : Nat → Nat
  | 0 => 0
  | n + 1 => tb f n + (f n).toNat
theorem tb_add (f : Nat → Bool) (m : Nat) : ∀ n, tb f (m + n) = tb f m + tb (fun i => f (m + i)) n
  | 0 => rfl
  | n + 1 => by
    show tb f (m + n) + (f (m + n)).toNat = _
    rw [tb_add f m n]
    show _ = tb f m + (tb (fun i => f (m + i)) n + (f (m + n)).toNat)
    omega
theorem tb_cg {f g : Nat → Bool} : ∀ n, (∀ i, i < n → f i = g i) → tb f n = tb g n
  | 0, _ => rfl
  | n + 1, h => by
    show tb f n + (f n).toNat = tb g n + (g n).toNat
    rw [tb_cg n (fun i hi => h i (by omega)), h n (by omega)]
theorem tb_le (f : Nat → Bool) : ∀ n, tb f n ≤ n
  | 0 => Nat.le_refl _
  | n + 1 => by
    have := tb_le f n
    have h2 : (f n).toNat ≤ 1 := Bool.toNat_le _
    show tb f n + (f n).toNat ≤ n + 1
    omega
theorem pb_tb : ∀ b : Nat, b < 256 → pb b = tb b.testBit 8 := by decide +kernel
theorem tb_byte {a b : Nat} (hb : b < 256) (n : Nat) : tb (256 * a + b).testBit (8 + n) = pb b + tb a.testBit n := by
  have h8 : ∀ j : Nat, (256 * a + b).testBit j = if j < 8 then b.testBit j else a.testBit (j - 8) := fun j => Nat.testBit_two_pow_mul_add (i := 8) a hb j
  rw [tb_add, pb_tb b hb]
  congr 1
  · exact tb_cg 8 (fun i hi => by rw [h8 i, if_pos hi])
  · exact tb_cg n (fun i hi => by rw [h8 (8 + i), if_neg (by omega), Nat.add_sub_cancel_left])
theorem pb_le (b : Nat) : pb b ≤ 8 := by unfold pb; omega
/-- the last steps of the count -/
theorem dq {p q m : Nat} (h : p < m) : (p + m * q) / m = q := by
  rw [Nat.add_mul_div_left _ _ (by omega), Nat.div_eq_of_lt h, Nat.zero_add]
theorem cnt_end {a b c d e f g h : Nat} (h1 : a ≤ 8) (h2 : b ≤ 8) (h3 : c ≤ 8) (h4 : d ≤ 8) (h5 : e ≤ 8) (h6 : f ≤ 8) (h7 : g ≤ 8) (h8 : h ≤ 8) {x : Nat} (hx : x = a + 256 * (b + 256 * (c + 256 * (d + 256 * (e + 256 * (f + 256 * (g + 256 * h))))))) : ∃ y z w : Nat, x / 256 = y ∧ (x + y) / 65536 = z ∧ (x + y + z) / 4294967296 = w ∧ x + y + z + w < 18446744073709551616 ∧ (x + y + z + w) % 128 = a + b + c + d + e + f + g + h := by
  refine ⟨b + 256 * (c + 256 * (d + 256 * (e + 256 * (f + 256 * (g + 256 * h))))), (c + d) + 256 * ((d + e) + 256 * ((e + f) + 256 * ((f + g) + 256 * ((g + h) + 256 * h)))), (e + f + g + h) + 256 * ((f + g + h) + 256 * ((g + h) + 256 * h)), ?_, ?_, ?_, ?_, ?_⟩
  · rw [hx]
    exact dq (by omega)
  · have e1 : x + (b + 256 * (c + 256 * (d + 256 * (e + 256 * (f + 256 * (g + 256 * h)))))) = (a + b + 256 * (b + c)) + 65536 * ((c + d) + 256 * ((d + e) + 256 * ((e + f) + 256 * ((f + g) + 256 * ((g + h) + 256 * h))))) := by omega
    rw [e1]
    exact dq (by omega)
  · have e1 : x + (b + 256 * (c + 256 * (d + 256 * (e + 256 * (f + 256 * (g + 256 * h)))))) + ((c + d) + 256 * ((d + e) + 256 * ((e + f) + 256 * ((f + g) + 256 * ((g + h) + 256 * h))))) = (a + b + c + d + 256 * ((b + c + d + e) + 256 * ((c + d + e + f) + 256 * (d + e + f + g)))) + 4294967296 * ((e + f + g + h) + 256 * ((f + g + h) + 256 * ((g + h) + 256 * h))) := by omega
    rw [e1]
    exact dq (by omega)
  · omega
  · have e1 : x + (b + 256 * (c + 256 * (d + 256 * (e + 256 * (f + 256 * (g + 256 * h)))))) + ((c + d) + 256 * ((d + e) + 256 * ((e + f) + 256 * ((f + g) + 256 * ((g + h) + 256 * h))))) + ((e + f + g + h) + 256 * ((f + g + h) + 256 * ((g + h) + 256 * h))) = (a + b + c + d + e + f + g + h) + 128 * (2 * ((b + c + d + e + f + g + h) + 256 * ((c + d + e + f + g + h) + 256 * ((d + e + f + g + h) + 256 * ((e + f + g + h) + 256 * ((f + g + h) + 256 * ((g + h) + 256 * h))))))) := by omega
    rw [e1, Nat.add_mul_mod_self_left, Nat.mod_eq_of_lt (by omega)]
theorem N_ul (x : Int64) (y : Int32) (s : Nat) (hs : ((y.toInt64.toUInt64 &&& Int64.toUInt64 63).toBitVec % 64).toNat = s) : (en_ul x y).toBitVec.toNat = x.toBitVec.toNat / 2 ^ s := by
  show (x.toBitVec >>> (((y.toInt64.toUInt64 &&& Int64.toUInt64 63).toBitVec % 64).toNat)).toNat = _
  rw [hs, BitVec.toNat_ushiftRight, Nat.shiftRight_eq_div_pow]
theorem N_and (x y : Int64) : (x &&& y).toBitVec.toNat = x.toBitVec.toNat &&& y.toBitVec.toNat := by
  rw [Int64.toBitVec_and, BitVec.toNat_and]
theorem N_add (x y : Int64) (h : x.toBitVec.toNat + y.toBitVec.toNat < 18446744073709551616) : (x + y).toBitVec.toNat = x.toBitVec.toNat + y.toBitVec.toNat := by
  rw [Int64.toBitVec_add, BitVec.toNat_add]
  omega
theorem N_sub (x y : Int64) (h : y.toBitVec.toNat ≤ x.toBitVec.toNat) : (x - y).toBitVec.toNat = x.toBitVec.toNat - y.toBitVec.toNat := by
  have h2 := x.toBitVec.isLt
  rw [Int64.toBitVec_sub, BitVec.toNat_sub]
  omega
theorem cnt64 {N : Nat} (hX : N < 18446744073709551616) : ∃ y z w : Nat, bs3 8 (bs2 8 (bs1 8 N)) / 256 = y ∧ (bs3 8 (bs2 8 (bs1 8 N)) + y) / 65536 = z ∧ (bs3 8 (bs2 8 (bs1 8 N)) + y + z) / 4294967296 = w ∧ bs3 8 (bs2 8 (bs1 8 N)) + y + z + w < 18446744073709551616 ∧ (bs3 8 (bs2 8 (bs1 8 N)) + y + z + w) % 128 = tb N.testBit 64 := by
  obtain ⟨b0, a0, q0, r0⟩ : ∃ b a, N = 256 * a + b ∧ b < 256 := ⟨N % 256, N / 256, by omega, by omega⟩
  obtain ⟨b1, a1, q1, r1⟩ : ∃ b a, a0 = 256 * a + b ∧ b < 256 := ⟨a0 % 256, a0 / 256, by omega, by omega⟩
  obtain ⟨b2, a2, q2, r2⟩ : ∃ b a, a1 = 256 * a + b ∧ b < 256 := ⟨a1 % 256, a1 / 256, by omega, by omega⟩
  obtain ⟨b3, a3, q3, r3⟩ : ∃ b a, a2 = 256 * a + b ∧ b < 256 := ⟨a2 % 256, a2 / 256, by omega, by omega⟩
  obtain ⟨b4, a4, q4, r4⟩ : ∃ b a, a3 = 256 * a + b ∧ b < 256 := ⟨a3 % 256, a3 / 256, by omega, by omega⟩
  obtain ⟨b5, a5, q5, r5⟩ : ∃ b a, a4 = 256 * a + b ∧ b < 256 := ⟨a4 % 256, a4 / 256, by omega, by omega⟩
  obtain ⟨b6, a6, q6, r6⟩ : ∃ b a, a5 = 256 * a + b ∧ b < 256 := ⟨a5 % 256, a5 / 256, by omega, by omega⟩
  have l0 : a0 < 256 ^ 7 := by rw [show (256 : Nat) ^ 7 = 72057594037927936 from rfl]; omega
  have l1 : a1 < 256 ^ 6 := by rw [show (256 : Nat) ^ 7 = 72057594037927936 from rfl] at l0; rw [show (256 : Nat) ^ 6 = 281474976710656 from rfl]; clear hX q0 q2 q3 q4 q5 q6; omega
  have l2 : a2 < 256 ^ 5 := by rw [show (256 : Nat) ^ 6 = 281474976710656 from rfl] at l1; rw [show (256 : Nat) ^ 5 = 1099511627776 from rfl]; clear hX q0 q1 q3 q4 q5 q6 l0; omega
  have l3 : a3 < 256 ^ 4 := by rw [show (256 : Nat) ^ 5 = 1099511627776 from rfl] at l2; rw [show (256 : Nat) ^ 4 = 4294967296 from rfl]; clear hX q0 q1 q2 q4 q5 q6 l0 l1; omega
  have l4 : a4 < 256 ^ 3 := by rw [show (256 : Nat) ^ 4 = 4294967296 from rfl] at l3; rw [show (256 : Nat) ^ 3 = 16777216 from rfl]; clear hX q0 q1 q2 q3 q5 q6 l0 l1 l2; omega
  have l5 : a5 < 256 ^ 2 := by rw [show (256 : Nat) ^ 3 = 16777216 from rfl] at l4; rw [show (256 : Nat) ^ 2 = 65536 from rfl]; clear hX q0 q1 q2 q3 q4 q6 l0 l1 l2 l3; omega
  have r7 : a6 < 256 := by rw [show (256 : Nat) ^ 2 = 65536 from rfl] at l5; clear hX q0 q1 q2 q3 q4 q5 l0 l1 l2 l3 l4; omega
  have l6 : a6 < 256 ^ 1 := by rw [Nat.pow_one]; exact r7
  have hT : bs3 8 (bs2 8 (bs1 8 N)) = pb b0 + 256 * (pb b1 + 256 * (pb b2 + 256 * (pb b3 + 256 * (pb b4 + 256 * (pb b5 + 256 * (pb b6 + 256 * pb a6)))))) := by
    have z7 : bs3 1 (bs2 1 (bs1 1 a6)) = pb a6 := by
      have h := bs_s (k := 0) (a := 0) (b := a6) r7 (by decide)
      simp only [bs_0, Nat.mul_zero, Nat.zero_add] at h
      exact h
    rw [q0, bs_s r0 l0, q1, bs_s r1 l1, q2, bs_s r2 l2, q3, bs_s r3 l3, q4, bs_s r4 l4, q5, bs_s r5 l5, q6, bs_s r6 l6, z7]
    simp only [Nat.add_comm, Nat.add_left_comm]
  have hB : tb N.testBit 64 = pb b0 + pb b1 + pb b2 + pb b3 + pb b4 + pb b5 + pb b6 + pb a6 := by
    have z7 : tb a6.testBit 8 = pb a6 := (pb_tb a6 r7).symm
    rw [q0, show (64 : Nat) = 8 + 56 from rfl, tb_byte r0, q1, show (56 : Nat) = 8 + 48 from rfl, tb_byte r1, q2, show (48 : Nat) = 8 + 40 from rfl, tb_byte r2, q3, show (40 : Nat) = 8 + 32 from rfl, tb_byte r3, q4, show (32 : Nat) = 8 + 24 from rfl, tb_byte r4, q5, show (24 : Nat) = 8 + 16 from rfl, tb_byte r5, q6, show (16 : Nat) = 8 + 8 from rfl, tb_byte r6, z7]
    simp only [Nat.add_assoc]
  rw [hB]
  exact cnt_end (pb_le b0) (pb_le b1) (pb_le b2) (pb_le b3) (pb_le b4) (pb_le b5) (pb_le b6) (pb_le a6) hT
theorem lt_a {N : Nat} (h : N ≤ 7378697629483820646) : N + N / 16 < 18446744073709551616 := by omega
theorem lt_b {a b c d : Nat} (h : a + b + c + d < 18446744073709551616) : a + b < 18446744073709551616 := by omega
theorem lt_c {a b c d : Nat} (h : a + b + c + d < 18446744073709551616) : a + b + c < 18446744073709551616 := by omega
theorem m127 {x y : Nat} (h : x % 128 = y) : x % 4294967296 % 128 = y := by omega
theorem bitCount_ok {sc : en_S} {n : Nat} {x : Int64} {z : en_H} : f_J13_bitCount_95d88 sc (n + 1) x z = some (some (.int (iO ((tb x.toBitVec.getLsbD 64 : Nat) : Int))), z) := by
  rw [e_J13_bitCount_95d88]
  simp only [en_le]
  have hX : x.toBitVec.toNat < 18446744073709551616 := x.toBitVec.isLt
  have hbits : tb x.toBitVec.getLsbD 64 = tb x.toBitVec.toNat.testBit 64 := rfl
  have hle64 := tb_le x.toBitVec.toNat.testBit 64
  rw [hbits]
  obtain ⟨ny, nz, nw, t1, t2, t3, t4, t5⟩ := cnt64 hX
  have m5 : (6148914691236517205 : Int64).toBitVec.toNat = mk8 85 8 := by decide
  have m3 : (3689348814741910323 : Int64).toBitVec.toNat = mk8 51 8 := by decide
  have mf : (1085102592571150095 : Int64).toBitVec.toNat = mk8 15 8 := by decide
  have v3 : mk8 51 8 = 3689348814741910323 := by decide
  generalize hN : x.toBitVec.toNat = N at *
  have y1 : (x - (en_ul x 1 &&& 6148914691236517205)).toBitVec.toNat = bs1 8 N := by
    have hu : (en_ul x 1 &&& 6148914691236517205).toBitVec.toNat = N / 2 &&& mk8 85 8 := by
      rw [N_and, N_ul x 1 1 (by decide), hN, m5]
    have hle : N / 2 &&& mk8 85 8 ≤ N := Nat.le_trans Nat.and_le_left (Nat.div_le_self _ _)
    rw [N_sub _ _ (by rw [hu, hN]; exact hle), hu, hN]
    rfl
  generalize x - (en_ul x 1 &&& 6148914691236517205) = x1 at *
  have h3 : bs1 8 N &&& mk8 51 8 ≤ mk8 51 8 := Nat.and_le_right
  have h4 : bs1 8 N / 4 &&& mk8 51 8 ≤ mk8 51 8 := Nat.and_le_right
  have h34 := Nat.add_le_add h3 h4
  have y2 : ((x1 &&& 3689348814741910323) + (en_ul x1 2 &&& 3689348814741910323)).toBitVec.toNat = bs2 8 (bs1 8 N) := by
    have h1 : (x1 &&& 3689348814741910323).toBitVec.toNat = bs1 8 N &&& mk8 51 8 := by rw [N_and, y1, m3]
    have h2 : (en_ul x1 2 &&& 3689348814741910323).toBitVec.toNat = bs1 8 N / 4 &&& mk8 51 8 := by rw [N_and, N_ul x1 2 2 (by decide), y1, m3]
    rw [N_add _ _ (by rw [h1, h2]; exact Nat.lt_of_le_of_lt h34 (by rw [v3]; decide)), h1, h2]
    rfl
  have u2 : bs2 8 (bs1 8 N) ≤ 7378697629483820646 := by
    rw [v3] at h34
    rw [← v3] at h34
    exact Nat.le_trans h34 (by rw [v3]; decide)
  generalize (x1 &&& 3689348814741910323) + (en_ul x1 2 &&& 3689348814741910323) = x2 at *
  have y3 : ((x2 + en_ul x2 4) &&& 1085102592571150095).toBitVec.toNat = bs3 8 (bs2 8 (bs1 8 N)) := by
    have h1 : (en_ul x2 4).toBitVec.toNat = bs2 8 (bs1 8 N) / 16 := by rw [N_ul x2 4 4 (by decide), y2]
    rw [N_and, N_add _ _ (by rw [h1, y2]; exact lt_a u2), h1, y2, mf]
    rfl
  generalize (x2 + en_ul x2 4) &&& 1085102592571150095 = x3 at *
  generalize bs3 8 (bs2 8 (bs1 8 N)) = N3 at *
  have y4 : (x3 + en_ul x3 8).toBitVec.toNat = N3 + ny := by
    have h1 : (en_ul x3 8).toBitVec.toNat = ny := by rw [N_ul x3 8 8 (by decide), y3]; exact t1
    rw [N_add _ _ (by rw [h1, y3]; exact lt_b t4), h1, y3]
  generalize x3 + en_ul x3 8 = x4 at *
  have y5 : (x4 + en_ul x4 16).toBitVec.toNat = N3 + ny + nz := by
    have h1 : (en_ul x4 16).toBitVec.toNat = nz := by rw [N_ul x4 16 16 (by decide), y4]; exact t2
    rw [N_add _ _ (by rw [h1, y4]; exact lt_c t4), h1, y4]
  generalize x4 + en_ul x4 16 = x5 at *
  have y6 : (x5 + en_ul x5 32).toBitVec.toNat = N3 + ny + nz + nw := by
    have h1 : (en_ul x5 32).toBitVec.toNat = nw := by rw [N_ul x5 32 32 (by decide), y5]; exact t3
    rw [N_add _ _ (by rw [h1, y5]; exact t4), h1, y5]
  generalize x5 + en_ul x5 32 = x6 at *
  have hlast : x6.toInt32 &&& 127 = iO ((tb N.testBit 64 : Nat) : Int) := by
    apply Int32.toBitVec_inj.mp
    apply BitVec.eq_of_toNat_eq
    rw [Int32.toBitVec_and, BitVec.toNat_and, iO_bv _ (Nat.lt_of_le_of_lt hle64 (by decide))]
    have e1 : (x6.toInt32).toBitVec.toNat = x6.toBitVec.toNat % 4294967296 := by
      rw [Int64.toBitVec_toInt32, BitVec.signExtend_eq_setWidth_of_le _ (by decide), BitVec.toNat_setWidth]
    rw [e1, y6]
    have e2 : (127 : Int32).toBitVec.toNat = 2 ^ 7 - 1 := by decide
    rw [e2, Nat.and_two_pow_sub_one_eq_mod]
    exact m127 t5
  rw [hlast]
