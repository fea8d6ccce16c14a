/-! THE EXECUTOR: machine numbers and heap cells as rewriting rules; conditions are settled by omega. Written by wip/whole/mk.py. -/
theorem ki_0 : (0 : Int32) = iO 0 := rfl
theorem ki_1 : (1 : Int32) = iO 1 := rfl
theorem ki_2 : (2 : Int32) = iO 2 := rfl
theorem ki_3 : (3 : Int32) = iO 3 := rfl
theorem ki_4 : (4 : Int32) = iO 4 := rfl
theorem ki_5 : (5 : Int32) = iO 5 := rfl
theorem ki_6 : (6 : Int32) = iO 6 := rfl
theorem ki_7 : (7 : Int32) = iO 7 := rfl
theorem ki_8 : (8 : Int32) = iO 8 := rfl
theorem ki_9 : (9 : Int32) = iO 9 := rfl
theorem ki_10 : (10 : Int32) = iO 10 := rfl
theorem ki_11 : (11 : Int32) = iO 11 := rfl
theorem ki_12 : (12 : Int32) = iO 12 := rfl
theorem ki_13 : (13 : Int32) = iO 13 := rfl
theorem ki_14 : (14 : Int32) = iO 14 := rfl
theorem ki_15 : (15 : Int32) = iO 15 := rfl
theorem ki_20 : (20 : Int32) = iO 20 := rfl
theorem ki_21 : (21 : Int32) = iO 21 := rfl
theorem ki_30 : (30 : Int32) = iO 30 := rfl
theorem ki_31 : (31 : Int32) = iO 31 := rfl
theorem ki_40 : (40 : Int32) = iO 40 := rfl
theorem ki_41 : (41 : Int32) = iO 41 := rfl
theorem ki_50 : (50 : Int32) = iO 50 := rfl
theorem ki_51 : (51 : Int32) = iO 51 := rfl
theorem ki_60 : (60 : Int32) = iO 60 := rfl
theorem ki_63 : (63 : Int32) = iO 63 := rfl
theorem ki_64 : (64 : Int32) = iO 64 := rfl
theorem ki_65 : (65 : Int32) = iO 65 := rfl
theorem ki_100 : (100 : Int32) = iO 100 := rfl
theorem ki_158 : (158 : Int32) = iO 158 := rfl
theorem ki_160 : (160 : Int32) = iO 160 := rfl
theorem ki_200 : (200 : Int32) = iO 200 := rfl
theorem ki_212 : (212 : Int32) = iO 212 := rfl
theorem ki_1000 : (1000 : Int32) = iO 1000 := rfl
theorem ki_2000 : (2000 : Int32) = iO 2000 := rfl
theorem ki_2001 : (2001 : Int32) = iO 2001 := rfl
theorem ki_5000 : (5000 : Int32) = iO 5000 := rfl
theorem ki_10000 : (10000 : Int32) = iO 10000 := rfl
theorem ki_10001 : (10001 : Int32) = iO 10001 := rfl
theorem ki_100000 : (100000 : Int32) = iO 100000 := rfl
theorem ki_200000 : (200000 : Int32) = iO 200000 := rfl
theorem ki_1000000 : (1000000 : Int32) = iO 1000000 := rfl
theorem ki_2000000 : (2000000 : Int32) = iO 2000000 := rfl
theorem ki_3000000 : (3000000 : Int32) = iO 3000000 := rfl
theorem kl_0 : (0 : Int64) = lO 0 := rfl
theorem kl_1 : (1 : Int64) = lO 1 := rfl
theorem kl_2 : (2 : Int64) = lO 2 := rfl
theorem kl_5 : (5 : Int64) = lO 5 := rfl
theorem kl_7 : (7 : Int64) = lO 7 := rfl
theorem kl_20 : (20 : Int64) = lO 20 := rfl
theorem kl_63 : (63 : Int64) = lO 63 := rfl
theorem kl_10000 : (10000 : Int64) = lO 10000 := rfl
theorem kn_4 : Int32.ofNat 4 = iO 4 := rfl
theorem kn_8 : Int32.ofNat 8 = iO 8 := rfl
theorem kn_10 : Int32.ofNat 10 = iO 10 := rfl
theorem kn_20 : Int32.ofNat 20 = iO 20 := rfl
theorem kn_24 : Int32.ofNat 24 = iO 24 := rfl
theorem kn_40 : Int32.ofNat 40 = iO 40 := rfl
theorem kn_41 : Int32.ofNat 41 = iO 41 := rfl
theorem kn_50 : Int32.ofNat 50 = iO 50 := rfl
theorem kn_60 : Int32.ofNat 60 = iO 60 := rfl
theorem kn_158 : Int32.ofNat 158 = iO 158 := rfl
theorem kn_160 : Int32.ofNat 160 = iO 160 := rfl
theorem kn_200 : Int32.ofNat 200 = iO 200 := rfl
theorem kn_212 : Int32.ofNat 212 = iO 212 := rfl
theorem kn_2001 : Int32.ofNat 2001 = iO 2001 := rfl
theorem x_lt {a b : Int} (ha : i32 a) (hb : i32 b) : (iO a < iO b) = (a < b) := propext (iO_lt ha hb)
theorem x_le {a b : Int} (ha : i32 a) (hb : i32 b) : (iO a ≤ iO b) = (a ≤ b) := propext (iO_le ha hb)
theorem x_eq {a b : Int} (ha : i32 a) (hb : i32 b) : (iO a = iO b) = (a = b) := propext (iO_eq ha hb)
theorem x_ix {k : Int} {n : Nat} (h : i32 k) : en_ix (iO k) n = (0 ≤ k ∧ k < n) := propext (iO_ix h)
theorem x_nat {k : Int} (h0 : 0 ≤ k) (h : i32 k) : (iO k).toNatClampNeg = k.toNat := iO_nat h0 h
theorem y_lt {a b : Int} (ha : i64 a) (hb : i64 b) : (lO a < lO b) = (a < b) := propext (lO_lt ha hb)
theorem y_le {a b : Int} (ha : i64 a) (hb : i64 b) : (lO a ≤ lO b) = (a ≤ b) := propext (lO_le ha hb)
theorem y_eq {a b : Int} (ha : i64 a) (hb : i64 b) : (lO a = lO b) = (a = b) := propext (lO_eq ha hb)
theorem t_lt {a b : Int} (h : a < b) : (a < b) = True := eq_true h
theorem f_lt {a b : Int} (h : b ≤ a) : (a < b) = False := eq_false (by omega)
theorem t_le {a b : Int} (h : a ≤ b) : (a ≤ b) = True := eq_true h
theorem f_le {a b : Int} (h : b < a) : (a ≤ b) = False := eq_false (by omega)
theorem t_eq {a b : Int} (h : a = b) : (a = b) = True := eq_true h
theorem f_eq {a b : Int} (h : a ≠ b) : (a = b) = False := eq_false h
theorem u_eq {f : Nat → Int32} {k j : Nat} {x : Int32} (h : j = k) : upd f k x j = x := by simp [upd, h]
theorem u_ne {f : Nat → Int32} {k j : Nat} {x : Int32} (h : j ≠ k) : upd f k x j = f j := by simp [upd, h]
theorem v_eq {f : Nat → Int64} {k j : Nat} {x : Int64} (h : j = k) : vp_updL f k x j = x := by simp [vp_updL, h]
theorem v_ne {f : Nat → Int64} {k j : Nat} {x : Int64} (h : j ≠ k) : vp_updL f k x j = f j := by simp [vp_updL, h]
theorem w_eq {α : Type} {f : Nat → α} {k j : Nat} {x : α} (h : j = k) : va_up f k x j = x := by simp [va_up, h]
theorem w_ne {α : Type} {f : Nat → α} {k j : Nat} {x : α} (h : j ≠ k) : va_up f k x j = f j := by simp [va_up, h]
theorem bl_0 : (iO 0 &&& iO 1) = iO 0 := rfl
theorem bl_1 : (iO 1 &&& iO 1) = iO 1 := rfl
theorem tn_lt {a b : Nat} (h : a < b) : (a < b) = True := eq_true h
theorem fn_lt {a b : Nat} (h : b ≤ a) : (a < b) = False := eq_false (by omega)
theorem tn_le {a b : Nat} (h : a ≤ b) : (a ≤ b) = True := eq_true h
theorem fn_le {a b : Nat} (h : b < a) : (a ≤ b) = False := eq_false (by omega)
theorem tn_eq {a b : Nat} (h : a = b) : (a = b) = True := eq_true h
theorem fn_eq {a b : Nat} (h : a ≠ b) : (a = b) = False := eq_false h
section BND
variable {ρ : Type}
theorem bI_s (x : Int32) (z : en_H) (f : Int32 → en_H → Option ρ) : en_bI (some (some (.int x), z)) f = f x z := rfl
theorem bL_s (x : Int64) (z : en_H) (f : Int64 → en_H → Option ρ) : en_bL (some (some (.long x), z)) f = f x z := rfl
theorem bA_s (x : Nat) (z : en_H) (f0 : en_H → Option ρ) (f : Nat → en_H → Option ρ) : en_bA (some (some (.ref x), z)) f0 f = f x z := rfl
theorem bA_n (z : en_H) (f0 : en_H → Option ρ) (f : Nat → en_H → Option ρ) : en_bA (some (some .null, z)) f0 f = f0 z := rfl
theorem bV_s (z : en_H) (f : en_H → Option ρ) : en_bV (some (none, z)) f = f z := rfl
theorem mq_s (q : Nat) (f0 : Option ρ) (f : Nat → Option ρ) : en_mq (some q) f0 f = f q := rfl
theorem mq_n (f0 : Option ρ) (f : Nat → Option ρ) : en_mq none f0 f = f0 := rfl
end BND
