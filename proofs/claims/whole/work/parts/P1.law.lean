/-! THE LAW'S LOOP. Written by wip/whole/genlaw.py. -/
theorem lw_ln {L : Nat} {xs : Nat → Int32} {ρ : Type} (z : en_H) (f : Int32 → Option ρ) : en_ln (L, xs) z 0 f = f (Int32.ofNat L) := rfl
theorem lw_a0 {L : Nat} {xs : Nat → Int32} {ρ : Type} (z : en_H) (i : Int32) (f : Int32 → Option ρ) : en_aI (L, xs) z 0 i f = if en_ix i L then f (xs i.toNatClampNeg) else none := rfl
theorem lw_ofNat (L : Nat) : Int32.ofNat L = iO (L : Int) := (iO_nI L).symm
section LWS
variable {L : Nat} {xs : Nat → Int32} {S : ST5} {z D : en_H} {c : Nat}
/-- what a round of the law leaves -/
def LW6 (L : Nat) (xs : Nat → Int32) (z D : en_H) (c : Nat) : Prop := ∃ S' z' D', b_L_law_1 (L, xs) 60 0 1 26 (iO (6 * (c : Int))) z = b_L_law_1 (L, xs) 60 0 1 26 (iO (6 * ((c + 1 : Nat) : Int))) z' ∧ INV S' z' D' ∧ GR D D'
theorem lw_ix {c L : Nat} (hL : L ≤ 3072) (hc : 6 * c + 6 ≤ L) (j : Int) (h0 : 0 ≤ j) (h1 : j < 6) : en_ix (iO (6 * (c : Int)) + iO j) L = True := by
  rw [iO_add]
  exact eq_true ((iO_ix (by unfold i32; omega)).mpr (by omega))
theorem lw_tn {c L : Nat} (hL : L ≤ 3072) (hc : 6 * c + 6 ≤ L) (j : Nat) (h1 : j < 6) : (iO (6 * (c : Int)) + iO (j : Int)).toNatClampNeg = 6 * c + j := by
  rw [iO_add, iO_nat (by omega) (by unfold i32; omega)]
  omega
theorem lw_0 (hL : L ≤ 3072) (hc : 6 * c + 6 ≤ L) (hI : INV S z D) (ho : xs (6 * c) &&& 63 = 0) : LW6 L xs z D c := by
  have hS := hI.ok
  obtain ⟨z1, z2, D1, f1, f2, f3, f4, f5⟩ := call_int (cs_slope (sc := (L, xs)) (n := 20) hS (i32_of (xs (6 * c + 1))) (i32_of (xs (6 * c + 2))) (i32_of (xs (6 * c + 3))) (i32_of (xs (6 * c + 4)))) (mc_slope (sc := (L, xs)) (n := 20) hS (i32_of (xs (6 * c + 1))) (i32_of (xs (6 * c + 2))) (i32_of (xs (6 * c + 3))) (i32_of (xs (6 * c + 4)))) (ok_slope hS) hI
  simp only [iO_as] at f1 f2
  have f1 : f_X11_slope (L, xs) 60 1 (xs (6 * c + 1)) (xs (6 * c + 2)) (xs (6 * c + 3)) (xs (6 * c + 4)) z = some (some (.int _), z1) := f1
  have f2 : f_X12_slope (L, xs) 60 26 (xs (6 * c + 1)) (xs (6 * c + 2)) (xs (6 * c + 3)) (xs (6 * c + 4)) z1 = some (some (.int _), z2) := f2
  have c1 := hI.c1
  have x0 : en_ix (iO (6 * (c : Int))) L = True := eq_true ((iO_ix (by unfold i32; omega)).mpr (by omega))
  have t0 : (iO (6 * (c : Int))).toNatClampNeg = 6 * c := by rw [iO_nat (by omega) (by unfold i32; omega)]; omega
  have x1 : en_ix (iO (6 * (c : Int)) + 1) L = True := lw_ix hL hc 1 (by omega) (by omega)
  have t1 : (iO (6 * (c : Int)) + 1).toNatClampNeg = 6 * c + 1 := lw_tn hL hc 1 (by omega)
  have x2 : en_ix (iO (6 * (c : Int)) + 2) L = True := lw_ix hL hc 2 (by omega) (by omega)
  have t2 : (iO (6 * (c : Int)) + 2).toNatClampNeg = 6 * c + 2 := lw_tn hL hc 2 (by omega)
  have x3 : en_ix (iO (6 * (c : Int)) + 3) L = True := lw_ix hL hc 3 (by omega) (by omega)
  have t3 : (iO (6 * (c : Int)) + 3).toNatClampNeg = 6 * c + 3 := lw_tn hL hc 3 (by omega)
  have x4 : en_ix (iO (6 * (c : Int)) + 4) L = True := lw_ix hL hc 4 (by omega) (by omega)
  have t4 : (iO (6 * (c : Int)) + 4).toNatClampNeg = 6 * c + 4 := lw_tn hL hc 4 (by omega)
  have hlt : (iO (L : Int) - 6 < iO (6 * (c : Int))) = False := eq_false (by rw [ki_6, iO_sub]; exact nlt (by unfold i32; omega) (by unfold i32; omega) (by omega))
  refine ⟨_, z2, D1, ?_, f3, f4⟩
  rw [eb_L_law_1]
  simp only [↓reduceIte, ↓lw_ln, lw_ofNat, hlt, ↓lw_a0, x0, t0, x1, t1, x2, t2, x3, t3, x4, t4, ho, c1, f1, bI_s, f5, f2, en_le]
  rw [ki_6, iO_add, show 6 * (c : Int) + 6 = 6 * ((c + 1 : Nat) : Int) by omega]
theorem lw_1 (hL : L ≤ 3072) (hc : 6 * c + 6 ≤ L) (hI : INV S z D) (ho : xs (6 * c) &&& 63 = 1) : LW6 L xs z D c := by
  have hS := hI.ok
  obtain ⟨z1, z2, D1, f1, f2, f3, f4, f5⟩ := call_int (cs_row (sc := (L, xs)) (n := 20) hS (i32_of (xs (6 * c + 1))) (i32_of (xs (6 * c + 2))) (i32_of (xs (6 * c + 3)))) (mc_row (sc := (L, xs)) (n := 20) hS (i32_of (xs (6 * c + 1))) (i32_of (xs (6 * c + 2))) (i32_of (xs (6 * c + 3)))) (ok_row hS) hI
  simp only [iO_as] at f1 f2
  have f1 : f_X11_row (L, xs) 60 1 (xs (6 * c + 1)) (xs (6 * c + 2)) (xs (6 * c + 3)) z = some (some (.int _), z1) := f1
  have f2 : f_X12_row (L, xs) 60 26 (xs (6 * c + 1)) (xs (6 * c + 2)) (xs (6 * c + 3)) z1 = some (some (.int _), z2) := f2
  have c1 := hI.c1
  have h0 : ((1 : Int32) = 0) = False := eq_false (by decide)
  have x0 : en_ix (iO (6 * (c : Int))) L = True := eq_true ((iO_ix (by unfold i32; omega)).mpr (by omega))
  have t0 : (iO (6 * (c : Int))).toNatClampNeg = 6 * c := by rw [iO_nat (by omega) (by unfold i32; omega)]; omega
  have x1 : en_ix (iO (6 * (c : Int)) + 1) L = True := lw_ix hL hc 1 (by omega) (by omega)
  have t1 : (iO (6 * (c : Int)) + 1).toNatClampNeg = 6 * c + 1 := lw_tn hL hc 1 (by omega)
  have x2 : en_ix (iO (6 * (c : Int)) + 2) L = True := lw_ix hL hc 2 (by omega) (by omega)
  have t2 : (iO (6 * (c : Int)) + 2).toNatClampNeg = 6 * c + 2 := lw_tn hL hc 2 (by omega)
  have x3 : en_ix (iO (6 * (c : Int)) + 3) L = True := lw_ix hL hc 3 (by omega) (by omega)
  have t3 : (iO (6 * (c : Int)) + 3).toNatClampNeg = 6 * c + 3 := lw_tn hL hc 3 (by omega)
  have hlt : (iO (L : Int) - 6 < iO (6 * (c : Int))) = False := eq_false (by rw [ki_6, iO_sub]; exact nlt (by unfold i32; omega) (by unfold i32; omega) (by omega))
  refine ⟨_, z2, D1, ?_, f3, f4⟩
  rw [eb_L_law_1]
  simp only [↓reduceIte, ↓lw_ln, lw_ofNat, hlt, ↓lw_a0, x0, t0, x1, t1, x2, t2, x3, t3, h0, ho, c1, f1, bI_s, f5, f2, en_le]
  rw [ki_6, iO_add, show 6 * (c : Int) + 6 = 6 * ((c + 1 : Nat) : Int) by omega]
theorem lw_2 (hL : L ≤ 3072) (hc : 6 * c + 6 ≤ L) (hI : INV S z D) (ho : xs (6 * c) &&& 63 = 2) : LW6 L xs z D c := by
  have hS := hI.ok
  obtain ⟨z1, z2, D1, f1, f2, f3, f4, f5⟩ := call_int (cs_even (sc := (L, xs)) (n := 20) hS (i32_of (xs (6 * c + 1))) (i32_of (xs (6 * c + 2))) (i32_of (xs (6 * c + 3)))) (mc_even (sc := (L, xs)) (n := 20) hS (i32_of (xs (6 * c + 1))) (i32_of (xs (6 * c + 2))) (i32_of (xs (6 * c + 3)))) (ok_even hS) hI
  simp only [iO_as] at f1 f2
  have f1 : f_X11_even (L, xs) 60 1 (xs (6 * c + 1)) (xs (6 * c + 2)) (xs (6 * c + 3)) z = some (some (.int _), z1) := f1
  have f2 : f_X12_even (L, xs) 60 26 (xs (6 * c + 1)) (xs (6 * c + 2)) (xs (6 * c + 3)) z1 = some (some (.int _), z2) := f2
  have c1 := hI.c1
  have h0 : ((2 : Int32) = 0) = False := eq_false (by decide)
  have h1 : ((2 : Int32) = 1) = False := eq_false (by decide)
  have x0 : en_ix (iO (6 * (c : Int))) L = True := eq_true ((iO_ix (by unfold i32; omega)).mpr (by omega))
  have t0 : (iO (6 * (c : Int))).toNatClampNeg = 6 * c := by rw [iO_nat (by omega) (by unfold i32; omega)]; omega
  have x1 : en_ix (iO (6 * (c : Int)) + 1) L = True := lw_ix hL hc 1 (by omega) (by omega)
  have t1 : (iO (6 * (c : Int)) + 1).toNatClampNeg = 6 * c + 1 := lw_tn hL hc 1 (by omega)
  have x2 : en_ix (iO (6 * (c : Int)) + 2) L = True := lw_ix hL hc 2 (by omega) (by omega)
  have t2 : (iO (6 * (c : Int)) + 2).toNatClampNeg = 6 * c + 2 := lw_tn hL hc 2 (by omega)
  have x3 : en_ix (iO (6 * (c : Int)) + 3) L = True := lw_ix hL hc 3 (by omega) (by omega)
  have t3 : (iO (6 * (c : Int)) + 3).toNatClampNeg = 6 * c + 3 := lw_tn hL hc 3 (by omega)
  have hlt : (iO (L : Int) - 6 < iO (6 * (c : Int))) = False := eq_false (by rw [ki_6, iO_sub]; exact nlt (by unfold i32; omega) (by unfold i32; omega) (by omega))
  refine ⟨_, z2, D1, ?_, f3, f4⟩
  rw [eb_L_law_1]
  simp only [↓reduceIte, ↓lw_ln, lw_ofNat, hlt, ↓lw_a0, x0, t0, x1, t1, x2, t2, x3, t3, h0, h1, ho, c1, f1, bI_s, f5, f2, en_le]
  rw [ki_6, iO_add, show 6 * (c : Int) + 6 = 6 * ((c + 1 : Nat) : Int) by omega]
theorem lw_3 (hL : L ≤ 3072) (hc : 6 * c + 6 ≤ L) (hI : INV S z D) (ho : xs (6 * c) &&& 63 = 3) : LW6 L xs z D c := by
  have hS := hI.ok
  obtain ⟨z1, z2, D1, f1, f2, f3, f4, f5⟩ := call_int (cs_ring (sc := (L, xs)) (n := 20) hS (i32_of (xs (6 * c + 1))) (i32_of (xs (6 * c + 2)))) (mc_ring (sc := (L, xs)) (n := 20) hS (i32_of (xs (6 * c + 1))) (i32_of (xs (6 * c + 2)))) (ok_ring hS) hI
  simp only [iO_as] at f1 f2
  have f1 : f_X11_ring (L, xs) 60 1 (xs (6 * c + 1)) (xs (6 * c + 2)) z = some (some (.int _), z1) := f1
  have f2 : f_X12_ring (L, xs) 60 26 (xs (6 * c + 1)) (xs (6 * c + 2)) z1 = some (some (.int _), z2) := f2
  have c1 := hI.c1
  have h0 : ((3 : Int32) = 0) = False := eq_false (by decide)
  have h1 : ((3 : Int32) = 1) = False := eq_false (by decide)
  have h2 : ((3 : Int32) = 2) = False := eq_false (by decide)
  have x0 : en_ix (iO (6 * (c : Int))) L = True := eq_true ((iO_ix (by unfold i32; omega)).mpr (by omega))
  have t0 : (iO (6 * (c : Int))).toNatClampNeg = 6 * c := by rw [iO_nat (by omega) (by unfold i32; omega)]; omega
  have x1 : en_ix (iO (6 * (c : Int)) + 1) L = True := lw_ix hL hc 1 (by omega) (by omega)
  have t1 : (iO (6 * (c : Int)) + 1).toNatClampNeg = 6 * c + 1 := lw_tn hL hc 1 (by omega)
  have x2 : en_ix (iO (6 * (c : Int)) + 2) L = True := lw_ix hL hc 2 (by omega) (by omega)
  have t2 : (iO (6 * (c : Int)) + 2).toNatClampNeg = 6 * c + 2 := lw_tn hL hc 2 (by omega)
  have hlt : (iO (L : Int) - 6 < iO (6 * (c : Int))) = False := eq_false (by rw [ki_6, iO_sub]; exact nlt (by unfold i32; omega) (by unfold i32; omega) (by omega))
  refine ⟨_, z2, D1, ?_, f3, f4⟩
  rw [eb_L_law_1]
  simp only [↓reduceIte, ↓lw_ln, lw_ofNat, hlt, ↓lw_a0, x0, t0, x1, t1, x2, t2, h0, h1, h2, ho, c1, f1, bI_s, f5, f2, en_le]
  rw [ki_6, iO_add, show 6 * (c : Int) + 6 = 6 * ((c + 1 : Nat) : Int) by omega]
theorem lw_4 (hL : L ≤ 3072) (hc : 6 * c + 6 ≤ L) (hI : INV S z D) (ho : xs (6 * c) &&& 63 = 4) : LW6 L xs z D c := by
  have hS := hI.ok
  obtain ⟨z1, z2, D1, f1, f2, f3, f4, f5⟩ := call_int (cs_cut (sc := (L, xs)) (n := 20) hS (i32_of (xs (6 * c + 1))) (i32_of (xs (6 * c + 2))) (i32_of (xs (6 * c + 3))) (i32_of (xs (6 * c + 4))) (i32_of (xs (6 * c + 5)))) (mc_cut (sc := (L, xs)) (n := 20) hS (i32_of (xs (6 * c + 1))) (i32_of (xs (6 * c + 2))) (i32_of (xs (6 * c + 3))) (i32_of (xs (6 * c + 4))) (i32_of (xs (6 * c + 5)))) (ok_cut hS) hI
  simp only [iO_as] at f1 f2
  have f1 : f_X11_cut (L, xs) 60 1 (xs (6 * c + 1)) (xs (6 * c + 2)) (xs (6 * c + 3)) (xs (6 * c + 4)) (xs (6 * c + 5)) z = some (some (.int _), z1) := f1
  have f2 : f_X12_cut (L, xs) 60 26 (xs (6 * c + 1)) (xs (6 * c + 2)) (xs (6 * c + 3)) (xs (6 * c + 4)) (xs (6 * c + 5)) z1 = some (some (.int _), z2) := f2
  have c1 := hI.c1
  have h0 : ((4 : Int32) = 0) = False := eq_false (by decide)
  have h1 : ((4 : Int32) = 1) = False := eq_false (by decide)
  have h2 : ((4 : Int32) = 2) = False := eq_false (by decide)
  have h3 : ((4 : Int32) = 3) = False := eq_false (by decide)
  have x0 : en_ix (iO (6 * (c : Int))) L = True := eq_true ((iO_ix (by unfold i32; omega)).mpr (by omega))
  have t0 : (iO (6 * (c : Int))).toNatClampNeg = 6 * c := by rw [iO_nat (by omega) (by unfold i32; omega)]; omega
  have x1 : en_ix (iO (6 * (c : Int)) + 1) L = True := lw_ix hL hc 1 (by omega) (by omega)
  have t1 : (iO (6 * (c : Int)) + 1).toNatClampNeg = 6 * c + 1 := lw_tn hL hc 1 (by omega)
  have x2 : en_ix (iO (6 * (c : Int)) + 2) L = True := lw_ix hL hc 2 (by omega) (by omega)
  have t2 : (iO (6 * (c : Int)) + 2).toNatClampNeg = 6 * c + 2 := lw_tn hL hc 2 (by omega)
  have x3 : en_ix (iO (6 * (c : Int)) + 3) L = True := lw_ix hL hc 3 (by omega) (by omega)
  have t3 : (iO (6 * (c : Int)) + 3).toNatClampNeg = 6 * c + 3 := lw_tn hL hc 3 (by omega)
  have x4 : en_ix (iO (6 * (c : Int)) + 4) L = True := lw_ix hL hc 4 (by omega) (by omega)
  have t4 : (iO (6 * (c : Int)) + 4).toNatClampNeg = 6 * c + 4 := lw_tn hL hc 4 (by omega)
  have x5 : en_ix (iO (6 * (c : Int)) + 5) L = True := lw_ix hL hc 5 (by omega) (by omega)
  have t5 : (iO (6 * (c : Int)) + 5).toNatClampNeg = 6 * c + 5 := lw_tn hL hc 5 (by omega)
  have hlt : (iO (L : Int) - 6 < iO (6 * (c : Int))) = False := eq_false (by rw [ki_6, iO_sub]; exact nlt (by unfold i32; omega) (by unfold i32; omega) (by omega))
  refine ⟨_, z2, D1, ?_, f3, f4⟩
  rw [eb_L_law_1]
  simp only [↓reduceIte, ↓lw_ln, lw_ofNat, hlt, ↓lw_a0, x0, t0, x1, t1, x2, t2, x3, t3, x4, t4, x5, t5, h0, h1, h2, h3, ho, c1, f1, bI_s, f5, f2, en_le]
  rw [ki_6, iO_add, show 6 * (c : Int) + 6 = 6 * ((c + 1 : Nat) : Int) by omega]
theorem lw_5 (hL : L ≤ 3072) (hc : 6 * c + 6 ≤ L) (hI : INV S z D) (ho : xs (6 * c) &&& 63 = 5) : LW6 L xs z D c := by
  have hS := hI.ok
  obtain ⟨z1, z2, D1, f1, f2, f3, f4, f5⟩ := call_int (cs_points (sc := (L, xs)) (n := 20) hS (i32_of (xs (6 * c + 1)))) (mc_points (sc := (L, xs)) (n := 20) hS (i32_of (xs (6 * c + 1)))) (ok_points hS) hI
  simp only [iO_as] at f1 f2
  have f1 : f_X11_points (L, xs) 60 1 (xs (6 * c + 1)) z = some (some (.int _), z1) := f1
  have f2 : f_X12_points (L, xs) 60 26 (xs (6 * c + 1)) z1 = some (some (.int _), z2) := f2
  have c1 := hI.c1
  have h0 : ((5 : Int32) = 0) = False := eq_false (by decide)
  have h1 : ((5 : Int32) = 1) = False := eq_false (by decide)
  have h2 : ((5 : Int32) = 2) = False := eq_false (by decide)
  have h3 : ((5 : Int32) = 3) = False := eq_false (by decide)
  have h4 : ((5 : Int32) = 4) = False := eq_false (by decide)
  have x0 : en_ix (iO (6 * (c : Int))) L = True := eq_true ((iO_ix (by unfold i32; omega)).mpr (by omega))
  have t0 : (iO (6 * (c : Int))).toNatClampNeg = 6 * c := by rw [iO_nat (by omega) (by unfold i32; omega)]; omega
  have x1 : en_ix (iO (6 * (c : Int)) + 1) L = True := lw_ix hL hc 1 (by omega) (by omega)
  have t1 : (iO (6 * (c : Int)) + 1).toNatClampNeg = 6 * c + 1 := lw_tn hL hc 1 (by omega)
  have hlt : (iO (L : Int) - 6 < iO (6 * (c : Int))) = False := eq_false (by rw [ki_6, iO_sub]; exact nlt (by unfold i32; omega) (by unfold i32; omega) (by omega))
  refine ⟨_, z2, D1, ?_, f3, f4⟩
  rw [eb_L_law_1]
  simp only [↓reduceIte, ↓lw_ln, lw_ofNat, hlt, ↓lw_a0, x0, t0, x1, t1, h0, h1, h2, h3, h4, ho, c1, f1, bI_s, f5, f2, en_le]
  rw [ki_6, iO_add, show 6 * (c : Int) + 6 = 6 * ((c + 1 : Nat) : Int) by omega]
theorem lw_6 (hL : L ≤ 3072) (hc : 6 * c + 6 ≤ L) (hI : INV S z D) (ho : xs (6 * c) &&& 63 = 6) : LW6 L xs z D c := by
  have hS := hI.ok
  obtain ⟨z1, z2, D1, f1, f2, f3, f4, f5⟩ := call_int (cs_drop (sc := (L, xs)) (n := 56) hS (i32_of (xs (6 * c + 1)))) (mc_drop (sc := (L, xs)) (n := 58) hS (i32_of (xs (6 * c + 1)))) (ok_drop hS) hI
  simp only [iO_as] at f1 f2
  have f1 : f_X11_drop (L, xs) 60 1 (xs (6 * c + 1)) z = some (some (.int _), z1) := f1
  have f2 : f_X12_drop (L, xs) 60 26 (xs (6 * c + 1)) z1 = some (some (.int _), z2) := f2
  have c1 := hI.c1
  have h0 : ((6 : Int32) = 0) = False := eq_false (by decide)
  have h1 : ((6 : Int32) = 1) = False := eq_false (by decide)
  have h2 : ((6 : Int32) = 2) = False := eq_false (by decide)
  have h3 : ((6 : Int32) = 3) = False := eq_false (by decide)
  have h4 : ((6 : Int32) = 4) = False := eq_false (by decide)
  have h5 : ((6 : Int32) = 5) = False := eq_false (by decide)
  have x0 : en_ix (iO (6 * (c : Int))) L = True := eq_true ((iO_ix (by unfold i32; omega)).mpr (by omega))
  have t0 : (iO (6 * (c : Int))).toNatClampNeg = 6 * c := by rw [iO_nat (by omega) (by unfold i32; omega)]; omega
  have x1 : en_ix (iO (6 * (c : Int)) + 1) L = True := lw_ix hL hc 1 (by omega) (by omega)
  have t1 : (iO (6 * (c : Int)) + 1).toNatClampNeg = 6 * c + 1 := lw_tn hL hc 1 (by omega)
  have hlt : (iO (L : Int) - 6 < iO (6 * (c : Int))) = False := eq_false (by rw [ki_6, iO_sub]; exact nlt (by unfold i32; omega) (by unfold i32; omega) (by omega))
  refine ⟨_, z2, D1, ?_, f3, f4⟩
  rw [eb_L_law_1]
  simp only [↓reduceIte, ↓lw_ln, lw_ofNat, hlt, ↓lw_a0, x0, t0, x1, t1, h0, h1, h2, h3, h4, h5, ho, c1, f1, bI_s, f5, f2, en_le]
  rw [ki_6, iO_add, show 6 * (c : Int) + 6 = 6 * ((c + 1 : Nat) : Int) by omega]
theorem lw_7 (hL : L ≤ 3072) (hc : 6 * c + 6 ≤ L) (hI : INV S z D) (ho : xs (6 * c) &&& 63 = 7) : LW6 L xs z D c := by
  have hS := hI.ok
  obtain ⟨z1, z2, D1, f1, f2, f3, f4, f5⟩ := call_int (cs_count (sc := (L, xs)) (n := 59) (i32_of (xs (6 * c + 1)))) (mc_count (sc := (L, xs)) (n := 59) (i32_of (xs (6 * c + 1)))) (hS) hI
  simp only [iO_as] at f1 f2
  have f1 : f_X11_count (L, xs) 60 1 (xs (6 * c + 1)) z = some (some (.int _), z1) := f1
  have f2 : f_X12_count (L, xs) 60 26 (xs (6 * c + 1)) z1 = some (some (.int _), z2) := f2
  have c1 := hI.c1
  have h0 : ((7 : Int32) = 0) = False := eq_false (by decide)
  have h1 : ((7 : Int32) = 1) = False := eq_false (by decide)
  have h2 : ((7 : Int32) = 2) = False := eq_false (by decide)
  have h3 : ((7 : Int32) = 3) = False := eq_false (by decide)
  have h4 : ((7 : Int32) = 4) = False := eq_false (by decide)
  have h5 : ((7 : Int32) = 5) = False := eq_false (by decide)
  have h6 : ((7 : Int32) = 6) = False := eq_false (by decide)
  have x0 : en_ix (iO (6 * (c : Int))) L = True := eq_true ((iO_ix (by unfold i32; omega)).mpr (by omega))
  have t0 : (iO (6 * (c : Int))).toNatClampNeg = 6 * c := by rw [iO_nat (by omega) (by unfold i32; omega)]; omega
  have x1 : en_ix (iO (6 * (c : Int)) + 1) L = True := lw_ix hL hc 1 (by omega) (by omega)
  have t1 : (iO (6 * (c : Int)) + 1).toNatClampNeg = 6 * c + 1 := lw_tn hL hc 1 (by omega)
  have hlt : (iO (L : Int) - 6 < iO (6 * (c : Int))) = False := eq_false (by rw [ki_6, iO_sub]; exact nlt (by unfold i32; omega) (by unfold i32; omega) (by omega))
  refine ⟨_, z2, D1, ?_, f3, f4⟩
  rw [eb_L_law_1]
  simp only [↓reduceIte, ↓lw_ln, lw_ofNat, hlt, ↓lw_a0, x0, t0, x1, t1, h0, h1, h2, h3, h4, h5, h6, ho, c1, f1, bI_s, f5, f2, en_le]
  rw [ki_6, iO_add, show 6 * (c : Int) + 6 = 6 * ((c + 1 : Nat) : Int) by omega]
theorem lw_8 (hL : L ≤ 3072) (hc : 6 * c + 6 ≤ L) (hI : INV S z D) (ho : xs (6 * c) &&& 63 = 8) : LW6 L xs z D c := by
  have hS := hI.ok
  obtain ⟨z1, z2, D1, f1, f2, f3, f4, f5⟩ := call_int (cs_whole (sc := (L, xs)) (n := 20) hS (i32_of (xs (6 * c + 1))) (i32_of (xs (6 * c + 2)))) (mc_whole (sc := (L, xs)) (n := 20) hS (i32_of (xs (6 * c + 1))) (i32_of (xs (6 * c + 2)))) (hS) hI
  simp only [iO_as] at f1 f2
  have f1 : f_X11_whole (L, xs) 60 1 (xs (6 * c + 1)) (xs (6 * c + 2)) z = some (some (.int _), z1) := f1
  have f2 : f_X12_whole (L, xs) 60 26 (xs (6 * c + 1)) (xs (6 * c + 2)) z1 = some (some (.int _), z2) := f2
  have c1 := hI.c1
  have h0 : ((8 : Int32) = 0) = False := eq_false (by decide)
  have h1 : ((8 : Int32) = 1) = False := eq_false (by decide)
  have h2 : ((8 : Int32) = 2) = False := eq_false (by decide)
  have h3 : ((8 : Int32) = 3) = False := eq_false (by decide)
  have h4 : ((8 : Int32) = 4) = False := eq_false (by decide)
  have h5 : ((8 : Int32) = 5) = False := eq_false (by decide)
  have h6 : ((8 : Int32) = 6) = False := eq_false (by decide)
  have h7 : ((8 : Int32) = 7) = False := eq_false (by decide)
  have x0 : en_ix (iO (6 * (c : Int))) L = True := eq_true ((iO_ix (by unfold i32; omega)).mpr (by omega))
  have t0 : (iO (6 * (c : Int))).toNatClampNeg = 6 * c := by rw [iO_nat (by omega) (by unfold i32; omega)]; omega
  have x1 : en_ix (iO (6 * (c : Int)) + 1) L = True := lw_ix hL hc 1 (by omega) (by omega)
  have t1 : (iO (6 * (c : Int)) + 1).toNatClampNeg = 6 * c + 1 := lw_tn hL hc 1 (by omega)
  have x2 : en_ix (iO (6 * (c : Int)) + 2) L = True := lw_ix hL hc 2 (by omega) (by omega)
  have t2 : (iO (6 * (c : Int)) + 2).toNatClampNeg = 6 * c + 2 := lw_tn hL hc 2 (by omega)
  have hlt : (iO (L : Int) - 6 < iO (6 * (c : Int))) = False := eq_false (by rw [ki_6, iO_sub]; exact nlt (by unfold i32; omega) (by unfold i32; omega) (by omega))
  refine ⟨_, z2, D1, ?_, f3, f4⟩
  rw [eb_L_law_1]
  simp only [↓reduceIte, ↓lw_ln, lw_ofNat, hlt, ↓lw_a0, x0, t0, x1, t1, x2, t2, h0, h1, h2, h3, h4, h5, h6, h7, ho, c1, f1, bI_s, f5, f2, en_le]
  rw [ki_6, iO_add, show 6 * (c : Int) + 6 = 6 * ((c + 1 : Nat) : Int) by omega]
theorem lw_9 (hL : L ≤ 3072) (hc : 6 * c + 6 ≤ L) (hI : INV S z D) (ho : xs (6 * c) &&& 63 = 9) : LW6 L xs z D c := by
  have hS := hI.ok
  obtain ⟨z1, z2, D1, f1, f2, f3, f4, f5⟩ := call_int (cs_against (sc := (L, xs)) (n := 20) hS (i32_of (xs (6 * c + 1))) (i32_of (xs (6 * c + 2))) (i32_of (xs (6 * c + 3)))) (mc_against (sc := (L, xs)) (n := 20) hS (i32_of (xs (6 * c + 1))) (i32_of (xs (6 * c + 2))) (i32_of (xs (6 * c + 3)))) (hS) hI
  simp only [iO_as] at f1 f2
  have f1 : f_X11_against (L, xs) 60 1 (xs (6 * c + 1)) (xs (6 * c + 2)) (xs (6 * c + 3)) z = some (some (.int _), z1) := f1
  have f2 : f_X12_against (L, xs) 60 26 (xs (6 * c + 1)) (xs (6 * c + 2)) (xs (6 * c + 3)) z1 = some (some (.int _), z2) := f2
  have c1 := hI.c1
  have h0 : ((9 : Int32) = 0) = False := eq_false (by decide)
  have h1 : ((9 : Int32) = 1) = False := eq_false (by decide)
  have h2 : ((9 : Int32) = 2) = False := eq_false (by decide)
  have h3 : ((9 : Int32) = 3) = False := eq_false (by decide)
  have h4 : ((9 : Int32) = 4) = False := eq_false (by decide)
  have h5 : ((9 : Int32) = 5) = False := eq_false (by decide)
  have h6 : ((9 : Int32) = 6) = False := eq_false (by decide)
  have h7 : ((9 : Int32) = 7) = False := eq_false (by decide)
  have h8 : ((9 : Int32) = 8) = False := eq_false (by decide)
  have x0 : en_ix (iO (6 * (c : Int))) L = True := eq_true ((iO_ix (by unfold i32; omega)).mpr (by omega))
  have t0 : (iO (6 * (c : Int))).toNatClampNeg = 6 * c := by rw [iO_nat (by omega) (by unfold i32; omega)]; omega
  have x1 : en_ix (iO (6 * (c : Int)) + 1) L = True := lw_ix hL hc 1 (by omega) (by omega)
  have t1 : (iO (6 * (c : Int)) + 1).toNatClampNeg = 6 * c + 1 := lw_tn hL hc 1 (by omega)
  have x2 : en_ix (iO (6 * (c : Int)) + 2) L = True := lw_ix hL hc 2 (by omega) (by omega)
  have t2 : (iO (6 * (c : Int)) + 2).toNatClampNeg = 6 * c + 2 := lw_tn hL hc 2 (by omega)
  have x3 : en_ix (iO (6 * (c : Int)) + 3) L = True := lw_ix hL hc 3 (by omega) (by omega)
  have t3 : (iO (6 * (c : Int)) + 3).toNatClampNeg = 6 * c + 3 := lw_tn hL hc 3 (by omega)
  have hlt : (iO (L : Int) - 6 < iO (6 * (c : Int))) = False := eq_false (by rw [ki_6, iO_sub]; exact nlt (by unfold i32; omega) (by unfold i32; omega) (by omega))
  refine ⟨_, z2, D1, ?_, f3, f4⟩
  rw [eb_L_law_1]
  simp only [↓reduceIte, ↓lw_ln, lw_ofNat, hlt, ↓lw_a0, x0, t0, x1, t1, x2, t2, x3, t3, h0, h1, h2, h3, h4, h5, h6, h7, h8, ho, c1, f1, bI_s, f5, f2, en_le]
  rw [ki_6, iO_add, show 6 * (c : Int) + 6 = 6 * ((c + 1 : Nat) : Int) by omega]
theorem lw_10 (hL : L ≤ 3072) (hc : 6 * c + 6 ≤ L) (hI : INV S z D) (ho : xs (6 * c) &&& 63 = 10) : LW6 L xs z D c := by
  have hS := hI.ok
  obtain ⟨z1, z2, D1, f1, f2, f3, f4, f5⟩ := call_int (cs_quotient (sc := (L, xs)) (n := 20) hS (i32_of (xs (6 * c + 1))) (i32_of (xs (6 * c + 2)))) (mc_quotient (sc := (L, xs)) (n := 20) hS (i32_of (xs (6 * c + 1))) (i32_of (xs (6 * c + 2)))) (hS) hI
  simp only [iO_as] at f1 f2
  have f1 : f_X11_quotient (L, xs) 60 1 (xs (6 * c + 1)) (xs (6 * c + 2)) z = some (some (.int _), z1) := f1
  have f2 : f_X12_quotient (L, xs) 60 26 (xs (6 * c + 1)) (xs (6 * c + 2)) z1 = some (some (.int _), z2) := f2
  have c1 := hI.c1
  have h0 : ((10 : Int32) = 0) = False := eq_false (by decide)
  have h1 : ((10 : Int32) = 1) = False := eq_false (by decide)
  have h2 : ((10 : Int32) = 2) = False := eq_false (by decide)
  have h3 : ((10 : Int32) = 3) = False := eq_false (by decide)
  have h4 : ((10 : Int32) = 4) = False := eq_false (by decide)
  have h5 : ((10 : Int32) = 5) = False := eq_false (by decide)
  have h6 : ((10 : Int32) = 6) = False := eq_false (by decide)
  have h7 : ((10 : Int32) = 7) = False := eq_false (by decide)
  have h8 : ((10 : Int32) = 8) = False := eq_false (by decide)
  have h9 : ((10 : Int32) = 9) = False := eq_false (by decide)
  have x0 : en_ix (iO (6 * (c : Int))) L = True := eq_true ((iO_ix (by unfold i32; omega)).mpr (by omega))
  have t0 : (iO (6 * (c : Int))).toNatClampNeg = 6 * c := by rw [iO_nat (by omega) (by unfold i32; omega)]; omega
  have x1 : en_ix (iO (6 * (c : Int)) + 1) L = True := lw_ix hL hc 1 (by omega) (by omega)
  have t1 : (iO (6 * (c : Int)) + 1).toNatClampNeg = 6 * c + 1 := lw_tn hL hc 1 (by omega)
  have x2 : en_ix (iO (6 * (c : Int)) + 2) L = True := lw_ix hL hc 2 (by omega) (by omega)
  have t2 : (iO (6 * (c : Int)) + 2).toNatClampNeg = 6 * c + 2 := lw_tn hL hc 2 (by omega)
  have hlt : (iO (L : Int) - 6 < iO (6 * (c : Int))) = False := eq_false (by rw [ki_6, iO_sub]; exact nlt (by unfold i32; omega) (by unfold i32; omega) (by omega))
  refine ⟨_, z2, D1, ?_, f3, f4⟩
  rw [eb_L_law_1]
  simp only [↓reduceIte, ↓lw_ln, lw_ofNat, hlt, ↓lw_a0, x0, t0, x1, t1, x2, t2, h0, h1, h2, h3, h4, h5, h6, h7, h8, h9, ho, c1, f1, bI_s, f5, f2, en_le]
  rw [ki_6, iO_add, show 6 * (c : Int) + 6 = 6 * ((c + 1 : Nat) : Int) by omega]
theorem lw_11 (hL : L ≤ 3072) (hc : 6 * c + 6 ≤ L) (hI : INV S z D) (ho : xs (6 * c) &&& 63 = 11) : LW6 L xs z D c := by
  have hS := hI.ok
  obtain ⟨z1, z2, D1, f1, f2, f3, f4, f5⟩ := call_int (cs_nearer (sc := (L, xs)) (n := 20) hS (i32_of (xs (6 * c + 1))) (i32_of (xs (6 * c + 2)))) (mc_nearer (sc := (L, xs)) (n := 20) hS (i32_of (xs (6 * c + 1))) (i32_of (xs (6 * c + 2)))) (hS) hI
  simp only [iO_as] at f1 f2
  have f1 : f_X11_nearer (L, xs) 60 1 (xs (6 * c + 1)) (xs (6 * c + 2)) z = some (some (.int _), z1) := f1
  have f2 : f_X12_nearer (L, xs) 60 26 (xs (6 * c + 1)) (xs (6 * c + 2)) z1 = some (some (.int _), z2) := f2
  have c1 := hI.c1
  have h0 : ((11 : Int32) = 0) = False := eq_false (by decide)
  have h1 : ((11 : Int32) = 1) = False := eq_false (by decide)
  have h2 : ((11 : Int32) = 2) = False := eq_false (by decide)
  have h3 : ((11 : Int32) = 3) = False := eq_false (by decide)
  have h4 : ((11 : Int32) = 4) = False := eq_false (by decide)
  have h5 : ((11 : Int32) = 5) = False := eq_false (by decide)
  have h6 : ((11 : Int32) = 6) = False := eq_false (by decide)
  have h7 : ((11 : Int32) = 7) = False := eq_false (by decide)
  have h8 : ((11 : Int32) = 8) = False := eq_false (by decide)
  have h9 : ((11 : Int32) = 9) = False := eq_false (by decide)
  have h10 : ((11 : Int32) = 10) = False := eq_false (by decide)
  have x0 : en_ix (iO (6 * (c : Int))) L = True := eq_true ((iO_ix (by unfold i32; omega)).mpr (by omega))
  have t0 : (iO (6 * (c : Int))).toNatClampNeg = 6 * c := by rw [iO_nat (by omega) (by unfold i32; omega)]; omega
  have x1 : en_ix (iO (6 * (c : Int)) + 1) L = True := lw_ix hL hc 1 (by omega) (by omega)
  have t1 : (iO (6 * (c : Int)) + 1).toNatClampNeg = 6 * c + 1 := lw_tn hL hc 1 (by omega)
  have x2 : en_ix (iO (6 * (c : Int)) + 2) L = True := lw_ix hL hc 2 (by omega) (by omega)
  have t2 : (iO (6 * (c : Int)) + 2).toNatClampNeg = 6 * c + 2 := lw_tn hL hc 2 (by omega)
  have hlt : (iO (L : Int) - 6 < iO (6 * (c : Int))) = False := eq_false (by rw [ki_6, iO_sub]; exact nlt (by unfold i32; omega) (by unfold i32; omega) (by omega))
  refine ⟨_, z2, D1, ?_, f3, f4⟩
  rw [eb_L_law_1]
  simp only [↓reduceIte, ↓lw_ln, lw_ofNat, hlt, ↓lw_a0, x0, t0, x1, t1, x2, t2, h0, h1, h2, h3, h4, h5, h6, h7, h8, h9, h10, ho, c1, f1, bI_s, f5, f2, en_le]
  rw [ki_6, iO_add, show 6 * (c : Int) + 6 = 6 * ((c + 1 : Nat) : Int) by omega]
theorem lw_12 (hL : L ≤ 3072) (hc : 6 * c + 6 ≤ L) (hI : INV S z D) (ho : xs (6 * c) &&& 63 = 12) : LW6 L xs z D c := by
  have hS := hI.ok
  obtain ⟨z1, z2, D1, f1, f2, f3, f4, f5⟩ := call_int (cs_within (sc := (L, xs)) (n := 20) hS (i32_of (xs (6 * c + 1))) (i32_of (xs (6 * c + 2))) (i32_of (xs (6 * c + 3))) (i32_of (xs (6 * c + 4)))) (mc_within (sc := (L, xs)) (n := 20) hS (i32_of (xs (6 * c + 1))) (i32_of (xs (6 * c + 2))) (i32_of (xs (6 * c + 3))) (i32_of (xs (6 * c + 4)))) (hS) hI
  simp only [iO_as] at f1 f2
  have f1 : f_X11_within (L, xs) 60 1 (xs (6 * c + 1)) (xs (6 * c + 2)) (xs (6 * c + 3)) (xs (6 * c + 4)) z = some (some (.int _), z1) := f1
  have f2 : f_X12_within (L, xs) 60 26 (xs (6 * c + 1)) (xs (6 * c + 2)) (xs (6 * c + 3)) (xs (6 * c + 4)) z1 = some (some (.int _), z2) := f2
  have c1 := hI.c1
  have h0 : ((12 : Int32) = 0) = False := eq_false (by decide)
  have h1 : ((12 : Int32) = 1) = False := eq_false (by decide)
  have h2 : ((12 : Int32) = 2) = False := eq_false (by decide)
  have h3 : ((12 : Int32) = 3) = False := eq_false (by decide)
  have h4 : ((12 : Int32) = 4) = False := eq_false (by decide)
  have h5 : ((12 : Int32) = 5) = False := eq_false (by decide)
  have h6 : ((12 : Int32) = 6) = False := eq_false (by decide)
  have h7 : ((12 : Int32) = 7) = False := eq_false (by decide)
  have h8 : ((12 : Int32) = 8) = False := eq_false (by decide)
  have h9 : ((12 : Int32) = 9) = False := eq_false (by decide)
  have h10 : ((12 : Int32) = 10) = False := eq_false (by decide)
  have h11 : ((12 : Int32) = 11) = False := eq_false (by decide)
  have x0 : en_ix (iO (6 * (c : Int))) L = True := eq_true ((iO_ix (by unfold i32; omega)).mpr (by omega))
  have t0 : (iO (6 * (c : Int))).toNatClampNeg = 6 * c := by rw [iO_nat (by omega) (by unfold i32; omega)]; omega
  have x1 : en_ix (iO (6 * (c : Int)) + 1) L = True := lw_ix hL hc 1 (by omega) (by omega)
  have t1 : (iO (6 * (c : Int)) + 1).toNatClampNeg = 6 * c + 1 := lw_tn hL hc 1 (by omega)
  have x2 : en_ix (iO (6 * (c : Int)) + 2) L = True := lw_ix hL hc 2 (by omega) (by omega)
  have t2 : (iO (6 * (c : Int)) + 2).toNatClampNeg = 6 * c + 2 := lw_tn hL hc 2 (by omega)
  have x3 : en_ix (iO (6 * (c : Int)) + 3) L = True := lw_ix hL hc 3 (by omega) (by omega)
  have t3 : (iO (6 * (c : Int)) + 3).toNatClampNeg = 6 * c + 3 := lw_tn hL hc 3 (by omega)
  have x4 : en_ix (iO (6 * (c : Int)) + 4) L = True := lw_ix hL hc 4 (by omega) (by omega)
  have t4 : (iO (6 * (c : Int)) + 4).toNatClampNeg = 6 * c + 4 := lw_tn hL hc 4 (by omega)
  have hlt : (iO (L : Int) - 6 < iO (6 * (c : Int))) = False := eq_false (by rw [ki_6, iO_sub]; exact nlt (by unfold i32; omega) (by unfold i32; omega) (by omega))
  refine ⟨_, z2, D1, ?_, f3, f4⟩
  rw [eb_L_law_1]
  simp only [↓reduceIte, ↓lw_ln, lw_ofNat, hlt, ↓lw_a0, x0, t0, x1, t1, x2, t2, x3, t3, x4, t4, h0, h1, h2, h3, h4, h5, h6, h7, h8, h9, h10, h11, ho, c1, f1, bI_s, f5, f2, en_le]
  rw [ki_6, iO_add, show 6 * (c : Int) + 6 = 6 * ((c + 1 : Nat) : Int) by omega]
theorem lw_13 (hL : L ≤ 3072) (hc : 6 * c + 6 ≤ L) (hI : INV S z D) (ho : xs (6 * c) &&& 63 = 13) : LW6 L xs z D c := by
  have hS := hI.ok
  obtain ⟨z1, z2, D1, f1, f2, f3, f4, f5⟩ := call_int (cs_digit (sc := (L, xs)) (n := 20) hS (i32_of (xs (6 * c + 1))) (i32_of (xs (6 * c + 2))) (i32_of (xs (6 * c + 3)))) (mc_digit (sc := (L, xs)) (n := 20) hS (i32_of (xs (6 * c + 1))) (i32_of (xs (6 * c + 2))) (i32_of (xs (6 * c + 3)))) (hS) hI
  simp only [iO_as] at f1 f2
  have f1 : f_X11_digit (L, xs) 60 1 (xs (6 * c + 1)) (xs (6 * c + 2)) (xs (6 * c + 3)) z = some (some (.int _), z1) := f1
  have f2 : f_X12_digit (L, xs) 60 26 (xs (6 * c + 1)) (xs (6 * c + 2)) (xs (6 * c + 3)) z1 = some (some (.int _), z2) := f2
  have c1 := hI.c1
  have h0 : ((13 : Int32) = 0) = False := eq_false (by decide)
  have h1 : ((13 : Int32) = 1) = False := eq_false (by decide)
  have h2 : ((13 : Int32) = 2) = False := eq_false (by decide)
  have h3 : ((13 : Int32) = 3) = False := eq_false (by decide)
  have h4 : ((13 : Int32) = 4) = False := eq_false (by decide)
  have h5 : ((13 : Int32) = 5) = False := eq_false (by decide)
  have h6 : ((13 : Int32) = 6) = False := eq_false (by decide)
  have h7 : ((13 : Int32) = 7) = False := eq_false (by decide)
  have h8 : ((13 : Int32) = 8) = False := eq_false (by decide)
  have h9 : ((13 : Int32) = 9) = False := eq_false (by decide)
  have h10 : ((13 : Int32) = 10) = False := eq_false (by decide)
  have h11 : ((13 : Int32) = 11) = False := eq_false (by decide)
  have h12 : ((13 : Int32) = 12) = False := eq_false (by decide)
  have x0 : en_ix (iO (6 * (c : Int))) L = True := eq_true ((iO_ix (by unfold i32; omega)).mpr (by omega))
  have t0 : (iO (6 * (c : Int))).toNatClampNeg = 6 * c := by rw [iO_nat (by omega) (by unfold i32; omega)]; omega
  have x1 : en_ix (iO (6 * (c : Int)) + 1) L = True := lw_ix hL hc 1 (by omega) (by omega)
  have t1 : (iO (6 * (c : Int)) + 1).toNatClampNeg = 6 * c + 1 := lw_tn hL hc 1 (by omega)
  have x2 : en_ix (iO (6 * (c : Int)) + 2) L = True := lw_ix hL hc 2 (by omega) (by omega)
  have t2 : (iO (6 * (c : Int)) + 2).toNatClampNeg = 6 * c + 2 := lw_tn hL hc 2 (by omega)
  have x3 : en_ix (iO (6 * (c : Int)) + 3) L = True := lw_ix hL hc 3 (by omega) (by omega)
  have t3 : (iO (6 * (c : Int)) + 3).toNatClampNeg = 6 * c + 3 := lw_tn hL hc 3 (by omega)
  have hlt : (iO (L : Int) - 6 < iO (6 * (c : Int))) = False := eq_false (by rw [ki_6, iO_sub]; exact nlt (by unfold i32; omega) (by unfold i32; omega) (by omega))
  refine ⟨_, z2, D1, ?_, f3, f4⟩
  rw [eb_L_law_1]
  simp only [↓reduceIte, ↓lw_ln, lw_ofNat, hlt, ↓lw_a0, x0, t0, x1, t1, x2, t2, x3, t3, h0, h1, h2, h3, h4, h5, h6, h7, h8, h9, h10, h11, h12, ho, c1, f1, bI_s, f5, f2, en_le]
  rw [ki_6, iO_add, show 6 * (c : Int) + 6 = 6 * ((c + 1 : Nat) : Int) by omega]
theorem lw_14 (hL : L ≤ 3072) (hc : 6 * c + 6 ≤ L) (hI : INV S z D) (ho : xs (6 * c) &&& 63 = 14) : LW6 L xs z D c := by
  have hS := hI.ok
  obtain ⟨z1, z2, D1, f1, f2, f3, f4, f5⟩ := call_int (cs_line (sc := (L, xs)) (n := 20) hS (i32_of (xs (6 * c + 1))) (i32_of (xs (6 * c + 2)))) (mc_line (sc := (L, xs)) (n := 20) hS (i32_of (xs (6 * c + 1))) (i32_of (xs (6 * c + 2)))) (hS) hI
  simp only [iO_as] at f1 f2
  have f1 : f_X11_line (L, xs) 60 1 (xs (6 * c + 1)) (xs (6 * c + 2)) z = some (some (.int _), z1) := f1
  have f2 : f_X12_line (L, xs) 60 26 (xs (6 * c + 1)) (xs (6 * c + 2)) z1 = some (some (.int _), z2) := f2
  have c1 := hI.c1
  have h0 : ((14 : Int32) = 0) = False := eq_false (by decide)
  have h1 : ((14 : Int32) = 1) = False := eq_false (by decide)
  have h2 : ((14 : Int32) = 2) = False := eq_false (by decide)
  have h3 : ((14 : Int32) = 3) = False := eq_false (by decide)
  have h4 : ((14 : Int32) = 4) = False := eq_false (by decide)
  have h5 : ((14 : Int32) = 5) = False := eq_false (by decide)
  have h6 : ((14 : Int32) = 6) = False := eq_false (by decide)
  have h7 : ((14 : Int32) = 7) = False := eq_false (by decide)
  have h8 : ((14 : Int32) = 8) = False := eq_false (by decide)
  have h9 : ((14 : Int32) = 9) = False := eq_false (by decide)
  have h10 : ((14 : Int32) = 10) = False := eq_false (by decide)
  have h11 : ((14 : Int32) = 11) = False := eq_false (by decide)
  have h12 : ((14 : Int32) = 12) = False := eq_false (by decide)
  have h13 : ((14 : Int32) = 13) = False := eq_false (by decide)
  have x0 : en_ix (iO (6 * (c : Int))) L = True := eq_true ((iO_ix (by unfold i32; omega)).mpr (by omega))
  have t0 : (iO (6 * (c : Int))).toNatClampNeg = 6 * c := by rw [iO_nat (by omega) (by unfold i32; omega)]; omega
  have x1 : en_ix (iO (6 * (c : Int)) + 1) L = True := lw_ix hL hc 1 (by omega) (by omega)
  have t1 : (iO (6 * (c : Int)) + 1).toNatClampNeg = 6 * c + 1 := lw_tn hL hc 1 (by omega)
  have x2 : en_ix (iO (6 * (c : Int)) + 2) L = True := lw_ix hL hc 2 (by omega) (by omega)
  have t2 : (iO (6 * (c : Int)) + 2).toNatClampNeg = 6 * c + 2 := lw_tn hL hc 2 (by omega)
  have hlt : (iO (L : Int) - 6 < iO (6 * (c : Int))) = False := eq_false (by rw [ki_6, iO_sub]; exact nlt (by unfold i32; omega) (by unfold i32; omega) (by omega))
  refine ⟨_, z2, D1, ?_, f3, f4⟩
  rw [eb_L_law_1]
  simp only [↓reduceIte, ↓lw_ln, lw_ofNat, hlt, ↓lw_a0, x0, t0, x1, t1, x2, t2, h0, h1, h2, h3, h4, h5, h6, h7, h8, h9, h10, h11, h12, h13, ho, c1, f1, bI_s, f5, f2, en_le]
  rw [ki_6, iO_add, show 6 * (c : Int) + 6 = 6 * ((c + 1 : Nat) : Int) by omega]
theorem lw_15 (hL : L ≤ 3072) (hc : 6 * c + 6 ≤ L) (hI : INV S z D) (ho : xs (6 * c) &&& 63 = 15) : LW6 L xs z D c := by
  have hS := hI.ok
  obtain ⟨z1, z2, D1, f1, f2, f3, f4, f5⟩ := call_int (cs_kind (sc := (L, xs)) (n := 20) hS (i32_of (xs (6 * c + 1)))) (mc_kind (sc := (L, xs)) (n := 20) hS (i32_of (xs (6 * c + 1)))) (hS) hI
  simp only [iO_as] at f1 f2
  have f1 : f_X11_kind (L, xs) 60 1 (xs (6 * c + 1)) z = some (some (.int _), z1) := f1
  have f2 : f_X12_kind (L, xs) 60 26 (xs (6 * c + 1)) z1 = some (some (.int _), z2) := f2
  have c1 := hI.c1
  have h0 : ((15 : Int32) = 0) = False := eq_false (by decide)
  have h1 : ((15 : Int32) = 1) = False := eq_false (by decide)
  have h2 : ((15 : Int32) = 2) = False := eq_false (by decide)
  have h3 : ((15 : Int32) = 3) = False := eq_false (by decide)
  have h4 : ((15 : Int32) = 4) = False := eq_false (by decide)
  have h5 : ((15 : Int32) = 5) = False := eq_false (by decide)
  have h6 : ((15 : Int32) = 6) = False := eq_false (by decide)
  have h7 : ((15 : Int32) = 7) = False := eq_false (by decide)
  have h8 : ((15 : Int32) = 8) = False := eq_false (by decide)
  have h9 : ((15 : Int32) = 9) = False := eq_false (by decide)
  have h10 : ((15 : Int32) = 10) = False := eq_false (by decide)
  have h11 : ((15 : Int32) = 11) = False := eq_false (by decide)
  have h12 : ((15 : Int32) = 12) = False := eq_false (by decide)
  have h13 : ((15 : Int32) = 13) = False := eq_false (by decide)
  have h14 : ((15 : Int32) = 14) = False := eq_false (by decide)
  have x0 : en_ix (iO (6 * (c : Int))) L = True := eq_true ((iO_ix (by unfold i32; omega)).mpr (by omega))
  have t0 : (iO (6 * (c : Int))).toNatClampNeg = 6 * c := by rw [iO_nat (by omega) (by unfold i32; omega)]; omega
  have x1 : en_ix (iO (6 * (c : Int)) + 1) L = True := lw_ix hL hc 1 (by omega) (by omega)
  have t1 : (iO (6 * (c : Int)) + 1).toNatClampNeg = 6 * c + 1 := lw_tn hL hc 1 (by omega)
  have hlt : (iO (L : Int) - 6 < iO (6 * (c : Int))) = False := eq_false (by rw [ki_6, iO_sub]; exact nlt (by unfold i32; omega) (by unfold i32; omega) (by omega))
  refine ⟨_, z2, D1, ?_, f3, f4⟩
  rw [eb_L_law_1]
  simp only [↓reduceIte, ↓lw_ln, lw_ofNat, hlt, ↓lw_a0, x0, t0, x1, t1, h0, h1, h2, h3, h4, h5, h6, h7, h8, h9, h10, h11, h12, h13, h14, ho, c1, f1, bI_s, f5, f2, en_le]
  rw [ki_6, iO_add, show 6 * (c : Int) + 6 = 6 * ((c + 1 : Nat) : Int) by omega]
theorem lw_16 (hL : L ≤ 3072) (hc : 6 * c + 6 ≤ L) (hI : INV S z D) (ho : xs (6 * c) &&& 63 = 16) : LW6 L xs z D c := by
  have hS := hI.ok
  obtain ⟨z1, z2, D1, f1, f2, f3, f4, f5⟩ := call_int (cs_step (sc := (L, xs)) (n := 20) hS (i32_of (xs (6 * c + 1))) (i32_of (xs (6 * c + 2)))) (mc_step (sc := (L, xs)) (n := 20) hS (i32_of (xs (6 * c + 1))) (i32_of (xs (6 * c + 2)))) (hS) hI
  simp only [iO_as] at f1 f2
  have f1 : f_X11_step (L, xs) 60 1 (xs (6 * c + 1)) (xs (6 * c + 2)) z = some (some (.int _), z1) := f1
  have f2 : f_X12_step (L, xs) 60 26 (xs (6 * c + 1)) (xs (6 * c + 2)) z1 = some (some (.int _), z2) := f2
  have c1 := hI.c1
  have h0 : ((16 : Int32) = 0) = False := eq_false (by decide)
  have h1 : ((16 : Int32) = 1) = False := eq_false (by decide)
  have h2 : ((16 : Int32) = 2) = False := eq_false (by decide)
  have h3 : ((16 : Int32) = 3) = False := eq_false (by decide)
  have h4 : ((16 : Int32) = 4) = False := eq_false (by decide)
  have h5 : ((16 : Int32) = 5) = False := eq_false (by decide)
  have h6 : ((16 : Int32) = 6) = False := eq_false (by decide)
  have h7 : ((16 : Int32) = 7) = False := eq_false (by decide)
  have h8 : ((16 : Int32) = 8) = False := eq_false (by decide)
  have h9 : ((16 : Int32) = 9) = False := eq_false (by decide)
  have h10 : ((16 : Int32) = 10) = False := eq_false (by decide)
  have h11 : ((16 : Int32) = 11) = False := eq_false (by decide)
  have h12 : ((16 : Int32) = 12) = False := eq_false (by decide)
  have h13 : ((16 : Int32) = 13) = False := eq_false (by decide)
  have h14 : ((16 : Int32) = 14) = False := eq_false (by decide)
  have h15 : ((16 : Int32) = 15) = False := eq_false (by decide)
  have x0 : en_ix (iO (6 * (c : Int))) L = True := eq_true ((iO_ix (by unfold i32; omega)).mpr (by omega))
  have t0 : (iO (6 * (c : Int))).toNatClampNeg = 6 * c := by rw [iO_nat (by omega) (by unfold i32; omega)]; omega
  have x1 : en_ix (iO (6 * (c : Int)) + 1) L = True := lw_ix hL hc 1 (by omega) (by omega)
  have t1 : (iO (6 * (c : Int)) + 1).toNatClampNeg = 6 * c + 1 := lw_tn hL hc 1 (by omega)
  have x2 : en_ix (iO (6 * (c : Int)) + 2) L = True := lw_ix hL hc 2 (by omega) (by omega)
  have t2 : (iO (6 * (c : Int)) + 2).toNatClampNeg = 6 * c + 2 := lw_tn hL hc 2 (by omega)
  have hlt : (iO (L : Int) - 6 < iO (6 * (c : Int))) = False := eq_false (by rw [ki_6, iO_sub]; exact nlt (by unfold i32; omega) (by unfold i32; omega) (by omega))
  refine ⟨_, z2, D1, ?_, f3, f4⟩
  rw [eb_L_law_1]
  simp only [↓reduceIte, ↓lw_ln, lw_ofNat, hlt, ↓lw_a0, x0, t0, x1, t1, x2, t2, h0, h1, h2, h3, h4, h5, h6, h7, h8, h9, h10, h11, h12, h13, h14, h15, ho, c1, f1, bI_s, f5, f2, en_le]
  rw [ki_6, iO_add, show 6 * (c : Int) + 6 = 6 * ((c + 1 : Nat) : Int) by omega]
theorem lw_17 (hL : L ≤ 3072) (hc : 6 * c + 6 ≤ L) (hI : INV S z D) (ho : xs (6 * c) &&& 63 = 17) : LW6 L xs z D c := by
  have hS := hI.ok
  obtain ⟨z1, z2, D1, f1, f2, f3, f4, f5⟩ := call_int (cs_sum (sc := (L, xs)) (n := 20) hS (i32_of (xs (6 * c + 1))) (i32_of (xs (6 * c + 2)))) (mc_sum (sc := (L, xs)) (n := 20) hS (i32_of (xs (6 * c + 1))) (i32_of (xs (6 * c + 2)))) (hS) hI
  simp only [iO_as] at f1 f2
  have f1 : f_X11_sum (L, xs) 60 1 (xs (6 * c + 1)) (xs (6 * c + 2)) z = some (some (.int _), z1) := f1
  have f2 : f_X12_sum (L, xs) 60 26 (xs (6 * c + 1)) (xs (6 * c + 2)) z1 = some (some (.int _), z2) := f2
  have c1 := hI.c1
  have h0 : ((17 : Int32) = 0) = False := eq_false (by decide)
  have h1 : ((17 : Int32) = 1) = False := eq_false (by decide)
  have h2 : ((17 : Int32) = 2) = False := eq_false (by decide)
  have h3 : ((17 : Int32) = 3) = False := eq_false (by decide)
  have h4 : ((17 : Int32) = 4) = False := eq_false (by decide)
  have h5 : ((17 : Int32) = 5) = False := eq_false (by decide)
  have h6 : ((17 : Int32) = 6) = False := eq_false (by decide)
  have h7 : ((17 : Int32) = 7) = False := eq_false (by decide)
  have h8 : ((17 : Int32) = 8) = False := eq_false (by decide)
  have h9 : ((17 : Int32) = 9) = False := eq_false (by decide)
  have h10 : ((17 : Int32) = 10) = False := eq_false (by decide)
  have h11 : ((17 : Int32) = 11) = False := eq_false (by decide)
  have h12 : ((17 : Int32) = 12) = False := eq_false (by decide)
  have h13 : ((17 : Int32) = 13) = False := eq_false (by decide)
  have h14 : ((17 : Int32) = 14) = False := eq_false (by decide)
  have h15 : ((17 : Int32) = 15) = False := eq_false (by decide)
  have h16 : ((17 : Int32) = 16) = False := eq_false (by decide)
  have x0 : en_ix (iO (6 * (c : Int))) L = True := eq_true ((iO_ix (by unfold i32; omega)).mpr (by omega))
  have t0 : (iO (6 * (c : Int))).toNatClampNeg = 6 * c := by rw [iO_nat (by omega) (by unfold i32; omega)]; omega
  have x1 : en_ix (iO (6 * (c : Int)) + 1) L = True := lw_ix hL hc 1 (by omega) (by omega)
  have t1 : (iO (6 * (c : Int)) + 1).toNatClampNeg = 6 * c + 1 := lw_tn hL hc 1 (by omega)
  have x2 : en_ix (iO (6 * (c : Int)) + 2) L = True := lw_ix hL hc 2 (by omega) (by omega)
  have t2 : (iO (6 * (c : Int)) + 2).toNatClampNeg = 6 * c + 2 := lw_tn hL hc 2 (by omega)
  have hlt : (iO (L : Int) - 6 < iO (6 * (c : Int))) = False := eq_false (by rw [ki_6, iO_sub]; exact nlt (by unfold i32; omega) (by unfold i32; omega) (by omega))
  refine ⟨_, z2, D1, ?_, f3, f4⟩
  rw [eb_L_law_1]
  simp only [↓reduceIte, ↓lw_ln, lw_ofNat, hlt, ↓lw_a0, x0, t0, x1, t1, x2, t2, h0, h1, h2, h3, h4, h5, h6, h7, h8, h9, h10, h11, h12, h13, h14, h15, h16, ho, c1, f1, bI_s, f5, f2, en_le]
  rw [ki_6, iO_add, show 6 * (c : Int) + 6 = 6 * ((c + 1 : Nat) : Int) by omega]
theorem lw_18 (hL : L ≤ 3072) (hc : 6 * c + 6 ≤ L) (hI : INV S z D) (ho : xs (6 * c) &&& 63 = 18) : LW6 L xs z D c := by
  have hS := hI.ok
  obtain ⟨z1, z2, D1, f1, f2, f3, f4, f5⟩ := call_int (cs_isEven (sc := (L, xs)) (n := 20) hS (i32_of (xs (6 * c + 1))) (i32_of (xs (6 * c + 2))) (i32_of (xs (6 * c + 3)))) (mc_isEven (sc := (L, xs)) (n := 20) hS (i32_of (xs (6 * c + 1))) (i32_of (xs (6 * c + 2))) (i32_of (xs (6 * c + 3)))) (hS) hI
  simp only [iO_as] at f1 f2
  have f1 : f_X11_isEven (L, xs) 60 1 (xs (6 * c + 1)) (xs (6 * c + 2)) (xs (6 * c + 3)) z = some (some (.int _), z1) := f1
  have f2 : f_X12_isEven (L, xs) 60 26 (xs (6 * c + 1)) (xs (6 * c + 2)) (xs (6 * c + 3)) z1 = some (some (.int _), z2) := f2
  have c1 := hI.c1
  have h0 : ((18 : Int32) = 0) = False := eq_false (by decide)
  have h1 : ((18 : Int32) = 1) = False := eq_false (by decide)
  have h2 : ((18 : Int32) = 2) = False := eq_false (by decide)
  have h3 : ((18 : Int32) = 3) = False := eq_false (by decide)
  have h4 : ((18 : Int32) = 4) = False := eq_false (by decide)
  have h5 : ((18 : Int32) = 5) = False := eq_false (by decide)
  have h6 : ((18 : Int32) = 6) = False := eq_false (by decide)
  have h7 : ((18 : Int32) = 7) = False := eq_false (by decide)
  have h8 : ((18 : Int32) = 8) = False := eq_false (by decide)
  have h9 : ((18 : Int32) = 9) = False := eq_false (by decide)
  have h10 : ((18 : Int32) = 10) = False := eq_false (by decide)
  have h11 : ((18 : Int32) = 11) = False := eq_false (by decide)
  have h12 : ((18 : Int32) = 12) = False := eq_false (by decide)
  have h13 : ((18 : Int32) = 13) = False := eq_false (by decide)
  have h14 : ((18 : Int32) = 14) = False := eq_false (by decide)
  have h15 : ((18 : Int32) = 15) = False := eq_false (by decide)
  have h16 : ((18 : Int32) = 16) = False := eq_false (by decide)
  have h17 : ((18 : Int32) = 17) = False := eq_false (by decide)
  have x0 : en_ix (iO (6 * (c : Int))) L = True := eq_true ((iO_ix (by unfold i32; omega)).mpr (by omega))
  have t0 : (iO (6 * (c : Int))).toNatClampNeg = 6 * c := by rw [iO_nat (by omega) (by unfold i32; omega)]; omega
  have x1 : en_ix (iO (6 * (c : Int)) + 1) L = True := lw_ix hL hc 1 (by omega) (by omega)
  have t1 : (iO (6 * (c : Int)) + 1).toNatClampNeg = 6 * c + 1 := lw_tn hL hc 1 (by omega)
  have x2 : en_ix (iO (6 * (c : Int)) + 2) L = True := lw_ix hL hc 2 (by omega) (by omega)
  have t2 : (iO (6 * (c : Int)) + 2).toNatClampNeg = 6 * c + 2 := lw_tn hL hc 2 (by omega)
  have x3 : en_ix (iO (6 * (c : Int)) + 3) L = True := lw_ix hL hc 3 (by omega) (by omega)
  have t3 : (iO (6 * (c : Int)) + 3).toNatClampNeg = 6 * c + 3 := lw_tn hL hc 3 (by omega)
  have hlt : (iO (L : Int) - 6 < iO (6 * (c : Int))) = False := eq_false (by rw [ki_6, iO_sub]; exact nlt (by unfold i32; omega) (by unfold i32; omega) (by omega))
  refine ⟨_, z2, D1, ?_, f3, f4⟩
  rw [eb_L_law_1]
  simp only [↓reduceIte, ↓lw_ln, lw_ofNat, hlt, ↓lw_a0, x0, t0, x1, t1, x2, t2, x3, t3, h0, h1, h2, h3, h4, h5, h6, h7, h8, h9, h10, h11, h12, h13, h14, h15, h16, h17, ho, c1, f1, bI_s, f5, f2, en_le]
  rw [ki_6, iO_add, show 6 * (c : Int) + 6 = 6 * ((c + 1 : Nat) : Int) by omega]
theorem lw_19 (hL : L ≤ 3072) (hc : 6 * c + 6 ≤ L) (hI : INV S z D) (ho : xs (6 * c) &&& 63 = 19) : LW6 L xs z D c := by
  have hS := hI.ok
  obtain ⟨z1, z2, D1, f1, f2, f3, f4, f5⟩ := call_int (cs_clash (sc := (L, xs)) (n := 20) hS (i32_of (xs (6 * c + 1))) (i32_of (xs (6 * c + 2))) (i32_of (xs (6 * c + 3))) (i32_of (xs (6 * c + 4)))) (mc_clash (sc := (L, xs)) (n := 20) hS (i32_of (xs (6 * c + 1))) (i32_of (xs (6 * c + 2))) (i32_of (xs (6 * c + 3))) (i32_of (xs (6 * c + 4)))) (hS) hI
  simp only [iO_as] at f1 f2
  have f1 : f_X11_clash (L, xs) 60 1 (xs (6 * c + 1)) (xs (6 * c + 2)) (xs (6 * c + 3)) (xs (6 * c + 4)) z = some (some (.int _), z1) := f1
  have f2 : f_X12_clash (L, xs) 60 26 (xs (6 * c + 1)) (xs (6 * c + 2)) (xs (6 * c + 3)) (xs (6 * c + 4)) z1 = some (some (.int _), z2) := f2
  have c1 := hI.c1
  have h0 : ((19 : Int32) = 0) = False := eq_false (by decide)
  have h1 : ((19 : Int32) = 1) = False := eq_false (by decide)
  have h2 : ((19 : Int32) = 2) = False := eq_false (by decide)
  have h3 : ((19 : Int32) = 3) = False := eq_false (by decide)
  have h4 : ((19 : Int32) = 4) = False := eq_false (by decide)
  have h5 : ((19 : Int32) = 5) = False := eq_false (by decide)
  have h6 : ((19 : Int32) = 6) = False := eq_false (by decide)
  have h7 : ((19 : Int32) = 7) = False := eq_false (by decide)
  have h8 : ((19 : Int32) = 8) = False := eq_false (by decide)
  have h9 : ((19 : Int32) = 9) = False := eq_false (by decide)
  have h10 : ((19 : Int32) = 10) = False := eq_false (by decide)
  have h11 : ((19 : Int32) = 11) = False := eq_false (by decide)
  have h12 : ((19 : Int32) = 12) = False := eq_false (by decide)
  have h13 : ((19 : Int32) = 13) = False := eq_false (by decide)
  have h14 : ((19 : Int32) = 14) = False := eq_false (by decide)
  have h15 : ((19 : Int32) = 15) = False := eq_false (by decide)
  have h16 : ((19 : Int32) = 16) = False := eq_false (by decide)
  have h17 : ((19 : Int32) = 17) = False := eq_false (by decide)
  have h18 : ((19 : Int32) = 18) = False := eq_false (by decide)
  have x0 : en_ix (iO (6 * (c : Int))) L = True := eq_true ((iO_ix (by unfold i32; omega)).mpr (by omega))
  have t0 : (iO (6 * (c : Int))).toNatClampNeg = 6 * c := by rw [iO_nat (by omega) (by unfold i32; omega)]; omega
  have x1 : en_ix (iO (6 * (c : Int)) + 1) L = True := lw_ix hL hc 1 (by omega) (by omega)
  have t1 : (iO (6 * (c : Int)) + 1).toNatClampNeg = 6 * c + 1 := lw_tn hL hc 1 (by omega)
  have x2 : en_ix (iO (6 * (c : Int)) + 2) L = True := lw_ix hL hc 2 (by omega) (by omega)
  have t2 : (iO (6 * (c : Int)) + 2).toNatClampNeg = 6 * c + 2 := lw_tn hL hc 2 (by omega)
  have x3 : en_ix (iO (6 * (c : Int)) + 3) L = True := lw_ix hL hc 3 (by omega) (by omega)
  have t3 : (iO (6 * (c : Int)) + 3).toNatClampNeg = 6 * c + 3 := lw_tn hL hc 3 (by omega)
  have x4 : en_ix (iO (6 * (c : Int)) + 4) L = True := lw_ix hL hc 4 (by omega) (by omega)
  have t4 : (iO (6 * (c : Int)) + 4).toNatClampNeg = 6 * c + 4 := lw_tn hL hc 4 (by omega)
  have hlt : (iO (L : Int) - 6 < iO (6 * (c : Int))) = False := eq_false (by rw [ki_6, iO_sub]; exact nlt (by unfold i32; omega) (by unfold i32; omega) (by omega))
  refine ⟨_, z2, D1, ?_, f3, f4⟩
  rw [eb_L_law_1]
  simp only [↓reduceIte, ↓lw_ln, lw_ofNat, hlt, ↓lw_a0, x0, t0, x1, t1, x2, t2, x3, t3, x4, t4, h0, h1, h2, h3, h4, h5, h6, h7, h8, h9, h10, h11, h12, h13, h14, h15, h16, h17, h18, ho, c1, f1, bI_s, f5, f2, en_le]
  rw [ki_6, iO_add, show 6 * (c : Int) + 6 = 6 * ((c + 1 : Nat) : Int) by omega]
theorem lw_20 (hL : L ≤ 3072) (hc : 6 * c + 6 ≤ L) (hI : INV S z D) (ho : xs (6 * c) &&& 63 = 20) : LW6 L xs z D c := by
  have hS := hI.ok
  obtain ⟨z1, z2, D1, f1, f2, f3, f4, f5⟩ := call_int (cs_range (sc := (L, xs)) (n := 20) hS (i32_of (xs (6 * c + 1))) (i32_of (xs (6 * c + 2))) (i32_of (xs (6 * c + 3))) (i32_of (xs (6 * c + 4)))) (mc_range (sc := (L, xs)) (n := 20) hS (i32_of (xs (6 * c + 1))) (i32_of (xs (6 * c + 2))) (i32_of (xs (6 * c + 3))) (i32_of (xs (6 * c + 4)))) (hS) hI
  simp only [iO_as] at f1 f2
  have f1 : f_X11_range (L, xs) 60 1 (xs (6 * c + 1)) (xs (6 * c + 2)) (xs (6 * c + 3)) (xs (6 * c + 4)) z = some (some (.int _), z1) := f1
  have f2 : f_X12_range (L, xs) 60 26 (xs (6 * c + 1)) (xs (6 * c + 2)) (xs (6 * c + 3)) (xs (6 * c + 4)) z1 = some (some (.int _), z2) := f2
  have c1 := hI.c1
  have h0 : ((20 : Int32) = 0) = False := eq_false (by decide)
  have h1 : ((20 : Int32) = 1) = False := eq_false (by decide)
  have h2 : ((20 : Int32) = 2) = False := eq_false (by decide)
  have h3 : ((20 : Int32) = 3) = False := eq_false (by decide)
  have h4 : ((20 : Int32) = 4) = False := eq_false (by decide)
  have h5 : ((20 : Int32) = 5) = False := eq_false (by decide)
  have h6 : ((20 : Int32) = 6) = False := eq_false (by decide)
  have h7 : ((20 : Int32) = 7) = False := eq_false (by decide)
  have h8 : ((20 : Int32) = 8) = False := eq_false (by decide)
  have h9 : ((20 : Int32) = 9) = False := eq_false (by decide)
  have h10 : ((20 : Int32) = 10) = False := eq_false (by decide)
  have h11 : ((20 : Int32) = 11) = False := eq_false (by decide)
  have h12 : ((20 : Int32) = 12) = False := eq_false (by decide)
  have h13 : ((20 : Int32) = 13) = False := eq_false (by decide)
  have h14 : ((20 : Int32) = 14) = False := eq_false (by decide)
  have h15 : ((20 : Int32) = 15) = False := eq_false (by decide)
  have h16 : ((20 : Int32) = 16) = False := eq_false (by decide)
  have h17 : ((20 : Int32) = 17) = False := eq_false (by decide)
  have h18 : ((20 : Int32) = 18) = False := eq_false (by decide)
  have h19 : ((20 : Int32) = 19) = False := eq_false (by decide)
  have x0 : en_ix (iO (6 * (c : Int))) L = True := eq_true ((iO_ix (by unfold i32; omega)).mpr (by omega))
  have t0 : (iO (6 * (c : Int))).toNatClampNeg = 6 * c := by rw [iO_nat (by omega) (by unfold i32; omega)]; omega
  have x1 : en_ix (iO (6 * (c : Int)) + 1) L = True := lw_ix hL hc 1 (by omega) (by omega)
  have t1 : (iO (6 * (c : Int)) + 1).toNatClampNeg = 6 * c + 1 := lw_tn hL hc 1 (by omega)
  have x2 : en_ix (iO (6 * (c : Int)) + 2) L = True := lw_ix hL hc 2 (by omega) (by omega)
  have t2 : (iO (6 * (c : Int)) + 2).toNatClampNeg = 6 * c + 2 := lw_tn hL hc 2 (by omega)
  have x3 : en_ix (iO (6 * (c : Int)) + 3) L = True := lw_ix hL hc 3 (by omega) (by omega)
  have t3 : (iO (6 * (c : Int)) + 3).toNatClampNeg = 6 * c + 3 := lw_tn hL hc 3 (by omega)
  have x4 : en_ix (iO (6 * (c : Int)) + 4) L = True := lw_ix hL hc 4 (by omega) (by omega)
  have t4 : (iO (6 * (c : Int)) + 4).toNatClampNeg = 6 * c + 4 := lw_tn hL hc 4 (by omega)
  have hlt : (iO (L : Int) - 6 < iO (6 * (c : Int))) = False := eq_false (by rw [ki_6, iO_sub]; exact nlt (by unfold i32; omega) (by unfold i32; omega) (by omega))
  refine ⟨_, z2, D1, ?_, f3, f4⟩
  rw [eb_L_law_1]
  simp only [↓reduceIte, ↓lw_ln, lw_ofNat, hlt, ↓lw_a0, x0, t0, x1, t1, x2, t2, x3, t3, x4, t4, h0, h1, h2, h3, h4, h5, h6, h7, h8, h9, h10, h11, h12, h13, h14, h15, h16, h17, h18, h19, ho, c1, f1, bI_s, f5, f2, en_le]
  rw [ki_6, iO_add, show 6 * (c : Int) + 6 = 6 * ((c + 1 : Nat) : Int) by omega]
theorem lw_21 (hL : L ≤ 3072) (hc : 6 * c + 6 ≤ L) (hI : INV S z D) (ho : xs (6 * c) &&& 63 = 21) : LW6 L xs z D c := by
  have hS := hI.ok
  obtain ⟨z1, z2, D1, f1, f2, f3, f4, f5⟩ := call_int (cs_parts (sc := (L, xs)) (n := 20) hS (i32_of (xs (6 * c + 1))) (i32_of (xs (6 * c + 2))) (i32_of (xs (6 * c + 3)))) (mc_parts (sc := (L, xs)) (n := 20) hS (i32_of (xs (6 * c + 1))) (i32_of (xs (6 * c + 2))) (i32_of (xs (6 * c + 3)))) (hS) hI
  simp only [iO_as] at f1 f2
  have f1 : f_X11_parts (L, xs) 60 1 (xs (6 * c + 1)) (xs (6 * c + 2)) (xs (6 * c + 3)) z = some (some (.int _), z1) := f1
  have f2 : f_X12_parts (L, xs) 60 26 (xs (6 * c + 1)) (xs (6 * c + 2)) (xs (6 * c + 3)) z1 = some (some (.int _), z2) := f2
  have c1 := hI.c1
  have h0 : ((21 : Int32) = 0) = False := eq_false (by decide)
  have h1 : ((21 : Int32) = 1) = False := eq_false (by decide)
  have h2 : ((21 : Int32) = 2) = False := eq_false (by decide)
  have h3 : ((21 : Int32) = 3) = False := eq_false (by decide)
  have h4 : ((21 : Int32) = 4) = False := eq_false (by decide)
  have h5 : ((21 : Int32) = 5) = False := eq_false (by decide)
  have h6 : ((21 : Int32) = 6) = False := eq_false (by decide)
  have h7 : ((21 : Int32) = 7) = False := eq_false (by decide)
  have h8 : ((21 : Int32) = 8) = False := eq_false (by decide)
  have h9 : ((21 : Int32) = 9) = False := eq_false (by decide)
  have h10 : ((21 : Int32) = 10) = False := eq_false (by decide)
  have h11 : ((21 : Int32) = 11) = False := eq_false (by decide)
  have h12 : ((21 : Int32) = 12) = False := eq_false (by decide)
  have h13 : ((21 : Int32) = 13) = False := eq_false (by decide)
  have h14 : ((21 : Int32) = 14) = False := eq_false (by decide)
  have h15 : ((21 : Int32) = 15) = False := eq_false (by decide)
  have h16 : ((21 : Int32) = 16) = False := eq_false (by decide)
  have h17 : ((21 : Int32) = 17) = False := eq_false (by decide)
  have h18 : ((21 : Int32) = 18) = False := eq_false (by decide)
  have h19 : ((21 : Int32) = 19) = False := eq_false (by decide)
  have h20 : ((21 : Int32) = 20) = False := eq_false (by decide)
  have x0 : en_ix (iO (6 * (c : Int))) L = True := eq_true ((iO_ix (by unfold i32; omega)).mpr (by omega))
  have t0 : (iO (6 * (c : Int))).toNatClampNeg = 6 * c := by rw [iO_nat (by omega) (by unfold i32; omega)]; omega
  have x1 : en_ix (iO (6 * (c : Int)) + 1) L = True := lw_ix hL hc 1 (by omega) (by omega)
  have t1 : (iO (6 * (c : Int)) + 1).toNatClampNeg = 6 * c + 1 := lw_tn hL hc 1 (by omega)
  have x2 : en_ix (iO (6 * (c : Int)) + 2) L = True := lw_ix hL hc 2 (by omega) (by omega)
  have t2 : (iO (6 * (c : Int)) + 2).toNatClampNeg = 6 * c + 2 := lw_tn hL hc 2 (by omega)
  have x3 : en_ix (iO (6 * (c : Int)) + 3) L = True := lw_ix hL hc 3 (by omega) (by omega)
  have t3 : (iO (6 * (c : Int)) + 3).toNatClampNeg = 6 * c + 3 := lw_tn hL hc 3 (by omega)
  have hlt : (iO (L : Int) - 6 < iO (6 * (c : Int))) = False := eq_false (by rw [ki_6, iO_sub]; exact nlt (by unfold i32; omega) (by unfold i32; omega) (by omega))
  refine ⟨_, z2, D1, ?_, f3, f4⟩
  rw [eb_L_law_1]
  simp only [↓reduceIte, ↓lw_ln, lw_ofNat, hlt, ↓lw_a0, x0, t0, x1, t1, x2, t2, x3, t3, h0, h1, h2, h3, h4, h5, h6, h7, h8, h9, h10, h11, h12, h13, h14, h15, h16, h17, h18, h19, h20, ho, c1, f1, bI_s, f5, f2, en_le]
  rw [ki_6, iO_add, show 6 * (c : Int) + 6 = 6 * ((c + 1 : Nat) : Int) by omega]
theorem lw_22 (hL : L ≤ 3072) (hc : 6 * c + 6 ≤ L) (hI : INV S z D) (ho : xs (6 * c) &&& 63 = 22) : LW6 L xs z D c := by
  have hS := hI.ok
  obtain ⟨z1, z2, D1, f1, f2, f3, f4, f5⟩ := call_int (cs_gaps (sc := (L, xs)) (n := 20) hS (i32_of (xs (6 * c + 1))) (i32_of (xs (6 * c + 2)))) (mc_gaps (sc := (L, xs)) (n := 20) hS (i32_of (xs (6 * c + 1))) (i32_of (xs (6 * c + 2)))) (hS) hI
  simp only [iO_as] at f1 f2
  have f1 : f_X11_gaps (L, xs) 60 1 (xs (6 * c + 1)) (xs (6 * c + 2)) z = some (some (.int _), z1) := f1
  have f2 : f_X12_gaps (L, xs) 60 26 (xs (6 * c + 1)) (xs (6 * c + 2)) z1 = some (some (.int _), z2) := f2
  have c1 := hI.c1
  have h0 : ((22 : Int32) = 0) = False := eq_false (by decide)
  have h1 : ((22 : Int32) = 1) = False := eq_false (by decide)
  have h2 : ((22 : Int32) = 2) = False := eq_false (by decide)
  have h3 : ((22 : Int32) = 3) = False := eq_false (by decide)
  have h4 : ((22 : Int32) = 4) = False := eq_false (by decide)
  have h5 : ((22 : Int32) = 5) = False := eq_false (by decide)
  have h6 : ((22 : Int32) = 6) = False := eq_false (by decide)
  have h7 : ((22 : Int32) = 7) = False := eq_false (by decide)
  have h8 : ((22 : Int32) = 8) = False := eq_false (by decide)
  have h9 : ((22 : Int32) = 9) = False := eq_false (by decide)
  have h10 : ((22 : Int32) = 10) = False := eq_false (by decide)
  have h11 : ((22 : Int32) = 11) = False := eq_false (by decide)
  have h12 : ((22 : Int32) = 12) = False := eq_false (by decide)
  have h13 : ((22 : Int32) = 13) = False := eq_false (by decide)
  have h14 : ((22 : Int32) = 14) = False := eq_false (by decide)
  have h15 : ((22 : Int32) = 15) = False := eq_false (by decide)
  have h16 : ((22 : Int32) = 16) = False := eq_false (by decide)
  have h17 : ((22 : Int32) = 17) = False := eq_false (by decide)
  have h18 : ((22 : Int32) = 18) = False := eq_false (by decide)
  have h19 : ((22 : Int32) = 19) = False := eq_false (by decide)
  have h20 : ((22 : Int32) = 20) = False := eq_false (by decide)
  have h21 : ((22 : Int32) = 21) = False := eq_false (by decide)
  have x0 : en_ix (iO (6 * (c : Int))) L = True := eq_true ((iO_ix (by unfold i32; omega)).mpr (by omega))
  have t0 : (iO (6 * (c : Int))).toNatClampNeg = 6 * c := by rw [iO_nat (by omega) (by unfold i32; omega)]; omega
  have x1 : en_ix (iO (6 * (c : Int)) + 1) L = True := lw_ix hL hc 1 (by omega) (by omega)
  have t1 : (iO (6 * (c : Int)) + 1).toNatClampNeg = 6 * c + 1 := lw_tn hL hc 1 (by omega)
  have x2 : en_ix (iO (6 * (c : Int)) + 2) L = True := lw_ix hL hc 2 (by omega) (by omega)
  have t2 : (iO (6 * (c : Int)) + 2).toNatClampNeg = 6 * c + 2 := lw_tn hL hc 2 (by omega)
  have hlt : (iO (L : Int) - 6 < iO (6 * (c : Int))) = False := eq_false (by rw [ki_6, iO_sub]; exact nlt (by unfold i32; omega) (by unfold i32; omega) (by omega))
  refine ⟨_, z2, D1, ?_, f3, f4⟩
  rw [eb_L_law_1]
  simp only [↓reduceIte, ↓lw_ln, lw_ofNat, hlt, ↓lw_a0, x0, t0, x1, t1, x2, t2, h0, h1, h2, h3, h4, h5, h6, h7, h8, h9, h10, h11, h12, h13, h14, h15, h16, h17, h18, h19, h20, h21, ho, c1, f1, bI_s, f5, f2, en_le]
  rw [ki_6, iO_add, show 6 * (c : Int) + 6 = 6 * ((c + 1 : Nat) : Int) by omega]
theorem lw_23 (hL : L ≤ 3072) (hc : 6 * c + 6 ≤ L) (hI : INV S z D) (ho : xs (6 * c) &&& 63 = 23) : LW6 L xs z D c := by
  have hS := hI.ok
  obtain ⟨z1, z2, D1, f1, f2, f3, f4, f5⟩ := call_int (cs_gap (sc := (L, xs)) (n := 20) hS (i32_of (xs (6 * c + 1))) (i32_of (xs (6 * c + 2))) (i32_of (xs (6 * c + 3))) (i32_of (xs (6 * c + 4)))) (mc_gap (sc := (L, xs)) (n := 20) hS (i32_of (xs (6 * c + 1))) (i32_of (xs (6 * c + 2))) (i32_of (xs (6 * c + 3))) (i32_of (xs (6 * c + 4)))) (hS) hI
  simp only [iO_as] at f1 f2
  have f1 : f_X11_gap (L, xs) 60 1 (xs (6 * c + 1)) (xs (6 * c + 2)) (xs (6 * c + 3)) (xs (6 * c + 4)) z = some (some (.int _), z1) := f1
  have f2 : f_X12_gap (L, xs) 60 26 (xs (6 * c + 1)) (xs (6 * c + 2)) (xs (6 * c + 3)) (xs (6 * c + 4)) z1 = some (some (.int _), z2) := f2
  have c1 := hI.c1
  have h0 : ((23 : Int32) = 0) = False := eq_false (by decide)
  have h1 : ((23 : Int32) = 1) = False := eq_false (by decide)
  have h2 : ((23 : Int32) = 2) = False := eq_false (by decide)
  have h3 : ((23 : Int32) = 3) = False := eq_false (by decide)
  have h4 : ((23 : Int32) = 4) = False := eq_false (by decide)
  have h5 : ((23 : Int32) = 5) = False := eq_false (by decide)
  have h6 : ((23 : Int32) = 6) = False := eq_false (by decide)
  have h7 : ((23 : Int32) = 7) = False := eq_false (by decide)
  have h8 : ((23 : Int32) = 8) = False := eq_false (by decide)
  have h9 : ((23 : Int32) = 9) = False := eq_false (by decide)
  have h10 : ((23 : Int32) = 10) = False := eq_false (by decide)
  have h11 : ((23 : Int32) = 11) = False := eq_false (by decide)
  have h12 : ((23 : Int32) = 12) = False := eq_false (by decide)
  have h13 : ((23 : Int32) = 13) = False := eq_false (by decide)
  have h14 : ((23 : Int32) = 14) = False := eq_false (by decide)
  have h15 : ((23 : Int32) = 15) = False := eq_false (by decide)
  have h16 : ((23 : Int32) = 16) = False := eq_false (by decide)
  have h17 : ((23 : Int32) = 17) = False := eq_false (by decide)
  have h18 : ((23 : Int32) = 18) = False := eq_false (by decide)
  have h19 : ((23 : Int32) = 19) = False := eq_false (by decide)
  have h20 : ((23 : Int32) = 20) = False := eq_false (by decide)
  have h21 : ((23 : Int32) = 21) = False := eq_false (by decide)
  have h22 : ((23 : Int32) = 22) = False := eq_false (by decide)
  have x0 : en_ix (iO (6 * (c : Int))) L = True := eq_true ((iO_ix (by unfold i32; omega)).mpr (by omega))
  have t0 : (iO (6 * (c : Int))).toNatClampNeg = 6 * c := by rw [iO_nat (by omega) (by unfold i32; omega)]; omega
  have x1 : en_ix (iO (6 * (c : Int)) + 1) L = True := lw_ix hL hc 1 (by omega) (by omega)
  have t1 : (iO (6 * (c : Int)) + 1).toNatClampNeg = 6 * c + 1 := lw_tn hL hc 1 (by omega)
  have x2 : en_ix (iO (6 * (c : Int)) + 2) L = True := lw_ix hL hc 2 (by omega) (by omega)
  have t2 : (iO (6 * (c : Int)) + 2).toNatClampNeg = 6 * c + 2 := lw_tn hL hc 2 (by omega)
  have x3 : en_ix (iO (6 * (c : Int)) + 3) L = True := lw_ix hL hc 3 (by omega) (by omega)
  have t3 : (iO (6 * (c : Int)) + 3).toNatClampNeg = 6 * c + 3 := lw_tn hL hc 3 (by omega)
  have x4 : en_ix (iO (6 * (c : Int)) + 4) L = True := lw_ix hL hc 4 (by omega) (by omega)
  have t4 : (iO (6 * (c : Int)) + 4).toNatClampNeg = 6 * c + 4 := lw_tn hL hc 4 (by omega)
  have hlt : (iO (L : Int) - 6 < iO (6 * (c : Int))) = False := eq_false (by rw [ki_6, iO_sub]; exact nlt (by unfold i32; omega) (by unfold i32; omega) (by omega))
  refine ⟨_, z2, D1, ?_, f3, f4⟩
  rw [eb_L_law_1]
  simp only [↓reduceIte, ↓lw_ln, lw_ofNat, hlt, ↓lw_a0, x0, t0, x1, t1, x2, t2, x3, t3, x4, t4, h0, h1, h2, h3, h4, h5, h6, h7, h8, h9, h10, h11, h12, h13, h14, h15, h16, h17, h18, h19, h20, h21, h22, ho, c1, f1, bI_s, f5, f2, en_le]
  rw [ki_6, iO_add, show 6 * (c : Int) + 6 = 6 * ((c + 1 : Nat) : Int) by omega]
theorem lw_24 (hL : L ≤ 3072) (hc : 6 * c + 6 ≤ L) (hI : INV S z D) (ho : xs (6 * c) &&& 63 = 24) : LW6 L xs z D c := by
  have hS := hI.ok
  obtain ⟨z1, z2, D1, f1, f2, f3, f4, f5⟩ := call_int (cs_follows (sc := (L, xs)) (n := 20) hS (i32_of (xs (6 * c + 1))) (i32_of (xs (6 * c + 2))) (i32_of (xs (6 * c + 3)))) (mc_follows (sc := (L, xs)) (n := 20) hS (i32_of (xs (6 * c + 1))) (i32_of (xs (6 * c + 2))) (i32_of (xs (6 * c + 3)))) (hS) hI
  simp only [iO_as] at f1 f2
  have f1 : f_X11_follows (L, xs) 60 1 (xs (6 * c + 1)) (xs (6 * c + 2)) (xs (6 * c + 3)) z = some (some (.int _), z1) := f1
  have f2 : f_X12_follows (L, xs) 60 26 (xs (6 * c + 1)) (xs (6 * c + 2)) (xs (6 * c + 3)) z1 = some (some (.int _), z2) := f2
  have c1 := hI.c1
  have h0 : ((24 : Int32) = 0) = False := eq_false (by decide)
  have h1 : ((24 : Int32) = 1) = False := eq_false (by decide)
  have h2 : ((24 : Int32) = 2) = False := eq_false (by decide)
  have h3 : ((24 : Int32) = 3) = False := eq_false (by decide)
  have h4 : ((24 : Int32) = 4) = False := eq_false (by decide)
  have h5 : ((24 : Int32) = 5) = False := eq_false (by decide)
  have h6 : ((24 : Int32) = 6) = False := eq_false (by decide)
  have h7 : ((24 : Int32) = 7) = False := eq_false (by decide)
  have h8 : ((24 : Int32) = 8) = False := eq_false (by decide)
  have h9 : ((24 : Int32) = 9) = False := eq_false (by decide)
  have h10 : ((24 : Int32) = 10) = False := eq_false (by decide)
  have h11 : ((24 : Int32) = 11) = False := eq_false (by decide)
  have h12 : ((24 : Int32) = 12) = False := eq_false (by decide)
  have h13 : ((24 : Int32) = 13) = False := eq_false (by decide)
  have h14 : ((24 : Int32) = 14) = False := eq_false (by decide)
  have h15 : ((24 : Int32) = 15) = False := eq_false (by decide)
  have h16 : ((24 : Int32) = 16) = False := eq_false (by decide)
  have h17 : ((24 : Int32) = 17) = False := eq_false (by decide)
  have h18 : ((24 : Int32) = 18) = False := eq_false (by decide)
  have h19 : ((24 : Int32) = 19) = False := eq_false (by decide)
  have h20 : ((24 : Int32) = 20) = False := eq_false (by decide)
  have h21 : ((24 : Int32) = 21) = False := eq_false (by decide)
  have h22 : ((24 : Int32) = 22) = False := eq_false (by decide)
  have h23 : ((24 : Int32) = 23) = False := eq_false (by decide)
  have x0 : en_ix (iO (6 * (c : Int))) L = True := eq_true ((iO_ix (by unfold i32; omega)).mpr (by omega))
  have t0 : (iO (6 * (c : Int))).toNatClampNeg = 6 * c := by rw [iO_nat (by omega) (by unfold i32; omega)]; omega
  have x1 : en_ix (iO (6 * (c : Int)) + 1) L = True := lw_ix hL hc 1 (by omega) (by omega)
  have t1 : (iO (6 * (c : Int)) + 1).toNatClampNeg = 6 * c + 1 := lw_tn hL hc 1 (by omega)
  have x2 : en_ix (iO (6 * (c : Int)) + 2) L = True := lw_ix hL hc 2 (by omega) (by omega)
  have t2 : (iO (6 * (c : Int)) + 2).toNatClampNeg = 6 * c + 2 := lw_tn hL hc 2 (by omega)
  have x3 : en_ix (iO (6 * (c : Int)) + 3) L = True := lw_ix hL hc 3 (by omega) (by omega)
  have t3 : (iO (6 * (c : Int)) + 3).toNatClampNeg = 6 * c + 3 := lw_tn hL hc 3 (by omega)
  have hlt : (iO (L : Int) - 6 < iO (6 * (c : Int))) = False := eq_false (by rw [ki_6, iO_sub]; exact nlt (by unfold i32; omega) (by unfold i32; omega) (by omega))
  refine ⟨_, z2, D1, ?_, f3, f4⟩
  rw [eb_L_law_1]
  simp only [↓reduceIte, ↓lw_ln, lw_ofNat, hlt, ↓lw_a0, x0, t0, x1, t1, x2, t2, x3, t3, h0, h1, h2, h3, h4, h5, h6, h7, h8, h9, h10, h11, h12, h13, h14, h15, h16, h17, h18, h19, h20, h21, h22, h23, ho, c1, f1, bI_s, f5, f2, en_le]
  rw [ki_6, iO_add, show 6 * (c : Int) + 6 = 6 * ((c + 1 : Nat) : Int) by omega]
theorem lw_25 (hL : L ≤ 3072) (hc : 6 * c + 6 ≤ L) (hI : INV S z D) (ho : xs (6 * c) &&& 63 = 25) : LW6 L xs z D c := by
  have hS := hI.ok
  obtain ⟨z1, z2, D1, f1, f2, f3, f4, f5⟩ := call_int (cs_share (sc := (L, xs)) (n := 20) hS (i32_of (xs (6 * c + 1))) (i32_of (xs (6 * c + 2)))) (mc_share (sc := (L, xs)) (n := 20) hS (i32_of (xs (6 * c + 1))) (i32_of (xs (6 * c + 2)))) (hS) hI
  simp only [iO_as] at f1 f2
  have f1 : f_X11_share (L, xs) 60 1 (xs (6 * c + 1)) (xs (6 * c + 2)) z = some (some (.int _), z1) := f1
  have f2 : f_X12_share (L, xs) 60 26 (xs (6 * c + 1)) (xs (6 * c + 2)) z1 = some (some (.int _), z2) := f2
  have c1 := hI.c1
  have h0 : ((25 : Int32) = 0) = False := eq_false (by decide)
  have h1 : ((25 : Int32) = 1) = False := eq_false (by decide)
  have h2 : ((25 : Int32) = 2) = False := eq_false (by decide)
  have h3 : ((25 : Int32) = 3) = False := eq_false (by decide)
  have h4 : ((25 : Int32) = 4) = False := eq_false (by decide)
  have h5 : ((25 : Int32) = 5) = False := eq_false (by decide)
  have h6 : ((25 : Int32) = 6) = False := eq_false (by decide)
  have h7 : ((25 : Int32) = 7) = False := eq_false (by decide)
  have h8 : ((25 : Int32) = 8) = False := eq_false (by decide)
  have h9 : ((25 : Int32) = 9) = False := eq_false (by decide)
  have h10 : ((25 : Int32) = 10) = False := eq_false (by decide)
  have h11 : ((25 : Int32) = 11) = False := eq_false (by decide)
  have h12 : ((25 : Int32) = 12) = False := eq_false (by decide)
  have h13 : ((25 : Int32) = 13) = False := eq_false (by decide)
  have h14 : ((25 : Int32) = 14) = False := eq_false (by decide)
  have h15 : ((25 : Int32) = 15) = False := eq_false (by decide)
  have h16 : ((25 : Int32) = 16) = False := eq_false (by decide)
  have h17 : ((25 : Int32) = 17) = False := eq_false (by decide)
  have h18 : ((25 : Int32) = 18) = False := eq_false (by decide)
  have h19 : ((25 : Int32) = 19) = False := eq_false (by decide)
  have h20 : ((25 : Int32) = 20) = False := eq_false (by decide)
  have h21 : ((25 : Int32) = 21) = False := eq_false (by decide)
  have h22 : ((25 : Int32) = 22) = False := eq_false (by decide)
  have h23 : ((25 : Int32) = 23) = False := eq_false (by decide)
  have h24 : ((25 : Int32) = 24) = False := eq_false (by decide)
  have x0 : en_ix (iO (6 * (c : Int))) L = True := eq_true ((iO_ix (by unfold i32; omega)).mpr (by omega))
  have t0 : (iO (6 * (c : Int))).toNatClampNeg = 6 * c := by rw [iO_nat (by omega) (by unfold i32; omega)]; omega
  have x1 : en_ix (iO (6 * (c : Int)) + 1) L = True := lw_ix hL hc 1 (by omega) (by omega)
  have t1 : (iO (6 * (c : Int)) + 1).toNatClampNeg = 6 * c + 1 := lw_tn hL hc 1 (by omega)
  have x2 : en_ix (iO (6 * (c : Int)) + 2) L = True := lw_ix hL hc 2 (by omega) (by omega)
  have t2 : (iO (6 * (c : Int)) + 2).toNatClampNeg = 6 * c + 2 := lw_tn hL hc 2 (by omega)
  have hlt : (iO (L : Int) - 6 < iO (6 * (c : Int))) = False := eq_false (by rw [ki_6, iO_sub]; exact nlt (by unfold i32; omega) (by unfold i32; omega) (by omega))
  refine ⟨_, z2, D1, ?_, f3, f4⟩
  rw [eb_L_law_1]
  simp only [↓reduceIte, ↓lw_ln, lw_ofNat, hlt, ↓lw_a0, x0, t0, x1, t1, x2, t2, h0, h1, h2, h3, h4, h5, h6, h7, h8, h9, h10, h11, h12, h13, h14, h15, h16, h17, h18, h19, h20, h21, h22, h23, h24, ho, c1, f1, bI_s, f5, f2, en_le]
  rw [ki_6, iO_add, show 6 * (c : Int) + 6 = 6 * ((c + 1 : Nat) : Int) by omega]
theorem lw_26 (hL : L ≤ 3072) (hc : 6 * c + 6 ≤ L) (hI : INV S z D) (ho : xs (6 * c) &&& 63 = 26) : LW6 L xs z D c := by
  have hS := hI.ok
  have f1 := c_spread (sc := (L, xs)) (n := 58) (z := z) (i32_of (xs (6 * c + 1))) (i32_of (xs (6 * c + 2)))
  have f2 := m_spread (sc := (L, xs)) (n := 58) (z := z) (i32_of (xs (6 * c + 1))) (i32_of (xs (6 * c + 2)))
  simp only [iO_as] at f1 f2
  have f1 : f_X11_spread (L, xs) 60 1 (xs (6 * c + 1)) (xs (6 * c + 2)) z = some (some (.long _), z) := f1
  have f2 : f_X12_spread (L, xs) 60 26 (xs (6 * c + 1)) (xs (6 * c + 2)) z = some (some (.long _), z) := f2
  have f5 := hI.c26
  have c1 := hI.c1
  have h0 : ((26 : Int32) = 0) = False := eq_false (by decide)
  have h1 : ((26 : Int32) = 1) = False := eq_false (by decide)
  have h2 : ((26 : Int32) = 2) = False := eq_false (by decide)
  have h3 : ((26 : Int32) = 3) = False := eq_false (by decide)
  have h4 : ((26 : Int32) = 4) = False := eq_false (by decide)
  have h5 : ((26 : Int32) = 5) = False := eq_false (by decide)
  have h6 : ((26 : Int32) = 6) = False := eq_false (by decide)
  have h7 : ((26 : Int32) = 7) = False := eq_false (by decide)
  have h8 : ((26 : Int32) = 8) = False := eq_false (by decide)
  have h9 : ((26 : Int32) = 9) = False := eq_false (by decide)
  have h10 : ((26 : Int32) = 10) = False := eq_false (by decide)
  have h11 : ((26 : Int32) = 11) = False := eq_false (by decide)
  have h12 : ((26 : Int32) = 12) = False := eq_false (by decide)
  have h13 : ((26 : Int32) = 13) = False := eq_false (by decide)
  have h14 : ((26 : Int32) = 14) = False := eq_false (by decide)
  have h15 : ((26 : Int32) = 15) = False := eq_false (by decide)
  have h16 : ((26 : Int32) = 16) = False := eq_false (by decide)
  have h17 : ((26 : Int32) = 17) = False := eq_false (by decide)
  have h18 : ((26 : Int32) = 18) = False := eq_false (by decide)
  have h19 : ((26 : Int32) = 19) = False := eq_false (by decide)
  have h20 : ((26 : Int32) = 20) = False := eq_false (by decide)
  have h21 : ((26 : Int32) = 21) = False := eq_false (by decide)
  have h22 : ((26 : Int32) = 22) = False := eq_false (by decide)
  have h23 : ((26 : Int32) = 23) = False := eq_false (by decide)
  have h24 : ((26 : Int32) = 24) = False := eq_false (by decide)
  have h25 : ((26 : Int32) = 25) = False := eq_false (by decide)
  have x0 : en_ix (iO (6 * (c : Int))) L = True := eq_true ((iO_ix (by unfold i32; omega)).mpr (by omega))
  have t0 : (iO (6 * (c : Int))).toNatClampNeg = 6 * c := by rw [iO_nat (by omega) (by unfold i32; omega)]; omega
  have x1 : en_ix (iO (6 * (c : Int)) + 1) L = True := lw_ix hL hc 1 (by omega) (by omega)
  have t1 : (iO (6 * (c : Int)) + 1).toNatClampNeg = 6 * c + 1 := lw_tn hL hc 1 (by omega)
  have x2 : en_ix (iO (6 * (c : Int)) + 2) L = True := lw_ix hL hc 2 (by omega) (by omega)
  have t2 : (iO (6 * (c : Int)) + 2).toNatClampNeg = 6 * c + 2 := lw_tn hL hc 2 (by omega)
  have hlt : (iO (L : Int) - 6 < iO (6 * (c : Int))) = False := eq_false (by rw [ki_6, iO_sub]; exact nlt (by unfold i32; omega) (by unfold i32; omega) (by omega))
  refine ⟨_, z, D, ?_, hI, GR.rfl'⟩
  rw [eb_L_law_1]
  simp only [↓reduceIte, ↓lw_ln, lw_ofNat, hlt, ↓lw_a0, x0, t0, x1, t1, x2, t2, h0, h1, h2, h3, h4, h5, h6, h7, h8, h9, h10, h11, h12, h13, h14, h15, h16, h17, h18, h19, h20, h21, h22, h23, h24, h25, ho, c1, f1, bL_s, f5, f2, en_le, lg_cmp_eq]
  rw [ki_6, iO_add, show 6 * (c : Int) + 6 = 6 * ((c + 1 : Nat) : Int) by omega]
theorem lw_27 (hL : L ≤ 3072) (hc : 6 * c + 6 ≤ L) (hI : INV S z D) (ho : xs (6 * c) &&& 63 = 27) : LW6 L xs z D c := by
  have hS := hI.ok
  obtain ⟨z1, z2, D1, f1, f2, f3, f4, f5⟩ := call_int (cs_turning (sc := (L, xs)) (n := 20) (x := (((xs (6 * c + 1)).toInt64 <<< ((32 : Int32).toInt64 &&& 63)) ||| ((xs (6 * c + 2)).toInt64 &&& 4294967295))) (i32_of (xs (6 * c + 3)))) (mc_turning (sc := (L, xs)) (n := 20) (x := (((xs (6 * c + 1)).toInt64 <<< ((32 : Int32).toInt64 &&& 63)) ||| ((xs (6 * c + 2)).toInt64 &&& 4294967295))) (i32_of (xs (6 * c + 3)))) hS hI
  simp only [iO_as] at f1 f2
  have f1 : f_X11_turning (L, xs) 60 1 (((xs (6 * c + 1)).toInt64 <<< ((32 : Int32).toInt64 &&& 63)) ||| ((xs (6 * c + 2)).toInt64 &&& 4294967295)) (xs (6 * c + 3)) z = some (some (.int _), z1) := f1
  have f2 : f_X12_turning (L, xs) 60 26 (((xs (6 * c + 1)).toInt64 <<< ((32 : Int32).toInt64 &&& 63)) ||| ((xs (6 * c + 2)).toInt64 &&& 4294967295)) (xs (6 * c + 3)) z1 = some (some (.int _), z2) := f2
  have c1 := hI.c1
  have h0 : ((27 : Int32) = 0) = False := eq_false (by decide)
  have h1 : ((27 : Int32) = 1) = False := eq_false (by decide)
  have h2 : ((27 : Int32) = 2) = False := eq_false (by decide)
  have h3 : ((27 : Int32) = 3) = False := eq_false (by decide)
  have h4 : ((27 : Int32) = 4) = False := eq_false (by decide)
  have h5 : ((27 : Int32) = 5) = False := eq_false (by decide)
  have h6 : ((27 : Int32) = 6) = False := eq_false (by decide)
  have h7 : ((27 : Int32) = 7) = False := eq_false (by decide)
  have h8 : ((27 : Int32) = 8) = False := eq_false (by decide)
  have h9 : ((27 : Int32) = 9) = False := eq_false (by decide)
  have h10 : ((27 : Int32) = 10) = False := eq_false (by decide)
  have h11 : ((27 : Int32) = 11) = False := eq_false (by decide)
  have h12 : ((27 : Int32) = 12) = False := eq_false (by decide)
  have h13 : ((27 : Int32) = 13) = False := eq_false (by decide)
  have h14 : ((27 : Int32) = 14) = False := eq_false (by decide)
  have h15 : ((27 : Int32) = 15) = False := eq_false (by decide)
  have h16 : ((27 : Int32) = 16) = False := eq_false (by decide)
  have h17 : ((27 : Int32) = 17) = False := eq_false (by decide)
  have h18 : ((27 : Int32) = 18) = False := eq_false (by decide)
  have h19 : ((27 : Int32) = 19) = False := eq_false (by decide)
  have h20 : ((27 : Int32) = 20) = False := eq_false (by decide)
  have h21 : ((27 : Int32) = 21) = False := eq_false (by decide)
  have h22 : ((27 : Int32) = 22) = False := eq_false (by decide)
  have h23 : ((27 : Int32) = 23) = False := eq_false (by decide)
  have h24 : ((27 : Int32) = 24) = False := eq_false (by decide)
  have h25 : ((27 : Int32) = 25) = False := eq_false (by decide)
  have h26 : ((27 : Int32) = 26) = False := eq_false (by decide)
  have x0 : en_ix (iO (6 * (c : Int))) L = True := eq_true ((iO_ix (by unfold i32; omega)).mpr (by omega))
  have t0 : (iO (6 * (c : Int))).toNatClampNeg = 6 * c := by rw [iO_nat (by omega) (by unfold i32; omega)]; omega
  have x1 : en_ix (iO (6 * (c : Int)) + 1) L = True := lw_ix hL hc 1 (by omega) (by omega)
  have t1 : (iO (6 * (c : Int)) + 1).toNatClampNeg = 6 * c + 1 := lw_tn hL hc 1 (by omega)
  have x2 : en_ix (iO (6 * (c : Int)) + 2) L = True := lw_ix hL hc 2 (by omega) (by omega)
  have t2 : (iO (6 * (c : Int)) + 2).toNatClampNeg = 6 * c + 2 := lw_tn hL hc 2 (by omega)
  have x3 : en_ix (iO (6 * (c : Int)) + 3) L = True := lw_ix hL hc 3 (by omega) (by omega)
  have t3 : (iO (6 * (c : Int)) + 3).toNatClampNeg = 6 * c + 3 := lw_tn hL hc 3 (by omega)
  have hlt : (iO (L : Int) - 6 < iO (6 * (c : Int))) = False := eq_false (by rw [ki_6, iO_sub]; exact nlt (by unfold i32; omega) (by unfold i32; omega) (by omega))
  refine ⟨_, z2, D1, ?_, f3, f4⟩
  rw [eb_L_law_1]
  simp only [↓reduceIte, ↓lw_ln, lw_ofNat, hlt, ↓lw_a0, x0, t0, x1, t1, x2, t2, x3, t3, h0, h1, h2, h3, h4, h5, h6, h7, h8, h9, h10, h11, h12, h13, h14, h15, h16, h17, h18, h19, h20, h21, h22, h23, h24, h25, h26, ho, c1, f1, bI_s, f5, f2, en_le]
  rw [ki_6, iO_add, show 6 * (c : Int) + 6 = 6 * ((c + 1 : Nat) : Int) by omega]
theorem lw_28 (hL : L ≤ 3072) (hc : 6 * c + 6 ≤ L) (hI : INV S z D) (ho : xs (6 * c) &&& 63 = 28) : LW6 L xs z D c := by
  have hS := hI.ok
  obtain ⟨z1, z2, D1, f1, f2, f3, f4, f5⟩ := call_int (cs_wins (sc := (L, xs)) (n := 20) (i32_of (xs (6 * c + 1))) (i32_of (xs (6 * c + 2)))) (mc_wins (sc := (L, xs)) (n := 20) (i32_of (xs (6 * c + 1))) (i32_of (xs (6 * c + 2)))) (hS) hI
  simp only [iO_as] at f1 f2
  have f1 : f_X11_wins (L, xs) 60 1 (xs (6 * c + 1)) (xs (6 * c + 2)) z = some (some (.int _), z1) := f1
  have f2 : f_X12_wins (L, xs) 60 26 (xs (6 * c + 1)) (xs (6 * c + 2)) z1 = some (some (.int _), z2) := f2
  have c1 := hI.c1
  have h0 : ((28 : Int32) = 0) = False := eq_false (by decide)
  have h1 : ((28 : Int32) = 1) = False := eq_false (by decide)
  have h2 : ((28 : Int32) = 2) = False := eq_false (by decide)
  have h3 : ((28 : Int32) = 3) = False := eq_false (by decide)
  have h4 : ((28 : Int32) = 4) = False := eq_false (by decide)
  have h5 : ((28 : Int32) = 5) = False := eq_false (by decide)
  have h6 : ((28 : Int32) = 6) = False := eq_false (by decide)
  have h7 : ((28 : Int32) = 7) = False := eq_false (by decide)
  have h8 : ((28 : Int32) = 8) = False := eq_false (by decide)
  have h9 : ((28 : Int32) = 9) = False := eq_false (by decide)
  have h10 : ((28 : Int32) = 10) = False := eq_false (by decide)
  have h11 : ((28 : Int32) = 11) = False := eq_false (by decide)
  have h12 : ((28 : Int32) = 12) = False := eq_false (by decide)
  have h13 : ((28 : Int32) = 13) = False := eq_false (by decide)
  have h14 : ((28 : Int32) = 14) = False := eq_false (by decide)
  have h15 : ((28 : Int32) = 15) = False := eq_false (by decide)
  have h16 : ((28 : Int32) = 16) = False := eq_false (by decide)
  have h17 : ((28 : Int32) = 17) = False := eq_false (by decide)
  have h18 : ((28 : Int32) = 18) = False := eq_false (by decide)
  have h19 : ((28 : Int32) = 19) = False := eq_false (by decide)
  have h20 : ((28 : Int32) = 20) = False := eq_false (by decide)
  have h21 : ((28 : Int32) = 21) = False := eq_false (by decide)
  have h22 : ((28 : Int32) = 22) = False := eq_false (by decide)
  have h23 : ((28 : Int32) = 23) = False := eq_false (by decide)
  have h24 : ((28 : Int32) = 24) = False := eq_false (by decide)
  have h25 : ((28 : Int32) = 25) = False := eq_false (by decide)
  have h26 : ((28 : Int32) = 26) = False := eq_false (by decide)
  have h27 : ((28 : Int32) = 27) = False := eq_false (by decide)
  have x0 : en_ix (iO (6 * (c : Int))) L = True := eq_true ((iO_ix (by unfold i32; omega)).mpr (by omega))
  have t0 : (iO (6 * (c : Int))).toNatClampNeg = 6 * c := by rw [iO_nat (by omega) (by unfold i32; omega)]; omega
  have x1 : en_ix (iO (6 * (c : Int)) + 1) L = True := lw_ix hL hc 1 (by omega) (by omega)
  have t1 : (iO (6 * (c : Int)) + 1).toNatClampNeg = 6 * c + 1 := lw_tn hL hc 1 (by omega)
  have x2 : en_ix (iO (6 * (c : Int)) + 2) L = True := lw_ix hL hc 2 (by omega) (by omega)
  have t2 : (iO (6 * (c : Int)) + 2).toNatClampNeg = 6 * c + 2 := lw_tn hL hc 2 (by omega)
  have hlt : (iO (L : Int) - 6 < iO (6 * (c : Int))) = False := eq_false (by rw [ki_6, iO_sub]; exact nlt (by unfold i32; omega) (by unfold i32; omega) (by omega))
  refine ⟨_, z2, D1, ?_, f3, f4⟩
  rw [eb_L_law_1]
  simp only [↓reduceIte, ↓lw_ln, lw_ofNat, hlt, ↓lw_a0, x0, t0, x1, t1, x2, t2, h0, h1, h2, h3, h4, h5, h6, h7, h8, h9, h10, h11, h12, h13, h14, h15, h16, h17, h18, h19, h20, h21, h22, h23, h24, h25, h26, h27, ho, c1, f1, bI_s, f5, f2, en_le]
  rw [ki_6, iO_add, show 6 * (c : Int) + 6 = 6 * ((c + 1 : Nat) : Int) by omega]
theorem lw_29 (hL : L ≤ 3072) (hc : 6 * c + 6 ≤ L) (hI : INV S z D) (ho : xs (6 * c) &&& 63 = 29) : LW6 L xs z D c := by
  have hS := hI.ok
  obtain ⟨z1, z2, D1, f1, f2, f3, f4, f5⟩ := call_int (cs_takes (sc := (L, xs)) (n := 20) (i32_of (xs (6 * c + 1))) (i32_of (xs (6 * c + 2)))) (mc_takes (sc := (L, xs)) (n := 20) (i32_of (xs (6 * c + 1))) (i32_of (xs (6 * c + 2)))) (hS) hI
  simp only [iO_as] at f1 f2
  have f1 : f_X11_takes (L, xs) 60 1 (xs (6 * c + 1)) (xs (6 * c + 2)) z = some (some (.int _), z1) := f1
  have f2 : f_X12_takes (L, xs) 60 26 (xs (6 * c + 1)) (xs (6 * c + 2)) z1 = some (some (.int _), z2) := f2
  have c1 := hI.c1
  have h0 : ((29 : Int32) = 0) = False := eq_false (by decide)
  have h1 : ((29 : Int32) = 1) = False := eq_false (by decide)
  have h2 : ((29 : Int32) = 2) = False := eq_false (by decide)
  have h3 : ((29 : Int32) = 3) = False := eq_false (by decide)
  have h4 : ((29 : Int32) = 4) = False := eq_false (by decide)
  have h5 : ((29 : Int32) = 5) = False := eq_false (by decide)
  have h6 : ((29 : Int32) = 6) = False := eq_false (by decide)
  have h7 : ((29 : Int32) = 7) = False := eq_false (by decide)
  have h8 : ((29 : Int32) = 8) = False := eq_false (by decide)
  have h9 : ((29 : Int32) = 9) = False := eq_false (by decide)
  have h10 : ((29 : Int32) = 10) = False := eq_false (by decide)
  have h11 : ((29 : Int32) = 11) = False := eq_false (by decide)
  have h12 : ((29 : Int32) = 12) = False := eq_false (by decide)
  have h13 : ((29 : Int32) = 13) = False := eq_false (by decide)
  have h14 : ((29 : Int32) = 14) = False := eq_false (by decide)
  have h15 : ((29 : Int32) = 15) = False := eq_false (by decide)
  have h16 : ((29 : Int32) = 16) = False := eq_false (by decide)
  have h17 : ((29 : Int32) = 17) = False := eq_false (by decide)
  have h18 : ((29 : Int32) = 18) = False := eq_false (by decide)
  have h19 : ((29 : Int32) = 19) = False := eq_false (by decide)
  have h20 : ((29 : Int32) = 20) = False := eq_false (by decide)
  have h21 : ((29 : Int32) = 21) = False := eq_false (by decide)
  have h22 : ((29 : Int32) = 22) = False := eq_false (by decide)
  have h23 : ((29 : Int32) = 23) = False := eq_false (by decide)
  have h24 : ((29 : Int32) = 24) = False := eq_false (by decide)
  have h25 : ((29 : Int32) = 25) = False := eq_false (by decide)
  have h26 : ((29 : Int32) = 26) = False := eq_false (by decide)
  have h27 : ((29 : Int32) = 27) = False := eq_false (by decide)
  have h28 : ((29 : Int32) = 28) = False := eq_false (by decide)
  have x0 : en_ix (iO (6 * (c : Int))) L = True := eq_true ((iO_ix (by unfold i32; omega)).mpr (by omega))
  have t0 : (iO (6 * (c : Int))).toNatClampNeg = 6 * c := by rw [iO_nat (by omega) (by unfold i32; omega)]; omega
  have x1 : en_ix (iO (6 * (c : Int)) + 1) L = True := lw_ix hL hc 1 (by omega) (by omega)
  have t1 : (iO (6 * (c : Int)) + 1).toNatClampNeg = 6 * c + 1 := lw_tn hL hc 1 (by omega)
  have x2 : en_ix (iO (6 * (c : Int)) + 2) L = True := lw_ix hL hc 2 (by omega) (by omega)
  have t2 : (iO (6 * (c : Int)) + 2).toNatClampNeg = 6 * c + 2 := lw_tn hL hc 2 (by omega)
  have hlt : (iO (L : Int) - 6 < iO (6 * (c : Int))) = False := eq_false (by rw [ki_6, iO_sub]; exact nlt (by unfold i32; omega) (by unfold i32; omega) (by omega))
  refine ⟨_, z2, D1, ?_, f3, f4⟩
  rw [eb_L_law_1]
  simp only [↓reduceIte, ↓lw_ln, lw_ofNat, hlt, ↓lw_a0, x0, t0, x1, t1, x2, t2, h0, h1, h2, h3, h4, h5, h6, h7, h8, h9, h10, h11, h12, h13, h14, h15, h16, h17, h18, h19, h20, h21, h22, h23, h24, h25, h26, h27, h28, ho, c1, f1, bI_s, f5, f2, en_le]
  rw [ki_6, iO_add, show 6 * (c : Int) + 6 = 6 * ((c + 1 : Nat) : Int) by omega]
theorem lw_30 (hL : L ≤ 3072) (hc : 6 * c + 6 ≤ L) (hI : INV S z D) (ho : xs (6 * c) &&& 63 = 30) : LW6 L xs z D c := by
  have hS := hI.ok
  obtain ⟨z1, z2, D1, f1, f2, f3, f4, f5⟩ := call_int (cs_act (sc := (L, xs)) (n := 20) (x := (xs (6 * c + 3)).toInt) hS (i32_of (xs (6 * c + 1))) (i32_of (xs (6 * c + 2)))) (mc_act (sc := (L, xs)) (n := 20) (x := (xs (6 * c + 3)).toInt) hS (i32_of (xs (6 * c + 1))) (i32_of (xs (6 * c + 2)))) (ok_act hS) hI
  simp only [iO_as] at f1 f2
  have f1 : f_X11_act (L, xs) 60 1 (xs (6 * c + 1)) (xs (6 * c + 2)) (xs (6 * c + 3)) z = some (some (.int _), z1) := f1
  have f2 : f_X12_act (L, xs) 60 26 (xs (6 * c + 1)) (xs (6 * c + 2)) (xs (6 * c + 3)) z1 = some (some (.int _), z2) := f2
  have c1 := hI.c1
  have h0 : ((30 : Int32) = 0) = False := eq_false (by decide)
  have h1 : ((30 : Int32) = 1) = False := eq_false (by decide)
  have h2 : ((30 : Int32) = 2) = False := eq_false (by decide)
  have h3 : ((30 : Int32) = 3) = False := eq_false (by decide)
  have h4 : ((30 : Int32) = 4) = False := eq_false (by decide)
  have h5 : ((30 : Int32) = 5) = False := eq_false (by decide)
  have h6 : ((30 : Int32) = 6) = False := eq_false (by decide)
  have h7 : ((30 : Int32) = 7) = False := eq_false (by decide)
  have h8 : ((30 : Int32) = 8) = False := eq_false (by decide)
  have h9 : ((30 : Int32) = 9) = False := eq_false (by decide)
  have h10 : ((30 : Int32) = 10) = False := eq_false (by decide)
  have h11 : ((30 : Int32) = 11) = False := eq_false (by decide)
  have h12 : ((30 : Int32) = 12) = False := eq_false (by decide)
  have h13 : ((30 : Int32) = 13) = False := eq_false (by decide)
  have h14 : ((30 : Int32) = 14) = False := eq_false (by decide)
  have h15 : ((30 : Int32) = 15) = False := eq_false (by decide)
  have h16 : ((30 : Int32) = 16) = False := eq_false (by decide)
  have h17 : ((30 : Int32) = 17) = False := eq_false (by decide)
  have h18 : ((30 : Int32) = 18) = False := eq_false (by decide)
  have h19 : ((30 : Int32) = 19) = False := eq_false (by decide)
  have h20 : ((30 : Int32) = 20) = False := eq_false (by decide)
  have h21 : ((30 : Int32) = 21) = False := eq_false (by decide)
  have h22 : ((30 : Int32) = 22) = False := eq_false (by decide)
  have h23 : ((30 : Int32) = 23) = False := eq_false (by decide)
  have h24 : ((30 : Int32) = 24) = False := eq_false (by decide)
  have h25 : ((30 : Int32) = 25) = False := eq_false (by decide)
  have h26 : ((30 : Int32) = 26) = False := eq_false (by decide)
  have h27 : ((30 : Int32) = 27) = False := eq_false (by decide)
  have h28 : ((30 : Int32) = 28) = False := eq_false (by decide)
  have h29 : ((30 : Int32) = 29) = False := eq_false (by decide)
  have x0 : en_ix (iO (6 * (c : Int))) L = True := eq_true ((iO_ix (by unfold i32; omega)).mpr (by omega))
  have t0 : (iO (6 * (c : Int))).toNatClampNeg = 6 * c := by rw [iO_nat (by omega) (by unfold i32; omega)]; omega
  have x1 : en_ix (iO (6 * (c : Int)) + 1) L = True := lw_ix hL hc 1 (by omega) (by omega)
  have t1 : (iO (6 * (c : Int)) + 1).toNatClampNeg = 6 * c + 1 := lw_tn hL hc 1 (by omega)
  have x2 : en_ix (iO (6 * (c : Int)) + 2) L = True := lw_ix hL hc 2 (by omega) (by omega)
  have t2 : (iO (6 * (c : Int)) + 2).toNatClampNeg = 6 * c + 2 := lw_tn hL hc 2 (by omega)
  have x3 : en_ix (iO (6 * (c : Int)) + 3) L = True := lw_ix hL hc 3 (by omega) (by omega)
  have t3 : (iO (6 * (c : Int)) + 3).toNatClampNeg = 6 * c + 3 := lw_tn hL hc 3 (by omega)
  have hlt : (iO (L : Int) - 6 < iO (6 * (c : Int))) = False := eq_false (by rw [ki_6, iO_sub]; exact nlt (by unfold i32; omega) (by unfold i32; omega) (by omega))
  refine ⟨_, z2, D1, ?_, f3, f4⟩
  rw [eb_L_law_1]
  simp only [↓reduceIte, ↓lw_ln, lw_ofNat, hlt, ↓lw_a0, x0, t0, x1, t1, x2, t2, x3, t3, h0, h1, h2, h3, h4, h5, h6, h7, h8, h9, h10, h11, h12, h13, h14, h15, h16, h17, h18, h19, h20, h21, h22, h23, h24, h25, h26, h27, h28, h29, ho, c1, f1, bI_s, f5, f2, en_le]
  rw [ki_6, iO_add, show 6 * (c : Int) + 6 = 6 * ((c + 1 : Nat) : Int) by omega]
theorem lw_31 (hL : L ≤ 3072) (hc : 6 * c + 6 ≤ L) (hI : INV S z D) (ho : xs (6 * c) &&& 63 = 31) : LW6 L xs z D c := by
  have hS := hI.ok
  obtain ⟨z1, z2, D1, f1, f2, f3, f4, f5⟩ := call_int (cs_trace (sc := (L, xs)) (n := 59) hS (i32_of (xs (6 * c + 1)))) (mc_trace (sc := (L, xs)) (n := 58) hS (i32_of (xs (6 * c + 1)))) (hS) hI
  simp only [iO_as] at f1 f2
  have f1 : f_X11_trace (L, xs) 60 1 (xs (6 * c + 1)) z = some (some (.int _), z1) := f1
  have f2 : f_X12_trace (L, xs) 60 26 (xs (6 * c + 1)) z1 = some (some (.int _), z2) := f2
  have c1 := hI.c1
  have h0 : ((31 : Int32) = 0) = False := eq_false (by decide)
  have h1 : ((31 : Int32) = 1) = False := eq_false (by decide)
  have h2 : ((31 : Int32) = 2) = False := eq_false (by decide)
  have h3 : ((31 : Int32) = 3) = False := eq_false (by decide)
  have h4 : ((31 : Int32) = 4) = False := eq_false (by decide)
  have h5 : ((31 : Int32) = 5) = False := eq_false (by decide)
  have h6 : ((31 : Int32) = 6) = False := eq_false (by decide)
  have h7 : ((31 : Int32) = 7) = False := eq_false (by decide)
  have h8 : ((31 : Int32) = 8) = False := eq_false (by decide)
  have h9 : ((31 : Int32) = 9) = False := eq_false (by decide)
  have h10 : ((31 : Int32) = 10) = False := eq_false (by decide)
  have h11 : ((31 : Int32) = 11) = False := eq_false (by decide)
  have h12 : ((31 : Int32) = 12) = False := eq_false (by decide)
  have h13 : ((31 : Int32) = 13) = False := eq_false (by decide)
  have h14 : ((31 : Int32) = 14) = False := eq_false (by decide)
  have h15 : ((31 : Int32) = 15) = False := eq_false (by decide)
  have h16 : ((31 : Int32) = 16) = False := eq_false (by decide)
  have h17 : ((31 : Int32) = 17) = False := eq_false (by decide)
  have h18 : ((31 : Int32) = 18) = False := eq_false (by decide)
  have h19 : ((31 : Int32) = 19) = False := eq_false (by decide)
  have h20 : ((31 : Int32) = 20) = False := eq_false (by decide)
  have h21 : ((31 : Int32) = 21) = False := eq_false (by decide)
  have h22 : ((31 : Int32) = 22) = False := eq_false (by decide)
  have h23 : ((31 : Int32) = 23) = False := eq_false (by decide)
  have h24 : ((31 : Int32) = 24) = False := eq_false (by decide)
  have h25 : ((31 : Int32) = 25) = False := eq_false (by decide)
  have h26 : ((31 : Int32) = 26) = False := eq_false (by decide)
  have h27 : ((31 : Int32) = 27) = False := eq_false (by decide)
  have h28 : ((31 : Int32) = 28) = False := eq_false (by decide)
  have h29 : ((31 : Int32) = 29) = False := eq_false (by decide)
  have h30 : ((31 : Int32) = 30) = False := eq_false (by decide)
  have x0 : en_ix (iO (6 * (c : Int))) L = True := eq_true ((iO_ix (by unfold i32; omega)).mpr (by omega))
  have t0 : (iO (6 * (c : Int))).toNatClampNeg = 6 * c := by rw [iO_nat (by omega) (by unfold i32; omega)]; omega
  have x1 : en_ix (iO (6 * (c : Int)) + 1) L = True := lw_ix hL hc 1 (by omega) (by omega)
  have t1 : (iO (6 * (c : Int)) + 1).toNatClampNeg = 6 * c + 1 := lw_tn hL hc 1 (by omega)
  have hlt : (iO (L : Int) - 6 < iO (6 * (c : Int))) = False := eq_false (by rw [ki_6, iO_sub]; exact nlt (by unfold i32; omega) (by unfold i32; omega) (by omega))
  refine ⟨_, z2, D1, ?_, f3, f4⟩
  rw [eb_L_law_1]
  simp only [↓reduceIte, ↓lw_ln, lw_ofNat, hlt, ↓lw_a0, x0, t0, x1, t1, h0, h1, h2, h3, h4, h5, h6, h7, h8, h9, h10, h11, h12, h13, h14, h15, h16, h17, h18, h19, h20, h21, h22, h23, h24, h25, h26, h27, h28, h29, h30, ho, c1, f1, bI_s, f5, f2, en_le]
  rw [ki_6, iO_add, show 6 * (c : Int) + 6 = 6 * ((c + 1 : Nat) : Int) by omega]
theorem lw_32 (hL : L ≤ 3072) (hc : 6 * c + 6 ≤ L) (hI : INV S z D) (ho : xs (6 * c) &&& 63 = 32) : LW6 L xs z D c := by
  have hS := hI.ok
  obtain ⟨z1, z2, D1, f1, f2, f3, f4, f5⟩ := call_int (cs_sheet (sc := (L, xs)) (n := 58) (i32_of (xs (6 * c + 1))) (i32_of (xs (6 * c + 2))) (i32_of (xs (6 * c + 3)))) (mc_sheet (sc := (L, xs)) (n := 58) (i32_of (xs (6 * c + 1))) (i32_of (xs (6 * c + 2))) (i32_of (xs (6 * c + 3)))) (ok_sheet hS) hI
  simp only [iO_as] at f1 f2
  have f1 : f_X11_sheet (L, xs) 60 1 (xs (6 * c + 1)) (xs (6 * c + 2)) (xs (6 * c + 3)) z = some (some (.int _), z1) := f1
  have f2 : f_X12_sheet (L, xs) 60 26 (xs (6 * c + 1)) (xs (6 * c + 2)) (xs (6 * c + 3)) z1 = some (some (.int _), z2) := f2
  have c1 := hI.c1
  have h0 : ((32 : Int32) = 0) = False := eq_false (by decide)
  have h1 : ((32 : Int32) = 1) = False := eq_false (by decide)
  have h2 : ((32 : Int32) = 2) = False := eq_false (by decide)
  have h3 : ((32 : Int32) = 3) = False := eq_false (by decide)
  have h4 : ((32 : Int32) = 4) = False := eq_false (by decide)
  have h5 : ((32 : Int32) = 5) = False := eq_false (by decide)
  have h6 : ((32 : Int32) = 6) = False := eq_false (by decide)
  have h7 : ((32 : Int32) = 7) = False := eq_false (by decide)
  have h8 : ((32 : Int32) = 8) = False := eq_false (by decide)
  have h9 : ((32 : Int32) = 9) = False := eq_false (by decide)
  have h10 : ((32 : Int32) = 10) = False := eq_false (by decide)
  have h11 : ((32 : Int32) = 11) = False := eq_false (by decide)
  have h12 : ((32 : Int32) = 12) = False := eq_false (by decide)
  have h13 : ((32 : Int32) = 13) = False := eq_false (by decide)
  have h14 : ((32 : Int32) = 14) = False := eq_false (by decide)
  have h15 : ((32 : Int32) = 15) = False := eq_false (by decide)
  have h16 : ((32 : Int32) = 16) = False := eq_false (by decide)
  have h17 : ((32 : Int32) = 17) = False := eq_false (by decide)
  have h18 : ((32 : Int32) = 18) = False := eq_false (by decide)
  have h19 : ((32 : Int32) = 19) = False := eq_false (by decide)
  have h20 : ((32 : Int32) = 20) = False := eq_false (by decide)
  have h21 : ((32 : Int32) = 21) = False := eq_false (by decide)
  have h22 : ((32 : Int32) = 22) = False := eq_false (by decide)
  have h23 : ((32 : Int32) = 23) = False := eq_false (by decide)
  have h24 : ((32 : Int32) = 24) = False := eq_false (by decide)
  have h25 : ((32 : Int32) = 25) = False := eq_false (by decide)
  have h26 : ((32 : Int32) = 26) = False := eq_false (by decide)
  have h27 : ((32 : Int32) = 27) = False := eq_false (by decide)
  have h28 : ((32 : Int32) = 28) = False := eq_false (by decide)
  have h29 : ((32 : Int32) = 29) = False := eq_false (by decide)
  have h30 : ((32 : Int32) = 30) = False := eq_false (by decide)
  have h31 : ((32 : Int32) = 31) = False := eq_false (by decide)
  have x0 : en_ix (iO (6 * (c : Int))) L = True := eq_true ((iO_ix (by unfold i32; omega)).mpr (by omega))
  have t0 : (iO (6 * (c : Int))).toNatClampNeg = 6 * c := by rw [iO_nat (by omega) (by unfold i32; omega)]; omega
  have x1 : en_ix (iO (6 * (c : Int)) + 1) L = True := lw_ix hL hc 1 (by omega) (by omega)
  have t1 : (iO (6 * (c : Int)) + 1).toNatClampNeg = 6 * c + 1 := lw_tn hL hc 1 (by omega)
  have x2 : en_ix (iO (6 * (c : Int)) + 2) L = True := lw_ix hL hc 2 (by omega) (by omega)
  have t2 : (iO (6 * (c : Int)) + 2).toNatClampNeg = 6 * c + 2 := lw_tn hL hc 2 (by omega)
  have x3 : en_ix (iO (6 * (c : Int)) + 3) L = True := lw_ix hL hc 3 (by omega) (by omega)
  have t3 : (iO (6 * (c : Int)) + 3).toNatClampNeg = 6 * c + 3 := lw_tn hL hc 3 (by omega)
  have hlt : (iO (L : Int) - 6 < iO (6 * (c : Int))) = False := eq_false (by rw [ki_6, iO_sub]; exact nlt (by unfold i32; omega) (by unfold i32; omega) (by omega))
  refine ⟨_, z2, D1, ?_, f3, f4⟩
  rw [eb_L_law_1]
  simp only [↓reduceIte, ↓lw_ln, lw_ofNat, hlt, ↓lw_a0, x0, t0, x1, t1, x2, t2, x3, t3, h0, h1, h2, h3, h4, h5, h6, h7, h8, h9, h10, h11, h12, h13, h14, h15, h16, h17, h18, h19, h20, h21, h22, h23, h24, h25, h26, h27, h28, h29, h30, h31, ho, c1, f1, bI_s, f5, f2, en_le]
  rw [ki_6, iO_add, show 6 * (c : Int) + 6 = 6 * ((c + 1 : Nat) : Int) by omega]
theorem lw_33 (hL : L ≤ 3072) (hc : 6 * c + 6 ≤ L) (hI : INV S z D) (ho : xs (6 * c) &&& 63 = 33) : LW6 L xs z D c := by
  have hS := hI.ok
  obtain ⟨z1, z2, D1, f1, f2, f3, f4, f5⟩ := call_int (cs_cell (sc := (L, xs)) (n := 58) hS (i32_of (xs (6 * c + 1))) (i32_of (xs (6 * c + 2))) (i32_of (xs (6 * c + 3)))) (mc_cell (sc := (L, xs)) (n := 58) hS (i32_of (xs (6 * c + 1))) (i32_of (xs (6 * c + 2))) (i32_of (xs (6 * c + 3)))) (ok_cell hS) hI
  simp only [iO_as] at f1 f2
  have f1 : f_X11_cell (L, xs) 60 1 (xs (6 * c + 1)) (xs (6 * c + 2)) (xs (6 * c + 3)) z = some (some (.int _), z1) := f1
  have f2 : f_X12_cell (L, xs) 60 26 (xs (6 * c + 1)) (xs (6 * c + 2)) (xs (6 * c + 3)) z1 = some (some (.int _), z2) := f2
  have c1 := hI.c1
  have h0 : ((33 : Int32) = 0) = False := eq_false (by decide)
  have h1 : ((33 : Int32) = 1) = False := eq_false (by decide)
  have h2 : ((33 : Int32) = 2) = False := eq_false (by decide)
  have h3 : ((33 : Int32) = 3) = False := eq_false (by decide)
  have h4 : ((33 : Int32) = 4) = False := eq_false (by decide)
  have h5 : ((33 : Int32) = 5) = False := eq_false (by decide)
  have h6 : ((33 : Int32) = 6) = False := eq_false (by decide)
  have h7 : ((33 : Int32) = 7) = False := eq_false (by decide)
  have h8 : ((33 : Int32) = 8) = False := eq_false (by decide)
  have h9 : ((33 : Int32) = 9) = False := eq_false (by decide)
  have h10 : ((33 : Int32) = 10) = False := eq_false (by decide)
  have h11 : ((33 : Int32) = 11) = False := eq_false (by decide)
  have h12 : ((33 : Int32) = 12) = False := eq_false (by decide)
  have h13 : ((33 : Int32) = 13) = False := eq_false (by decide)
  have h14 : ((33 : Int32) = 14) = False := eq_false (by decide)
  have h15 : ((33 : Int32) = 15) = False := eq_false (by decide)
  have h16 : ((33 : Int32) = 16) = False := eq_false (by decide)
  have h17 : ((33 : Int32) = 17) = False := eq_false (by decide)
  have h18 : ((33 : Int32) = 18) = False := eq_false (by decide)
  have h19 : ((33 : Int32) = 19) = False := eq_false (by decide)
  have h20 : ((33 : Int32) = 20) = False := eq_false (by decide)
  have h21 : ((33 : Int32) = 21) = False := eq_false (by decide)
  have h22 : ((33 : Int32) = 22) = False := eq_false (by decide)
  have h23 : ((33 : Int32) = 23) = False := eq_false (by decide)
  have h24 : ((33 : Int32) = 24) = False := eq_false (by decide)
  have h25 : ((33 : Int32) = 25) = False := eq_false (by decide)
  have h26 : ((33 : Int32) = 26) = False := eq_false (by decide)
  have h27 : ((33 : Int32) = 27) = False := eq_false (by decide)
  have h28 : ((33 : Int32) = 28) = False := eq_false (by decide)
  have h29 : ((33 : Int32) = 29) = False := eq_false (by decide)
  have h30 : ((33 : Int32) = 30) = False := eq_false (by decide)
  have h31 : ((33 : Int32) = 31) = False := eq_false (by decide)
  have h32 : ((33 : Int32) = 32) = False := eq_false (by decide)
  have x0 : en_ix (iO (6 * (c : Int))) L = True := eq_true ((iO_ix (by unfold i32; omega)).mpr (by omega))
  have t0 : (iO (6 * (c : Int))).toNatClampNeg = 6 * c := by rw [iO_nat (by omega) (by unfold i32; omega)]; omega
  have x1 : en_ix (iO (6 * (c : Int)) + 1) L = True := lw_ix hL hc 1 (by omega) (by omega)
  have t1 : (iO (6 * (c : Int)) + 1).toNatClampNeg = 6 * c + 1 := lw_tn hL hc 1 (by omega)
  have x2 : en_ix (iO (6 * (c : Int)) + 2) L = True := lw_ix hL hc 2 (by omega) (by omega)
  have t2 : (iO (6 * (c : Int)) + 2).toNatClampNeg = 6 * c + 2 := lw_tn hL hc 2 (by omega)
  have x3 : en_ix (iO (6 * (c : Int)) + 3) L = True := lw_ix hL hc 3 (by omega) (by omega)
  have t3 : (iO (6 * (c : Int)) + 3).toNatClampNeg = 6 * c + 3 := lw_tn hL hc 3 (by omega)
  have hlt : (iO (L : Int) - 6 < iO (6 * (c : Int))) = False := eq_false (by rw [ki_6, iO_sub]; exact nlt (by unfold i32; omega) (by unfold i32; omega) (by omega))
  refine ⟨_, z2, D1, ?_, f3, f4⟩
  rw [eb_L_law_1]
  simp only [↓reduceIte, ↓lw_ln, lw_ofNat, hlt, ↓lw_a0, x0, t0, x1, t1, x2, t2, x3, t3, h0, h1, h2, h3, h4, h5, h6, h7, h8, h9, h10, h11, h12, h13, h14, h15, h16, h17, h18, h19, h20, h21, h22, h23, h24, h25, h26, h27, h28, h29, h30, h31, h32, ho, c1, f1, bI_s, f5, f2, en_le]
  rw [ki_6, iO_add, show 6 * (c : Int) + 6 = 6 * ((c + 1 : Nat) : Int) by omega]
theorem lw_34 (hL : L ≤ 3072) (hc : 6 * c + 6 ≤ L) (hI : INV S z D) (ho : xs (6 * c) &&& 63 = 34) : LW6 L xs z D c := by
  have hS := hI.ok
  obtain ⟨z1, z2, D1, f1, f2, f3, f4, f5⟩ := call_int (cs_forge (sc := (L, xs)) (n := 20) hS (i32_of (xs (6 * c + 1))) (i32_of (xs (6 * c + 2))) (i32_of (xs (6 * c + 3)))) (mc_forge (sc := (L, xs)) (n := 20) hS (i32_of (xs (6 * c + 1))) (i32_of (xs (6 * c + 2))) (i32_of (xs (6 * c + 3)))) (ok_forge hS) hI
  simp only [iO_as] at f1 f2
  have f1 : f_X11_forge (L, xs) 60 1 (xs (6 * c + 1)) (xs (6 * c + 2)) (xs (6 * c + 3)) z = some (some (.int _), z1) := f1
  have f2 : f_X12_forge (L, xs) 60 26 (xs (6 * c + 1)) (xs (6 * c + 2)) (xs (6 * c + 3)) z1 = some (some (.int _), z2) := f2
  have c1 := hI.c1
  have h0 : ((34 : Int32) = 0) = False := eq_false (by decide)
  have h1 : ((34 : Int32) = 1) = False := eq_false (by decide)
  have h2 : ((34 : Int32) = 2) = False := eq_false (by decide)
  have h3 : ((34 : Int32) = 3) = False := eq_false (by decide)
  have h4 : ((34 : Int32) = 4) = False := eq_false (by decide)
  have h5 : ((34 : Int32) = 5) = False := eq_false (by decide)
  have h6 : ((34 : Int32) = 6) = False := eq_false (by decide)
  have h7 : ((34 : Int32) = 7) = False := eq_false (by decide)
  have h8 : ((34 : Int32) = 8) = False := eq_false (by decide)
  have h9 : ((34 : Int32) = 9) = False := eq_false (by decide)
  have h10 : ((34 : Int32) = 10) = False := eq_false (by decide)
  have h11 : ((34 : Int32) = 11) = False := eq_false (by decide)
  have h12 : ((34 : Int32) = 12) = False := eq_false (by decide)
  have h13 : ((34 : Int32) = 13) = False := eq_false (by decide)
  have h14 : ((34 : Int32) = 14) = False := eq_false (by decide)
  have h15 : ((34 : Int32) = 15) = False := eq_false (by decide)
  have h16 : ((34 : Int32) = 16) = False := eq_false (by decide)
  have h17 : ((34 : Int32) = 17) = False := eq_false (by decide)
  have h18 : ((34 : Int32) = 18) = False := eq_false (by decide)
  have h19 : ((34 : Int32) = 19) = False := eq_false (by decide)
  have h20 : ((34 : Int32) = 20) = False := eq_false (by decide)
  have h21 : ((34 : Int32) = 21) = False := eq_false (by decide)
  have h22 : ((34 : Int32) = 22) = False := eq_false (by decide)
  have h23 : ((34 : Int32) = 23) = False := eq_false (by decide)
  have h24 : ((34 : Int32) = 24) = False := eq_false (by decide)
  have h25 : ((34 : Int32) = 25) = False := eq_false (by decide)
  have h26 : ((34 : Int32) = 26) = False := eq_false (by decide)
  have h27 : ((34 : Int32) = 27) = False := eq_false (by decide)
  have h28 : ((34 : Int32) = 28) = False := eq_false (by decide)
  have h29 : ((34 : Int32) = 29) = False := eq_false (by decide)
  have h30 : ((34 : Int32) = 30) = False := eq_false (by decide)
  have h31 : ((34 : Int32) = 31) = False := eq_false (by decide)
  have h32 : ((34 : Int32) = 32) = False := eq_false (by decide)
  have h33 : ((34 : Int32) = 33) = False := eq_false (by decide)
  have x0 : en_ix (iO (6 * (c : Int))) L = True := eq_true ((iO_ix (by unfold i32; omega)).mpr (by omega))
  have t0 : (iO (6 * (c : Int))).toNatClampNeg = 6 * c := by rw [iO_nat (by omega) (by unfold i32; omega)]; omega
  have x1 : en_ix (iO (6 * (c : Int)) + 1) L = True := lw_ix hL hc 1 (by omega) (by omega)
  have t1 : (iO (6 * (c : Int)) + 1).toNatClampNeg = 6 * c + 1 := lw_tn hL hc 1 (by omega)
  have x2 : en_ix (iO (6 * (c : Int)) + 2) L = True := lw_ix hL hc 2 (by omega) (by omega)
  have t2 : (iO (6 * (c : Int)) + 2).toNatClampNeg = 6 * c + 2 := lw_tn hL hc 2 (by omega)
  have x3 : en_ix (iO (6 * (c : Int)) + 3) L = True := lw_ix hL hc 3 (by omega) (by omega)
  have t3 : (iO (6 * (c : Int)) + 3).toNatClampNeg = 6 * c + 3 := lw_tn hL hc 3 (by omega)
  have hlt : (iO (L : Int) - 6 < iO (6 * (c : Int))) = False := eq_false (by rw [ki_6, iO_sub]; exact nlt (by unfold i32; omega) (by unfold i32; omega) (by omega))
  refine ⟨_, z2, D1, ?_, f3, f4⟩
  rw [eb_L_law_1]
  simp only [↓reduceIte, ↓lw_ln, lw_ofNat, hlt, ↓lw_a0, x0, t0, x1, t1, x2, t2, x3, t3, h0, h1, h2, h3, h4, h5, h6, h7, h8, h9, h10, h11, h12, h13, h14, h15, h16, h17, h18, h19, h20, h21, h22, h23, h24, h25, h26, h27, h28, h29, h30, h31, h32, h33, ho, c1, f1, bI_s, f5, f2, en_le]
  rw [ki_6, iO_add, show 6 * (c : Int) + 6 = 6 * ((c + 1 : Nat) : Int) by omega]
theorem lw_35 (hL : L ≤ 3072) (hc : 6 * c + 6 ≤ L) (hI : INV S z D) (ho : xs (6 * c) &&& 63 = 35) : LW6 L xs z D c := by
  have hS := hI.ok
  obtain ⟨z1, z2, D1, f1, f2, f3, f4, f5⟩ := call_int (cs_status (sc := (L, xs)) (n := 59)) (mc_status (sc := (L, xs)) (n := 59)) (hS) hI
  have f1 : f_X11_status (L, xs) 60 1  z = some (some (.int _), z1) := f1
  have f2 : f_X12_status (L, xs) 60 26  z1 = some (some (.int _), z2) := f2
  have c1 := hI.c1
  have h0 : ((35 : Int32) = 0) = False := eq_false (by decide)
  have h1 : ((35 : Int32) = 1) = False := eq_false (by decide)
  have h2 : ((35 : Int32) = 2) = False := eq_false (by decide)
  have h3 : ((35 : Int32) = 3) = False := eq_false (by decide)
  have h4 : ((35 : Int32) = 4) = False := eq_false (by decide)
  have h5 : ((35 : Int32) = 5) = False := eq_false (by decide)
  have h6 : ((35 : Int32) = 6) = False := eq_false (by decide)
  have h7 : ((35 : Int32) = 7) = False := eq_false (by decide)
  have h8 : ((35 : Int32) = 8) = False := eq_false (by decide)
  have h9 : ((35 : Int32) = 9) = False := eq_false (by decide)
  have h10 : ((35 : Int32) = 10) = False := eq_false (by decide)
  have h11 : ((35 : Int32) = 11) = False := eq_false (by decide)
  have h12 : ((35 : Int32) = 12) = False := eq_false (by decide)
  have h13 : ((35 : Int32) = 13) = False := eq_false (by decide)
  have h14 : ((35 : Int32) = 14) = False := eq_false (by decide)
  have h15 : ((35 : Int32) = 15) = False := eq_false (by decide)
  have h16 : ((35 : Int32) = 16) = False := eq_false (by decide)
  have h17 : ((35 : Int32) = 17) = False := eq_false (by decide)
  have h18 : ((35 : Int32) = 18) = False := eq_false (by decide)
  have h19 : ((35 : Int32) = 19) = False := eq_false (by decide)
  have h20 : ((35 : Int32) = 20) = False := eq_false (by decide)
  have h21 : ((35 : Int32) = 21) = False := eq_false (by decide)
  have h22 : ((35 : Int32) = 22) = False := eq_false (by decide)
  have h23 : ((35 : Int32) = 23) = False := eq_false (by decide)
  have h24 : ((35 : Int32) = 24) = False := eq_false (by decide)
  have h25 : ((35 : Int32) = 25) = False := eq_false (by decide)
  have h26 : ((35 : Int32) = 26) = False := eq_false (by decide)
  have h27 : ((35 : Int32) = 27) = False := eq_false (by decide)
  have h28 : ((35 : Int32) = 28) = False := eq_false (by decide)
  have h29 : ((35 : Int32) = 29) = False := eq_false (by decide)
  have h30 : ((35 : Int32) = 30) = False := eq_false (by decide)
  have h31 : ((35 : Int32) = 31) = False := eq_false (by decide)
  have h32 : ((35 : Int32) = 32) = False := eq_false (by decide)
  have h33 : ((35 : Int32) = 33) = False := eq_false (by decide)
  have h34 : ((35 : Int32) = 34) = False := eq_false (by decide)
  have x0 : en_ix (iO (6 * (c : Int))) L = True := eq_true ((iO_ix (by unfold i32; omega)).mpr (by omega))
  have t0 : (iO (6 * (c : Int))).toNatClampNeg = 6 * c := by rw [iO_nat (by omega) (by unfold i32; omega)]; omega
  have hlt : (iO (L : Int) - 6 < iO (6 * (c : Int))) = False := eq_false (by rw [ki_6, iO_sub]; exact nlt (by unfold i32; omega) (by unfold i32; omega) (by omega))
  refine ⟨_, z2, D1, ?_, f3, f4⟩
  rw [eb_L_law_1]
  simp only [↓reduceIte, ↓lw_ln, lw_ofNat, hlt, ↓lw_a0, x0, t0, h0, h1, h2, h3, h4, h5, h6, h7, h8, h9, h10, h11, h12, h13, h14, h15, h16, h17, h18, h19, h20, h21, h22, h23, h24, h25, h26, h27, h28, h29, h30, h31, h32, h33, h34, ho, c1, f1, bI_s, f5, f2, en_le]
  rw [ki_6, iO_add, show 6 * (c : Int) + 6 = 6 * ((c + 1 : Nat) : Int) by omega]
theorem lw_no (hL : L ≤ 3072) (hc : 6 * c + 6 ≤ L) (hI : INV S z D) (h0 : ¬ xs (6 * c) &&& 63 = 0) (h1 : ¬ xs (6 * c) &&& 63 = 1) (h2 : ¬ xs (6 * c) &&& 63 = 2) (h3 : ¬ xs (6 * c) &&& 63 = 3) (h4 : ¬ xs (6 * c) &&& 63 = 4) (h5 : ¬ xs (6 * c) &&& 63 = 5) (h6 : ¬ xs (6 * c) &&& 63 = 6) (h7 : ¬ xs (6 * c) &&& 63 = 7) (h8 : ¬ xs (6 * c) &&& 63 = 8) (h9 : ¬ xs (6 * c) &&& 63 = 9) (h10 : ¬ xs (6 * c) &&& 63 = 10) (h11 : ¬ xs (6 * c) &&& 63 = 11) (h12 : ¬ xs (6 * c) &&& 63 = 12) (h13 : ¬ xs (6 * c) &&& 63 = 13) (h14 : ¬ xs (6 * c) &&& 63 = 14) (h15 : ¬ xs (6 * c) &&& 63 = 15) (h16 : ¬ xs (6 * c) &&& 63 = 16) (h17 : ¬ xs (6 * c) &&& 63 = 17) (h18 : ¬ xs (6 * c) &&& 63 = 18) (h19 : ¬ xs (6 * c) &&& 63 = 19) (h20 : ¬ xs (6 * c) &&& 63 = 20) (h21 : ¬ xs (6 * c) &&& 63 = 21) (h22 : ¬ xs (6 * c) &&& 63 = 22) (h23 : ¬ xs (6 * c) &&& 63 = 23) (h24 : ¬ xs (6 * c) &&& 63 = 24) (h25 : ¬ xs (6 * c) &&& 63 = 25) (h26 : ¬ xs (6 * c) &&& 63 = 26) (h27 : ¬ xs (6 * c) &&& 63 = 27) (h28 : ¬ xs (6 * c) &&& 63 = 28) (h29 : ¬ xs (6 * c) &&& 63 = 29) (h30 : ¬ xs (6 * c) &&& 63 = 30) (h31 : ¬ xs (6 * c) &&& 63 = 31) (h32 : ¬ xs (6 * c) &&& 63 = 32) (h33 : ¬ xs (6 * c) &&& 63 = 33) (h34 : ¬ xs (6 * c) &&& 63 = 34) (h35 : ¬ xs (6 * c) &&& 63 = 35) : LW6 L xs z D c := by
  have x0 : en_ix (iO (6 * (c : Int))) L = True := eq_true ((iO_ix (by unfold i32; omega)).mpr (by omega))
  have t0 : (iO (6 * (c : Int))).toNatClampNeg = 6 * c := by rw [iO_nat (by omega) (by unfold i32; omega)]; omega
  have hlt : (iO (L : Int) - 6 < iO (6 * (c : Int))) = False := eq_false (by rw [ki_6, iO_sub]; exact nlt (by unfold i32; omega) (by unfold i32; omega) (by omega))
  refine ⟨S, z, D, ?_, hI, GR.rfl'⟩
  rw [eb_L_law_1]
  simp only [↓reduceIte, ↓lw_ln, lw_ofNat, hlt, ↓lw_a0, x0, t0, h0, h1, h2, h3, h4, h5, h6, h7, h8, h9, h10, h11, h12, h13, h14, h15, h16, h17, h18, h19, h20, h21, h22, h23, h24, h25, h26, h27, h28, h29, h30, h31, h32, h33, h34, h35, en_le]
  rw [ki_6, iO_add, show 6 * (c : Int) + 6 = 6 * ((c + 1 : Nat) : Int) by omega]
theorem lw_all (hL : L ≤ 3072) (hc : 6 * c + 6 ≤ L) (hI : INV S z D) : LW6 L xs z D c := by
  by_cases h0 : xs (6 * c) &&& 63 = 0
  · exact lw_0 hL hc hI h0
  by_cases h1 : xs (6 * c) &&& 63 = 1
  · exact lw_1 hL hc hI h1
  by_cases h2 : xs (6 * c) &&& 63 = 2
  · exact lw_2 hL hc hI h2
  by_cases h3 : xs (6 * c) &&& 63 = 3
  · exact lw_3 hL hc hI h3
  by_cases h4 : xs (6 * c) &&& 63 = 4
  · exact lw_4 hL hc hI h4
  by_cases h5 : xs (6 * c) &&& 63 = 5
  · exact lw_5 hL hc hI h5
  by_cases h6 : xs (6 * c) &&& 63 = 6
  · exact lw_6 hL hc hI h6
  by_cases h7 : xs (6 * c) &&& 63 = 7
  · exact lw_7 hL hc hI h7
  by_cases h8 : xs (6 * c) &&& 63 = 8
  · exact lw_8 hL hc hI h8
  by_cases h9 : xs (6 * c) &&& 63 = 9
  · exact lw_9 hL hc hI h9
  by_cases h10 : xs (6 * c) &&& 63 = 10
  · exact lw_10 hL hc hI h10
  by_cases h11 : xs (6 * c) &&& 63 = 11
  · exact lw_11 hL hc hI h11
  by_cases h12 : xs (6 * c) &&& 63 = 12
  · exact lw_12 hL hc hI h12
  by_cases h13 : xs (6 * c) &&& 63 = 13
  · exact lw_13 hL hc hI h13
  by_cases h14 : xs (6 * c) &&& 63 = 14
  · exact lw_14 hL hc hI h14
  by_cases h15 : xs (6 * c) &&& 63 = 15
  · exact lw_15 hL hc hI h15
  by_cases h16 : xs (6 * c) &&& 63 = 16
  · exact lw_16 hL hc hI h16
  by_cases h17 : xs (6 * c) &&& 63 = 17
  · exact lw_17 hL hc hI h17
  by_cases h18 : xs (6 * c) &&& 63 = 18
  · exact lw_18 hL hc hI h18
  by_cases h19 : xs (6 * c) &&& 63 = 19
  · exact lw_19 hL hc hI h19
  by_cases h20 : xs (6 * c) &&& 63 = 20
  · exact lw_20 hL hc hI h20
  by_cases h21 : xs (6 * c) &&& 63 = 21
  · exact lw_21 hL hc hI h21
  by_cases h22 : xs (6 * c) &&& 63 = 22
  · exact lw_22 hL hc hI h22
  by_cases h23 : xs (6 * c) &&& 63 = 23
  · exact lw_23 hL hc hI h23
  by_cases h24 : xs (6 * c) &&& 63 = 24
  · exact lw_24 hL hc hI h24
  by_cases h25 : xs (6 * c) &&& 63 = 25
  · exact lw_25 hL hc hI h25
  by_cases h26 : xs (6 * c) &&& 63 = 26
  · exact lw_26 hL hc hI h26
  by_cases h27 : xs (6 * c) &&& 63 = 27
  · exact lw_27 hL hc hI h27
  by_cases h28 : xs (6 * c) &&& 63 = 28
  · exact lw_28 hL hc hI h28
  by_cases h29 : xs (6 * c) &&& 63 = 29
  · exact lw_29 hL hc hI h29
  by_cases h30 : xs (6 * c) &&& 63 = 30
  · exact lw_30 hL hc hI h30
  by_cases h31 : xs (6 * c) &&& 63 = 31
  · exact lw_31 hL hc hI h31
  by_cases h32 : xs (6 * c) &&& 63 = 32
  · exact lw_32 hL hc hI h32
  by_cases h33 : xs (6 * c) &&& 63 = 33
  · exact lw_33 hL hc hI h33
  by_cases h34 : xs (6 * c) &&& 63 = 34
  · exact lw_34 hL hc hI h34
  by_cases h35 : xs (6 * c) &&& 63 = 35
  · exact lw_35 hL hc hI h35
  exact lw_no hL hc hI h0 h1 h2 h3 h4 h5 h6 h7 h8 h9 h10 h11 h12 h13 h14 h15 h16 h17 h18 h19 h20 h21 h22 h23 h24 h25 h26 h27 h28 h29 h30 h31 h32 h33 h34 h35
theorem lw_loop (hL : L ≤ 3072) : ∀ (j c : Nat) (S : ST5) (z D : en_H), L < 6 * c + 6 * (j + 1) → 6 * c ≤ 3072 + 6 → INV S z D → D.length ≤ 6 * c → en_sz D ≤ 400 * c → ∃ zf, b_L_law_1 (L, xs) 60 0 1 26 (iO (6 * (c : Int))) z = some (some (.int 1), zf) ∧ zf.length ≤ 600000 ∧ en_sz zf ≤ 7302250 := by
  have fin : ∀ (c : Nat) (S : ST5) (z D : en_H), L < 6 * c + 6 → 6 * c ≤ 3072 + 6 → INV S z D → D.length ≤ 6 * c → en_sz D ≤ 400 * c → ∃ zf, b_L_law_1 (L, xs) 60 0 1 26 (iO (6 * (c : Int))) z = some (some (.int 1), zf) ∧ zf.length ≤ 600000 ∧ en_sz zf ≤ 7302250 := by
    intro c S z D h1 h2 hI h3 h4
    obtain ⟨r1, r2⟩ := hI.room
    refine ⟨z, ?_, by omega, by omega⟩
    have hlt : (iO (L : Int) - 6 < iO (6 * (c : Int))) = True := eq_true (by rw [ki_6, iO_sub]; exact plt (by unfold i32; omega) (by unfold i32; omega) (by omega))
    rw [eb_L_law_1]
    simp only [↓reduceIte, ↓lw_ln, lw_ofNat, hlt]
  intro j
  induction j with
  | zero =>
    intro c S z D h1 h2 hI h3 h4
    exact fin c S z D (by omega) h2 hI h3 h4
  | succ j ih =>
    intro c S z D h1 h2 hI h3 h4
    by_cases hc : 6 * c + 6 ≤ L
    · obtain ⟨S', z', D', e1, e2, e3⟩ := lw_all hL hc hI
      rw [e1]
      obtain ⟨g1, g2⟩ := e3
      exact ih (c + 1) S' z' D' (by omega) (by omega) e2 (by omega) (by omega)
    · exact fin c S z D (by omega) h2 hI h3 h4
end LWS
theorem en_law_ok : en_Law := by
  intro L xs hL
  have h := lw_loop (L := L) (xs := xs) hL 512 0 S00 _ [] (by omega) (by omega) inv_start (by show (0 : Nat) ≤ 0; omega) (by show (0 : Nat) ≤ 0; omega)
  obtain ⟨zf, h1, h2, h3⟩ := h
  refine ⟨zf, ?_, h2, h3⟩
  rw [show (61 : Nat) = 58 + 3 from rfl, st_law]
  exact h1
