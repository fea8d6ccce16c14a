/-! THE CLASS'S SLOPES: wholeOf, signOfSum -/
theorem gL_of {ρ : Type} {z : en_H} {a ci k x : Nat} {cs : List (Nat × Nat)} {fs : List Value} {v : Int64} (h1 : en_ce z a = some (.inr (ci, fs))) (h2 : en_fd cs ci = some x) (h3 : en_nt fs k = some (.long v)) (f : Int64 → Option ρ) : en_gL z a cs k f = f v := by
  unfold en_gL
  simp only [h1, h2, h3]
theorem gI_of {ρ : Type} {z : en_H} {a ci k x : Nat} {cs : List (Nat × Nat)} {fs : List Value} {v : Int32} (h1 : en_ce z a = some (.inr (ci, fs))) (h2 : en_fd cs ci = some x) (h3 : en_nt fs k = some (.int v)) (f : Int32 → Option ρ) : en_gI z a cs k f = f v := by
  unfold en_gI
  simp only [h1, h2, h3]
theorem gA_of {ρ : Type} {z : en_H} {a ci k x v : Nat} {cs : List (Nat × Nat)} {fs : List Value} (h1 : en_ce z a = some (.inr (ci, fs))) (h2 : en_fd cs ci = some x) (h3 : en_nt fs k = some (.ref v)) (f0 : Option ρ) (f : Nat → Option ρ) : en_gA z a cs k f0 f = f v := by
  unfold en_gA
  simp only [h1, h2, h3]
/-- the fields of a slope -/
abbrev CSf (q qc lc : Value) (q2 : Value) (a b c d : Int) : List Value := [q, qc, q2, lc, .long (lO a), .long (lO b), .long (lO c), .long (lO d)]
/-- a slope as the class holds it -/
def CL (a b c d : Int) : Prop := -1000 ≤ a ∧ a ≤ 1000 ∧ -140 ≤ b ∧ b ≤ 140 ∧ 1 ≤ c ∧ c ≤ 100 ∧ 2 ≤ d ∧ d ≤ 50 ∧ b * b * d ≤ 20000 ∧ (b ≠ 0 → nsq d)
theorem CL.hn {a b c d : Int} (h : CL a b c d) {N : Int} : 0 ≤ N * b ∨ nsq d := by
  obtain ⟨-, -, -, -, -, -, -, -, -, h1⟩ := h
  by_cases g : b = 0
  · left; rw [g, Int.mul_zero]; exact Int.le_refl _
  · exact Or.inr (h1 g)
theorem e_cwhole {sc : en_S} {n p : Nat} {z : en_H} {q qc lc q2 : Value} {a b c d : Int} (hz : en_ce z p = some (.inr (6, CSf q qc lc q2 a b c d))) (hc : CL a b c d) {N u v : Int} (hv : 1 ≤ v) (hv2 : v ≤ 100) (hN : 0 ≤ N) (hvN : v * N ≤ 2000000) (hu : 0 ≤ u) (hu2 : u ≤ 100) :
    f_X7_wholeOf sc (n + 4) p (lO N) (lO u) (lO v) z = some (some (.long (lO (whl (v * N * a + u * c) (v * N * b) d (c * v)))), z) := by
  obtain ⟨a1, a2, b1, b2, c1, c2, d1, d2, hbd, hns⟩ := id hc
  have hvN0 : 0 ≤ v * N := Int.mul_nonneg (by omega) hN
  have g4 := fun (f : Int64 → Option (Option Value × en_H)) => gL_of (cs := [(6, 0)]) (k := 4) (x := 0) (v := lO a) hz rfl rfl f
  have g5 := fun (f : Int64 → Option (Option Value × en_H)) => gL_of (cs := [(6, 0)]) (k := 5) (x := 0) (v := lO b) hz rfl rfl f
  have g6 := fun (f : Int64 → Option (Option Value × en_H)) => gL_of (cs := [(6, 0)]) (k := 6) (x := 0) (v := lO c) hz rfl rfl f
  have g7 := fun (f : Int64 → Option (Option Value × en_H)) => gL_of (cs := [(6, 0)]) (k := 7) (x := 0) (v := lO d) hz rfl rfl f
  rw [e_X7_wholeOf]
  simp only [en_le, g4, g5, g6, g7]
  have hY : v * N * b * (v * N * b) * d = v * N * (v * N) * (b * b * d) := by simp only [Int.mul_assoc, Int.mul_left_comm, Int.mul_comm]
  have hVV := sq_bd (x := v * N) (K := 2000000) (by omega) hvN
  have hbd0 : 0 ≤ b * b * d := Int.mul_nonneg (sq_nn b) (by omega)
  have hYY := mul_bd (x := v * N * (v * N)) (y := b * b * d) (a := 4000000000000) (b := 20000) (by omega) (by omega) hbd0 hbd
  have hYY0 : 0 ≤ v * N * b * (v * N * b) * d := Int.mul_nonneg (sq_nn _) (by omega)
  rw [hY] at hYY0
  have hVb := mul_bd (x := b) (y := v * N) (a := 140) (b := 2000000) (by omega) b2 hvN0 hvN
  have hVa := mul_bd (x := a) (y := v * N) (a := 1000) (b := 2000000) (by omega) a2 hvN0 hvN
  have huc := mul_bd (x := u) (y := c) (a := 100) (b := 100) (by omega) hu2 (by omega) c2
  have hcv := mul_bd (x := c) (y := v) (a := 100) (b := 100) (by omega) c2 (by omega) hv2
  have hcv0 : 0 < c * v := Int.mul_pos (by omega) (by omega)
  rw [Int.mul_comm b] at hVb
  rw [Int.mul_comm a] at hVa
  have hm : v * N * b * (v * N * b) * d = ((v * N * b * (v * N * b) * d).toNat : Int) := by rw [hY]; omega
  have hroot := e_rootOf (sc := sc) (n := n) (z := z) (m := (v * N * b * (v * N * b) * d).toNat) (r := isq (v * N * b * (v * N * b) * d).toNat) (by rw [hY]; omega) (isq_le _) (isq_lt _)
  rw [← hm] at hroot
  have hr2 := isq_int (m := v * N * b * (v * N * b) * d) (by rw [hY]; exact hYY0)
  have hr3 : (isq (v * N * b * (v * N * b) * d).toNat : Int) ≤ 400000000 := by
    apply rt_le (by omega)
    rw [hY] at hr2 ⊢
    omega
  simp only [lO_mul, lO_add, lO_neg]
  rw [hroot]
  simp only [en_bL, g4, g6, lO_mul, lO_add, lO_neg, lg_cmp_ge]
  have h0 : (0 : Int64) ≤ lO (v * N * b) ↔ 0 ≤ v * N * b := lO_le (a := 0) (by unfold i64; omega) (by unfold i64; omega)
  -- both ways the whole of the root part is added
  have key : ∀ F : Int, -400000001 ≤ F → F ≤ 400000001 → b_X7_wholeOf_2 sc (n + 3) p (lO v) (lO F) (lO (v * N * a + u * c)) z = some (some (.long (lO ((v * N * a + u * c + F) / (c * v)))), z) := by
    intro F hF1 hF2
    rw [eb_X7_wholeOf_2]
    simp only [en_le, g4, g5, g6, g7, lO_mul, lO_add, lg_cmp_ge]
    have h1 : (1 : Int64) ≤ lO (c * v) ↔ 1 ≤ c * v := lO_le (a := 1) (by unfold i64; omega) (by unfold i64; omega)
    rw [if_pos (h1.mpr (by omega)), e_floorDivL (by unfold i64; omega) (by omega) (by unfold i64; omega) hcv0]
    rfl
  unfold whl fl
  by_cases g : 0 ≤ v * N * b
  · rw [if_pos (h0.mpr g), if_pos g]
    exact key _ (by omega) (by omega)
  · rw [if_neg (fun h => g (h0.mp h)), if_neg g, show (1 : Int64) = lO 1 from rfl, lO_sub]
    exact key _ (by omega) (by omega)
theorem e_csum {sc : en_S} {n p : Nat} {z : en_H} {q qc lc q2 : Value} {a b c d : Int} (hz : en_ce z p = some (.inr (6, CSf q qc lc q2 a b c d))) {x y : Int} (h1 : i64 (x * c + y * a)) (h2 : i64 (y * b)) (h3 : i64 ((x * c + y * a) * (x * c + y * a) - y * b * (y * b) * d)) :
    f_X7_signOfSum sc (n + 2) p (lO x) (lO y) z = some (some (.int (iO (sg (x * c + y * a) (y * b) d))), z) := by
  have g4 := fun (f : Int64 → Option (Option Value × en_H)) => gL_of (cs := [(6, 0)]) (k := 4) (x := 0) (v := lO a) hz rfl rfl f
  have g5 := fun (f : Int64 → Option (Option Value × en_H)) => gL_of (cs := [(6, 0)]) (k := 5) (x := 0) (v := lO b) hz rfl rfl f
  have g6 := fun (f : Int64 → Option (Option Value × en_H)) => gL_of (cs := [(6, 0)]) (k := 6) (x := 0) (v := lO c) hz rfl rfl f
  have g7 := fun (f : Int64 → Option (Option Value × en_H)) => gL_of (cs := [(6, 0)]) (k := 7) (x := 0) (v := lO d) hz rfl rfl f
  rw [e_X7_signOfSum]
  simp only [g4, g5, g6, g7, lO_mul, lO_add]
  rw [e_signOf h1 h2 h3]
  rfl
