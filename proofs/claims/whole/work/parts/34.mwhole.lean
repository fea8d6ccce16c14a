/-! THE MODEL'S wholeOf -/
theorem sq_bd {x K : Int} (h1 : -K ≤ x) (h2 : x ≤ K) : 0 ≤ x * x ∧ x * x ≤ K * K := by
  refine ⟨sq_nn x, ?_⟩
  rcases Int.le_total 0 x with h | h
  · exact rt_mono h h2
  · have := rt_mono (a := -x) (b := K) (by omega) (by omega)
    rwa [sq_neg] at this
theorem mul_bd {x y a b : Int} (h1 : -a ≤ x) (h2 : x ≤ a) (h3 : 0 ≤ y) (h4 : y ≤ b) : -(a * b) ≤ x * y ∧ x * y ≤ a * b := by
  have ha : 0 ≤ a := by omega
  have e1 : x * y ≤ a * y := Int.mul_le_mul_of_nonneg_right h2 h3
  have e2 : -a * y ≤ x * y := Int.mul_le_mul_of_nonneg_right h1 h3
  have e3 : a * y ≤ a * b := Int.mul_le_mul_of_nonneg_left h4 ha
  rw [Int.neg_mul] at e2
  omega
theorem nn_mul {x y d N : Int} (hN : 0 ≤ N) (h : nn x y d) : nn (x * N) (y * N) d := by
  rcases Int.lt_or_le 0 N with g | g
  · rw [Int.mul_comm x, Int.mul_comm y]
    exact (nn_scale g).mpr h
  · obtain rfl : N = 0 := by omega
    exact Or.inl ⟨by omega, Or.inl (by omega)⟩
theorem SL.hn {A B C D : Int} (h : SL A B C D) {N : Int} : 0 ≤ B * N ∨ nsq D := by
  obtain ⟨-, -, -, -, -, -, -, -, h1, -⟩ := h
  by_cases g : B = 0
  · left; rw [g, Int.zero_mul]; exact Int.le_refl _
  · exact Or.inr (h1 g)
theorem SL.dpos {A B C D : Int} (h : SL A B C D) : 0 < D := by
  obtain ⟨-, -, -, -, -, -, h1, -⟩ := h
  omega
theorem SL.cpos {A B C D : Int} (h : SL A B C D) : 0 < C := by
  obtain ⟨-, -, -, -, h1, -⟩ := h
  omega
/-- the slope is at least 0, and 20 less it too -/
theorem SL.nn0 {A B C D : Int} (h : SL A B C D) : nn A B D := by
  have hd := h.dpos
  obtain ⟨-, -, -, -, -, -, -, -, -, -, h1, -⟩ := h
  exact (sg_nn hd).mp (by omega)
theorem SL.nn20 {A B C D : Int} (h : SL A B C D) : nn (20 * C - A) (-B) D := by
  have hd := h.dpos
  obtain ⟨-, -, -, -, -, -, -, -, -, -, -, h2⟩ := h
  apply (sg_nn hd).mp
  rw [show 20 * C - A = -(A - 20 * C) by omega, sg_neg]
  omega
theorem nn_no {c d : Int} (hc : 0 < c) (hd : 0 ≤ d) : ¬ nn (-c) 0 d := by
  intro h
  rcases h with ⟨-, h | h⟩ | ⟨h, -⟩
  · omega
  · rw [sq_neg, Int.zero_mul, Int.zero_mul] at h
    have := Int.mul_pos hc hc
    omega
  · omega
theorem SL.w0 {A B C D : Int} (h : SL A B C D) {N : Int} (hN : 0 ≤ N) : 0 ≤ whl (A * N) (B * N) D C := by
  rw [← whl_iff h.dpos h.hn h.cpos, Int.zero_mul, Int.sub_zero]
  exact nn_mul hN h.nn0
theorem SL.w20 {A B C D : Int} (h : SL A B C D) {N : Int} (hN : 0 ≤ N) : whl (A * N) (B * N) D C ≤ 20 * N := by
  rcases Int.lt_or_le (20 * N) (whl (A * N) (B * N) D C) with g | g
  · exfalso
    have h1 := (whl_iff (k := 20 * N + 1) h.dpos h.hn h.cpos).mpr (show 20 * N + 1 ≤ whl (A * N) (B * N) D C by omega)
    have h2 := nn_mul hN h.nn20
    have h3 := nn_add (by have := h.dpos; omega) h1 h2
    have e1 : A * N - (20 * N + 1) * C + (20 * C - A) * N = -C := by
      rw [Int.add_mul, Int.sub_mul, Int.mul_assoc 20 C N, Int.mul_assoc 20 N C, Int.mul_comm C N]
      omega
    have e2 : B * N + -B * N = 0 := by rw [Int.neg_mul]; omega
    rw [e1, e2] at h3
    exact nn_no h.cpos (by have := h.dpos; omega) h3
  · exact g
section MWH
variable {sc : en_S} {n : Nat} {XI : Nat → Int32} {XA : Nat → Nat → Int32} {XP : Nat → Nat → Option Nat} {XC : Value} {MI : Nat → Int32} {MA : Nat → Nat → Int32} {ML : Nat → Nat → Int64} {D0 : en_H} {A B C D : Int} {s : Nat}
theorem mw_loop (hs : s < 8) (hM : MS MA s A B C D) (hS : SL A B C D) {N : Int} (hN : 0 ≤ N) (hN2 : N ≤ 100000) : ∀ (j : Nat) (lo hi : Int), 0 ≤ lo → hi ≤ 20 * N → lo ≤ whl (A * N) (B * N) D C → whl (A * N) (B * N) D C ≤ hi → hi - lo < j →
    b_X12_wholeOf_1 sc (n + 2) 26 (iO s) (iO N) (iO lo) (iO hi) (hp XI XA XP XC MI MA ML D0) = some (some (.int (iO (whl (A * N) (B * N) D C))), hp XI XA XP XC MI MA ML D0) := by
  intro j
  induction j with
  | zero => intro lo hi h1 h2 h3 h4 h5; omega
  | succ j ih =>
    intro lo hi h1 h2 h3 h4 h5
    obtain ⟨a1, a2, b1, b2, c1, c2, d1, d2, -⟩ := id hS
    rw [eb_X12_wholeOf_1]
    have hle : iO hi ≤ iO lo ↔ hi ≤ lo := iO_le (by unfold i32; omega) (by unfold i32; omega)
    by_cases g : hi ≤ lo
    · rw [if_pos (hle.mpr g), show lo = whl (A * N) (B * N) D C by omega]
    · rw [if_neg (fun q => g (hle.mp q))]
      simp only [en_le, hp_cc_26, if_true]
      have e1 : (1 : Int32) = iO 1 := rfl
      have e2 : (2 : Int32) = iO 2 := rfl
      have el : (1 : Int64) = lO 1 := rfl
      have ed : iO (hi - lo + 1) / iO 2 = iO ((hi - lo + 1) / 2) := by
        have e : (hi - lo + 1).tdiv 2 = (hi - lo + 1) / 2 := Int.tdiv_eq_ediv_of_nonneg (by omega)
        rw [iO_div (by unfold i32; omega) (by unfold i32; omega) (by rw [e]; unfold i32; omega), e]
      rw [e1, e2, iO_sub, iO_add, ed, iO_add, iO_sub]
      generalize hk : lo + (hi - lo + 1) / 2 = k
      have hk1 : lo < k := by omega
      have hk2 : k ≤ hi := by omega
      rw [iO_wide (k := N) (by unfold i32; omega), iO_wide (k := k) (by unfold i32; omega), el]
      have hAN := mul_bd (x := A) (y := N) (a := 1000) (b := 100000) (by omega) a2 hN hN2
      have hBN := mul_bd (x := B) (y := N) (a := 20) (b := 100000) (by omega) b2 hN hN2
      have hkC := mul_bd (x := k) (y := C) (a := 2000000) (b := 100) (by omega) (by omega) (by omega) c2
      have hx := sq_bd (x := A * N - k * C) (K := 300000000) (by omega) (by omega)
      have hy := sq_bd (x := B * N) (K := 2000000) (by omega) (by omega)
      have hyd := mul_bd (x := B * N * (B * N)) (y := D) (a := 4000000000000) (b := 50) (by omega) (by omega) (by omega) d2
      have hside := e_side (sc := sc) (n := n) (XI := XI) (XA := XA) (XP := XP) (XC := XC) (MI := MI) (ML := ML) (D0 := D0) hs hM hS (N := N) (m := k) (q := 1) (by rw [Int.one_mul]; unfold i64; omega) (by rw [Int.one_mul]; unfold i64; omega) (by rw [Int.one_mul]; unfold i64; omega) (by rw [Int.one_mul]; unfold i64; omega)
      rw [hside]
      rw [Int.one_mul, Int.one_mul]
      have hlt : iO (sg (A * N - k * C) (B * N) D) < 0 ↔ sg (A * N - k * C) (B * N) D < 0 := iO_lt (b := 0) (by have := sg_range (A * N - k * C) (B * N) D; unfold i32; omega) (by unfold i32; omega)
      have hw := (sg_nn (x := A * N - k * C) (y := B * N) hS.dpos).trans (whl_iff hS.dpos hS.hn hS.cpos)
      show (if iO (sg (A * N - k * C) (B * N) D) < 0 then _ else _) = _
      by_cases g2 : sg (A * N - k * C) (B * N) D < 0
      · rw [if_pos (hlt.mpr g2)]
        exact ih lo (k - 1) h1 (by omega) h3 (by omega) (by omega)
      · rw [if_neg (fun q => g2 (hlt.mp q))]
        exact ih k hi (by omega) h2 (hw.mp (by omega)) h4 (by omega)
theorem e_mwhole (hs : s < 8) (hM : MS MA s A B C D) (hS : SL A B C D) {N : Int} (hN : 0 ≤ N) (hN2 : N ≤ 100000) :
    f_X12_wholeOf sc (n + 3) 26 (iO s) (iO N) (hp XI XA XP XC MI MA ML D0) = some (some (.int (iO (whl (A * N) (B * N) D C))), hp XI XA XP XC MI MA ML D0) := by
  rw [e_X12_wholeOf]
  simp only [en_le]
  have e20 : (20 : Int32) = iO 20 := rfl
  have e0 : (0 : Int32) = iO 0 := rfl
  rw [e20, iO_mul, e0]
  exact mw_loop hs hM hS hN hN2 (20 * N + 1).toNat 0 (20 * N) (by omega) (by omega) (hS.w0 hN) (hS.w20 hN) (by omega)
end MWH
