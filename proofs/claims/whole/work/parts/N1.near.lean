/-! NEARERS: the theory, over any order of pairs; (x, y) stands for x s - y -/
section BAP
variable {P : Int → Int → Prop}
/-- an order of pairs: P says that a pair is at least 0 -/
def ORD (P : Int → Int → Prop) : Prop := (∀ x y u v, P x y → P u v → P (x + u) (y + v)) ∧ (∀ x y, P x y ∨ P (-x) (-y)) ∧ (∀ y, P 0 y ↔ y ≤ 0)
theorem ORD.zero (h : ORD P) : P 0 0 := (h.2.2 0).mpr (Int.le_refl 0)
theorem ORD.mulN (h : ORD P) {x y : Int} (hp : P x y) : ∀ n : Nat, P ((n : Int) * x) ((n : Int) * y)
  | 0 => by
    rw [show ((0 : Nat) : Int) * x = 0 by simp, show ((0 : Nat) : Int) * y = 0 by simp]
    exact h.zero
  | n + 1 => by
    have := h.1 _ _ _ _ (ORD.mulN h hp n) hp
    rw [show ((n + 1 : Nat) : Int) * x = (n : Int) * x + x by rw [show ((n + 1 : Nat) : Int) = (n : Int) + 1 by omega, Int.add_mul, Int.one_mul], show ((n + 1 : Nat) : Int) * y = (n : Int) * y + y by rw [show ((n + 1 : Nat) : Int) = (n : Int) + 1 by omega, Int.add_mul, Int.one_mul]]
    exact this
theorem ORD.mul (h : ORD P) {x y : Int} (hp : P x y) {a : Int} (ha : 0 ≤ a) : P (a * x) (a * y) := by
  obtain ⟨n, rfl⟩ : ∃ n : Nat, a = n := ⟨a.toNat, by omega⟩
  exact h.mulN hp n
/-- two neighbours of the row of fractions: their numbers below the line, their signs, their determinant -/
def CST (P : Int → Int → Prop) (x1 y1 x2 y2 qp qc : Int) : Prop := P x1 y1 ∧ P x2 y2 ∧ (x1 * y2 - x2 * y1 = 1 ∨ x1 * y2 - x2 * y1 = -1) ∧ ((x1 = qp ∧ x2 = -qc) ∨ (x1 = -qp ∧ x2 = qc)) ∧ 0 ≤ qp ∧ 1 ≤ qc
/-- the quotients that are left -/
def RL (P : Int → Int → Prop) : Nat → List Int → Int → Int → Int → Int → Prop
  | n, [], _, _, x2, y2 => n = 0 ∨ P (-x2) (-y2)
  | 0, _ :: _, _, _, _, _ => False
  | n + 1, a :: r, x1, y1, x2, y2 => ¬ P (-x2) (-y2) ∧ P (x1 - a * x2) (y1 - a * y2) ∧ ¬ P (x1 - (a + 1) * x2) (y1 - (a + 1) * y2) ∧ RL P n r x2 y2 (x1 - a * x2) (y1 - a * y2)
theorem RL_nil {P : Int → Int → Prop} {n : Nat} {x1 y1 x2 y2 : Int} : RL P n [] x1 y1 x2 y2 ↔ (n = 0 ∨ P (-x2) (-y2)) := by
  cases n <;> exact Iff.rfl
theorem CST.next {x1 y1 x2 y2 qp qc a : Int} (h : CST P x1 y1 x2 y2 qp qc) (ha : 1 ≤ a) (hp : P (x1 - a * x2) (y1 - a * y2)) : CST P x2 y2 (x1 - a * x2) (y1 - a * y2) qc (a * qc + qp) := by
  obtain ⟨h1, h2, h3, h4, h5, h6⟩ := h
  have hq : 0 < a * qc := Int.mul_pos (by omega) (by omega)
  refine ⟨h2, hp, ?_, ?_, by omega, by omega⟩
  · have e : x2 * (y1 - a * y2) - (x1 - a * x2) * y2 = -(x1 * y2 - x2 * y1) := by grind
    rw [e]
    omega
  · rcases h4 with ⟨e1, e2⟩ | ⟨e1, e2⟩
    · right
      refine ⟨e2, ?_⟩
      rw [e1, e2, Int.mul_neg]
      omega
    · left
      refine ⟨e2, ?_⟩
      rw [e1, e2]
      omega
/-- no number before the next one is nearer -/
theorem lagrange (hO : ORD P) {x2 y2 x3 y3 qc qn : Int} (h : CST P x2 y2 x3 y3 qc qn) (hpos : ¬ P (-x2) (-y2)) {x y n : Int} (hx : x = n ∨ x = -n) (hn : 0 < n) (hn2 : n < qn) (hf : P x y) : P (x - x2) (y - y2) := by
  obtain ⟨h2, h3, hdet, hsg, hq1, hq2⟩ := h
  obtain ⟨al, be, e1, e2⟩ : ∃ al be : Int, x = al * x2 + be * x3 ∧ y = al * y2 + be * y3 := by
    rcases hdet with g | g
    · exact ⟨x * y3 - y * x3, x2 * y - y2 * x, by grind, by grind⟩
    · exact ⟨-(x * y3 - y * x3), -(x2 * y - y2 * x), by grind, by grind⟩
  -- the numbers below the line
  have hm : al * qc - be * qn = n ∨ al * qc - be * qn = -n := by
    rcases hsg with ⟨g1, g2⟩ | ⟨g1, g2⟩
    · rw [g1, g2, Int.mul_neg] at e1
      omega
    · rw [g1, g2, Int.mul_neg] at e1
      omega
  by_cases b0 : be = 0
  · subst b0
    rw [Int.zero_mul, Int.add_zero] at e1 e2
    by_cases a1 : 1 ≤ al
    · have := hO.mul h2 (a := al - 1) (by omega)
      rw [Int.sub_mul, Int.sub_mul, Int.one_mul, Int.one_mul, ← e1, ← e2] at this
      exact this
    · exfalso
      have a0 : al ≠ 0 := fun q => by rw [q, Int.zero_mul, Int.zero_mul] at hm; omega
      have k1 := hO.mul h2 (a := -al - 1) (by omega)
      have k2 := hO.1 _ _ _ _ hf k1
      apply hpos
      have q1 : x + (-al - 1) * x2 = -x2 := by rw [e1]; grind
      have q2 : y + (-al - 1) * y2 = -y2 := by rw [e2]; grind
      rwa [q1, q2] at k2
  · rcases Int.lt_or_gt_of_ne b0 with b1 | b1
    · -- be below 0
      have kb : be * qn ≤ -qn := by
        have := Int.mul_le_mul_of_nonneg_right (show be ≤ -1 by omega) (show 0 ≤ qn by omega)
        rw [Int.neg_mul, Int.one_mul] at this
        exact this
      have a1 : al ≤ -1 := by
        rcases Int.lt_or_le al 0 with g | g
        · omega
        · have := Int.mul_nonneg g (show 0 ≤ qc by omega)
          omega
      exfalso
      have k1 := hO.mul h2 (a := -al - 1) (by omega)
      have k2 := hO.mul h3 (a := -be) (by omega)
      have k3 := hO.1 _ _ _ _ hf (hO.1 _ _ _ _ k1 k2)
      apply hpos
      have q1 : x + ((-al - 1) * x2 + -be * x3) = -x2 := by rw [e1]; grind
      have q2 : y + ((-al - 1) * y2 + -be * y3) = -y2 := by rw [e2]; grind
      rwa [q1, q2] at k3
    · have kb : qn ≤ be * qn := by
        have := Int.mul_le_mul_of_nonneg_right (show 1 ≤ be by omega) (show 0 ≤ qn by omega)
        rw [Int.one_mul] at this
        exact this
      have a1 : 1 ≤ al := by
        rcases Int.lt_or_le 0 al with g | g
        · omega
        · have := Int.mul_le_mul_of_nonneg_right g (show 0 ≤ qc by omega)
          rw [Int.zero_mul] at this
          omega
      have k1 := hO.mul h2 (a := al - 1) (by omega)
      have k2 := hO.mul h3 (a := be) (by omega)
      have k3 := hO.1 _ _ _ _ k1 k2
      have q1 : (al - 1) * x2 + be * x3 = x - x2 := by rw [e1]; grind
      have q2 : (al - 1) * y2 + be * y3 = y - y2 := by rw [e2]; grind
      rwa [q1, q2] at k3
/-- how near n times s is to a whole number, as a pair -/
def DIST (P : Int → Int → Prop) (n u v : Int) : Prop := P u v ∧ (∃ x y, (x = n ∨ x = -n) ∧ P x y ∧ P (u - x) (v - y) ∧ P (x - u) (y - v)) ∧ ∀ x y, (x = n ∨ x = -n) → P x y → P (x - u) (y - v)
theorem near_not (hO : ORD P) {x1 y1 x2 y2 qp qc a n u v u0 v0 : Int} (h : CST P x1 y1 x2 y2 qp qc) (ha : 1 ≤ a) (hpos : ¬ P (-x2) (-y2)) (hp : P (x1 - a * x2) (y1 - a * y2)) (hn : 0 < n) (hn2 : n < a * qc + qp) (hd : DIST P n u v) (h0 : P (x2 - u0) (y2 - v0)) : P (u - u0) (v - v0) := by
  obtain ⟨-, ⟨x, y, hx, hf, k1, -⟩, -⟩ := hd
  have := lagrange hO (h.next ha hp) hpos hx hn hn2 hf
  have k2 := hO.1 _ _ _ _ (hO.1 _ _ _ _ k1 this) h0
  have q1 : u - x + (x - x2) + (x2 - u0) = u - u0 := by omega
  have q2 : v - y + (y - y2) + (y2 - v0) = v - v0 := by omega
  rwa [q1, q2] at k2
theorem near_yes (hO : ORD P) {x1 y1 x2 y2 qp qc a n u v u0 v0 : Int} (h : CST P x1 y1 x2 y2 qp qc) (ha : 1 ≤ a) (hpos : ¬ P (-x2) (-y2)) (hp : P (x1 - a * x2) (y1 - a * y2)) (hno : ¬ P (x1 - (a + 1) * x2) (y1 - (a + 1) * y2)) (hq : qc < a * qc + qp) (hn : n = a * qc + qp) (hd : DIST P n u v) (hd0 : DIST P qc u0 v0) : ¬ P (u - u0) (v - v0) ∧ P (x1 - a * x2 - u) (y1 - a * y2 - v) := by
  have hc := h.next ha hp
  obtain ⟨-, -, -, hsg, -, -⟩ := id hc
  obtain ⟨-, -, -, hsg0, -, hqc⟩ := id h
  have k0 : P (x1 - a * x2 - u) (y1 - a * y2 - v) := hd.2.2 _ _ (by rw [hn]; rcases hsg with ⟨-, g⟩ | ⟨-, g⟩ <;> omega) hp
  refine ⟨fun hh => hno ?_, k0⟩
  obtain ⟨-, ⟨x, y, hx, hf, j1, -⟩, -⟩ := hd0
  have k1 := lagrange hO hc hpos hx (by omega) hq hf
  -- E_cur <= d0 <= d <= E_next
  have k2 := hO.1 _ _ _ _ (hO.1 _ _ _ _ k0 hh) (hO.1 _ _ _ _ j1 k1)
  have q1 : x1 - a * x2 - u + (u - u0) + (u0 - x + (x - x2)) = x1 - (a + 1) * x2 := by grind
  have q2 : y1 - a * y2 - v + (v - v0) + (v0 - y + (y - y2)) = y1 - (a + 1) * y2 := by grind
  rwa [q1, q2] at k2
end BAP
/-- the lines up to 2000 -/
def lls2 : List Int → Int → Int → List Int
  | [], _, _ => []
  | q :: r, b, l => if 2000 < q * l + b then [] else if q * l + b ≤ 1 then lls2 r l (q * l + b) else (q * l + b) :: lls2 r l (q * l + b)
theorem lls_gt : ∀ (r : List Int) (b l : Int) (i : Nat) (x : Int), (∀ q ∈ r, 1 ≤ q) → 0 ≤ b → 1 ≤ l → (lls r b l)[i]? = some x → l ≤ x
  | [], _, _, i, x, _, _, _, h => by simp [lls] at h
  | q :: r, b, l, i, x, hq, hb, hl, h => by
    have h1 := hq q (List.mem_cons_self ..)
    have hm : l ≤ q * l := by
      have := Int.mul_le_mul_of_nonneg_right h1 (show 0 ≤ l by omega)
      rwa [Int.one_mul] at this
    rw [lls] at h
    split at h
    · simp at h
    · split at h
      · have := lls_gt r l (q * l + b) i x (fun q hq' => hq q (List.mem_cons_of_mem _ hq')) (by omega) (by omega) h
        omega
      · cases i with
        | zero => simp at h; omega
        | succ i =>
          rw [List.getElem?_cons_succ] at h
          have := lls_gt r l (q * l + b) i x (fun q hq' => hq q (List.mem_cons_of_mem _ hq')) (by omega) (by omega) h
          omega
theorem lls2_iff : ∀ (r : List Int) (b l : Int) (i : Nat) (x : Int), (∀ q ∈ r, 1 ≤ q) → 0 ≤ b → 1 ≤ l → ((lls2 r b l)[i]? = some x ↔ (lls r b l)[i]? = some x ∧ x ≤ 2000)
  | [], _, _, i, x, _, _, _ => by simp [lls, lls2]
  | q :: r, b, l, i, x, hq, hb, hl => by
    have h1 := hq q (List.mem_cons_self ..)
    have hm : l ≤ q * l := by
      have := Int.mul_le_mul_of_nonneg_right h1 (show 0 ≤ l by omega)
      rwa [Int.one_mul] at this
    have ih := fun i x => lls2_iff r l (q * l + b) i x (fun q hq' => hq q (List.mem_cons_of_mem _ hq')) (by omega) (by omega)
    rw [lls, lls2]
    by_cases c1 : 10000 < q * l + b
    · rw [if_pos c1, if_pos (by omega)]
      simp
    rw [if_neg c1]
    by_cases c2 : 2000 < q * l + b
    · rw [if_pos c2, if_neg (by omega)]
      constructor
      · intro h; simp at h
      · intro ⟨h, hx⟩
        exfalso
        cases i with
        | zero => simp at h; omega
        | succ i =>
          rw [List.getElem?_cons_succ] at h
          have := lls_gt r l (q * l + b) i x (fun q hq' => hq q (List.mem_cons_of_mem _ hq')) (by omega) (by omega) h
          omega
    · rw [if_neg c2]
      by_cases c3 : q * l + b ≤ 1
      · rw [if_pos c3, if_pos c3]
        exact ih i x
      · rw [if_neg c3, if_neg c3]
        cases i with
        | zero =>
          simp
          omega
        | succ i =>
          rw [List.getElem?_cons_succ, List.getElem?_cons_succ]
          exact ih i x
