-- FILE N1
/-! NEARERS: the theory, over any order of pairs; (x, y) stands for x s - y -/
section BAP
variable {P : Int → Int → Prop}
/-- an order of pairs: P says that a pair is at least 0 -/
def ORD (P : Int → Int → Prop) : Prop := (∀ x y u v, P x y → P u v → P (x + u) (y + v)) ∧ (∀ x y, P x y ∨ P (-x) (-y)) ∧ (∀ y, P 0 y ↔ y ≤ 0)
theorem ORD.zero (h : ORD P) : P 0 0 := (h.2.2 0).mpr (Int.le_refl 0)
theorem ORD.mulN (h : ORD P) {x y : Int} (hp : P x y) : ∀ n : Nat, P ((n : Int) * x) ((n : Int) * y)
  | 0 => by
    rw [show ((0 : Nat) : Int) * x = 0 by simp, show ((0 : Nat) : Int) * y = 0 by simp]
    exact h.zero
  | n + 1 => by
    have := h.1 _ _ _ _ (ORD.mulN h hp n) hp
    rw [show ((n + 1 : Nat) : Int) * x = (n : Int) * x + x by rw [show ((n + 1 : Nat) : Int) = (n : Int) + 1 by omega, Int.add_mul, Int.one_mul], show ((n + 1 : Nat) : Int) * y = (n : Int) * y + y by rw [show ((n + 1 : Nat) : Int) = (n : Int) + 1 by omega, Int.add_mul, Int.one_mul]]
    exact this
theorem ORD.mul (h : ORD P) {x y : Int} (hp : P x y) {a : Int} (ha : 0 ≤ a) : P (a * x) (a * y) := by
  obtain ⟨n, rfl⟩ : ∃ n : Nat, a = n := ⟨a.toNat, by omega⟩
  exact h.mulN hp n
/-- two neighbours of the row of fractions: their numbers below the line, their signs, their determinant -/
def CST (P : Int → Int → Prop) (x1 y1 x2 y2 qp qc : Int) : Prop := P x1 y1 ∧ P x2 y2 ∧ (x1 * y2 - x2 * y1 = 1 ∨ x1 * y2 - x2 * y1 = -1) ∧ ((x1 = qp ∧ x2 = -qc) ∨ (x1 = -qp ∧ x2 = qc)) ∧ 0 ≤ qp ∧ 1 ≤ qc
/-- the quotients that are left -/
def RL (P : Int → Int → Prop) : Nat → List Int → Int → Int → Int → Int → Prop
  | n, [], _, _, x2, y2 => n = 0 ∨ P (-x2) (-y2)
  | 0, _ :: _, _, _, _, _ => False
  | n + 1, a :: r, x1, y1, x2, y2 => ¬ P (-x2) (-y2) ∧ P (x1 - a * x2) (y1 - a * y2) ∧ ¬ P (x1 - (a + 1) * x2) (y1 - (a + 1) * y2) ∧ RL P n r x2 y2 (x1 - a * x2) (y1 - a * y2)
theorem CST.next {x1 y1 x2 y2 qp qc a : Int} (h : CST P x1 y1 x2 y2 qp qc) (ha : 1 ≤ a) (hp : P (x1 - a * x2) (y1 - a * y2)) : CST P x2 y2 (x1 - a * x2) (y1 - a * y2) qc (a * qc + qp) := by
  obtain ⟨h1, h2, h3, h4, h5, h6⟩ := h
  have hq : 0 < a * qc := Int.mul_pos (by omega) (by omega)
  refine ⟨h2, hp, ?_, ?_, by omega, by omega⟩
  · have e : x2 * (y1 - a * y2) - (x1 - a * x2) * y2 = -(x1 * y2 - x2 * y1) := by grind
    rw [e]
    omega
  · rcases h4 with ⟨e1, e2⟩ | ⟨e1, e2⟩
    · right
      refine ⟨e2, ?_⟩
      rw [e1, e2, Int.mul_neg]
      omega
    · left
      refine ⟨e2, ?_⟩
      rw [e1, e2]
      omega
/-- no number before the next one is nearer -/
theorem lagrange (hO : ORD P) {x2 y2 x3 y3 qc qn : Int} (h : CST P x2 y2 x3 y3 qc qn) (hpos : ¬ P (-x2) (-y2)) {x y n : Int} (hx : x = n ∨ x = -n) (hn : 0 < n) (hn2 : n < qn) (hf : P x y) : P (x - x2) (y - y2) := by
  obtain ⟨h2, h3, hdet, hsg, hq1, hq2⟩ := h
  obtain ⟨al, be, e1, e2⟩ : ∃ al be : Int, x = al * x2 + be * x3 ∧ y = al * y2 + be * y3 := by
    rcases hdet with g | g
    · exact ⟨x * y3 - y * x3, x2 * y - y2 * x, by grind, by grind⟩
    · exact ⟨-(x * y3 - y * x3), -(x2 * y - y2 * x), by grind, by grind⟩
  -- the numbers below the line
  have hm : al * qc - be * qn = n ∨ al * qc - be * qn = -n := by
    rcases hsg with ⟨g1, g2⟩ | ⟨g1, g2⟩
    · rw [g1, g2, Int.mul_neg] at e1
      omega
    · rw [g1, g2, Int.mul_neg] at e1
      omega
  by_cases b0 : be = 0
  · subst b0
    rw [Int.zero_mul, Int.add_zero] at e1 e2
    by_cases a1 : 1 ≤ al
    · have := hO.mul h2 (a := al - 1) (by omega)
      rw [Int.sub_mul, Int.sub_mul, Int.one_mul, Int.one_mul, ← e1, ← e2] at this
      exact this
    · exfalso
      have a0 : al ≠ 0 := fun q => by rw [q, Int.zero_mul, Int.zero_mul] at hm; omega
      have k1 := hO.mul h2 (a := -al - 1) (by omega)
      have k2 := hO.1 _ _ _ _ hf k1
      apply hpos
      have q1 : x + (-al - 1) * x2 = -x2 := by rw [e1]; grind
      have q2 : y + (-al - 1) * y2 = -y2 := by rw [e2]; grind
      rwa [q1, q2] at k2
  · rcases Int.lt_or_gt_of_ne b0 with b1 | b1
    · -- be below 0
      have kb : be * qn ≤ -qn := by
        have := Int.mul_le_mul_of_nonneg_right (show be ≤ -1 by omega) (show 0 ≤ qn by omega)
        rw [Int.neg_mul, Int.one_mul] at this
        exact this
      have a1 : al ≤ -1 := by
        rcases Int.lt_or_le al 0 with g | g
        · omega
        · have := Int.mul_nonneg g (show 0 ≤ qc by omega)
          omega
      exfalso
      have k1 := hO.mul h2 (a := -al - 1) (by omega)
      have k2 := hO.mul h3 (a := -be) (by omega)
      have k3 := hO.1 _ _ _ _ hf (hO.1 _ _ _ _ k1 k2)
      apply hpos
      have q1 : x + ((-al - 1) * x2 + -be * x3) = -x2 := by rw [e1]; grind
      have q2 : y + ((-al - 1) * y2 + -be * y3) = -y2 := by rw [e2]; grind
      rwa [q1, q2] at k3
    · have kb : qn ≤ be * qn := by
        have := Int.mul_le_mul_of_nonneg_right (show 1 ≤ be by omega) (show 0 ≤ qn by omega)
        rw [Int.one_mul] at this
        exact this
      have a1 : 1 ≤ al := by
        rcases Int.lt_or_le 0 al with g | g
        · omega
        · have := Int.mul_le_mul_of_nonneg_right g (show 0 ≤ qc by omega)
          rw [Int.zero_mul] at this
          omega
      have k1 := hO.mul h2 (a := al - 1) (by omega)
      have k2 := hO.mul h3 (a := be) (by omega)
      have k3 := hO.1 _ _ _ _ k1 k2
      have q1 : (al - 1) * x2 + be * x3 = x - x2 := by rw [e1]; grind
      have q2 : (al - 1) * y2 + be * y3 = y - y2 := by rw [e2]; grind
      rwa [q1, q2] at k3
/-- how near n times s is to a whole number, as a pair -/
def DIST (P : Int → Int → Prop) (n u v : Int) : Prop := P u v ∧ (∃ x y, (x = n ∨ x = -n) ∧ P x y ∧ P (u - x) (v - y) ∧ P (x - u) (y - v)) ∧ ∀ x y, (x = n ∨ x = -n) → P x y → P (x - u) (y - v)
theorem near_not (hO : ORD P) {x1 y1 x2 y2 qp qc a n u v u0 v0 : Int} (h : CST P x1 y1 x2 y2 qp qc) (ha : 1 ≤ a) (hpos : ¬ P (-x2) (-y2)) (hp : P (x1 - a * x2) (y1 - a * y2)) (hn : 0 < n) (hn2 : n < a * qc + qp) (hd : DIST P n u v) (h0 : P (x2 - u0) (y2 - v0)) : P (u - u0) (v - v0) := by
  obtain ⟨-, ⟨x, y, hx, hf, k1, -⟩, -⟩ := hd
  have := lagrange hO (h.next ha hp) hpos hx hn hn2 hf
  have k2 := hO.1 _ _ _ _ (hO.1 _ _ _ _ k1 this) h0
  have q1 : u - x + (x - x2) + (x2 - u0) = u - u0 := by omega
  have q2 : v - y + (y - y2) + (y2 - v0) = v - v0 := by omega
  rwa [q1, q2] at k2
theorem near_yes (hO : ORD P) {x1 y1 x2 y2 qp qc a n u v u0 v0 : Int} (h : CST P x1 y1 x2 y2 qp qc) (ha : 1 ≤ a) (hpos : ¬ P (-x2) (-y2)) (hp : P (x1 - a * x2) (y1 - a * y2)) (hno : ¬ P (x1 - (a + 1) * x2) (y1 - (a + 1) * y2)) (hq : qc < a * qc + qp) (hn : n = a * qc + qp) (hd : DIST P n u v) (hd0 : DIST P qc u0 v0) : ¬ P (u - u0) (v - v0) ∧ P (x1 - a * x2 - u) (y1 - a * y2 - v) := by
  have hc := h.next ha hp
  obtain ⟨-, -, -, hsg, -, -⟩ := id hc
  obtain ⟨-, -, -, hsg0, -, hqc⟩ := id h
  have k0 : P (x1 - a * x2 - u) (y1 - a * y2 - v) := hd.2.2 _ _ (by rw [hn]; rcases hsg with ⟨-, g⟩ | ⟨-, g⟩ <;> omega) hp
  refine ⟨fun hh => hno ?_, k0⟩
  obtain ⟨-, ⟨x, y, hx, hf, j1, -⟩, -⟩ := hd0
  have k1 := lagrange hO hc hpos hx (by omega) hq hf
  -- E_cur <= d0 <= d <= E_next
  have k2 := hO.1 _ _ _ _ (hO.1 _ _ _ _ k0 hh) (hO.1 _ _ _ _ j1 k1)
  have q1 : x1 - a * x2 - u + (u - u0) + (u0 - x + (x - x2)) = x1 - (a + 1) * x2 := by grind
  have q2 : y1 - a * y2 - v + (v - v0) + (v0 - y + (y - y2)) = y1 - (a + 1) * y2 := by grind
  rwa [q1, q2] at k2
end BAP
/-- the lines up to 2000 -/
def lls2 : List Int → Int → Int → List Int
  | [], _, _ => []
  | q :: r, b, l => if 2000 < q * l + b then [] else if q * l + b ≤ 1 then lls2 r l (q * l + b) else (q * l + b) :: lls2 r l (q * l + b)
theorem lls_gt : ∀ (r : List Int) (b l : Int) (i : Nat) (x : Int), (∀ q ∈ r, 1 ≤ q) → 0 ≤ b → 1 ≤ l → (lls r b l)[i]? = some x → l ≤ x
  | [], _, _, i, x, _, _, _, h => by simp [lls] at h
  | q :: r, b, l, i, x, hq, hb, hl, h => by
    have h1 := hq q (List.mem_cons_self ..)
    have hm : l ≤ q * l := by
      have := Int.mul_le_mul_of_nonneg_right h1 (show 0 ≤ l by omega)
      rwa [Int.one_mul] at this
    rw [lls] at h
    split at h
    · simp at h
    · split at h
      · have := lls_gt r l (q * l + b) i x (fun q hq' => hq q (List.mem_cons_of_mem _ hq')) (by omega) (by omega) h
        omega
      · cases i with
        | zero => simp at h; omega
        | succ i =>
          rw [List.getElem?_cons_succ] at h
          have := lls_gt r l (q * l + b) i x (fun q hq' => hq q (List.mem_cons_of_mem _ hq')) (by omega) (by omega) h
          omega
theorem lls2_iff : ∀ (r : List Int) (b l : Int) (i : Nat) (x : Int), (∀ q ∈ r, 1 ≤ q) → 0 ≤ b → 1 ≤ l → ((lls2 r b l)[i]? = some x ↔ (lls r b l)[i]? = some x ∧ x ≤ 2000)
  | [], _, _, i, x, _, _, _ => by simp [lls, lls2]
  | q :: r, b, l, i, x, hq, hb, hl => by
    have h1 := hq q (List.mem_cons_self ..)
    have hm : l ≤ q * l := by
      have := Int.mul_le_mul_of_nonneg_right h1 (show 0 ≤ l by omega)
      rwa [Int.one_mul] at this
    have ih := fun i x => lls2_iff r l (q * l + b) i x (fun q hq' => hq q (List.mem_cons_of_mem _ hq')) (by omega) (by omega)
    rw [lls, lls2]
    by_cases c1 : 10000 < q * l + b
    · rw [if_pos c1, if_pos (by omega)]
      simp
    rw [if_neg c1]
    by_cases c2 : 2000 < q * l + b
    · rw [if_pos c2, if_neg (by omega)]
      constructor
      · intro h; simp at h
      · intro ⟨h, hx⟩
        exfalso
        cases i with
        | zero => simp at h; omega
        | succ i =>
          rw [List.getElem?_cons_succ] at h
          have := lls_gt r l (q * l + b) i x (fun q hq' => hq q (List.mem_cons_of_mem _ hq')) (by omega) (by omega) h
          omega
    · rw [if_neg c2]
      by_cases c3 : q * l + b ≤ 1
      · rw [if_pos c3, if_pos c3]
        exact ih i x
      · rw [if_neg c3, if_neg c3]
        cases i with
        | zero =>
          simp
          omega
        | succ i =>
          rw [List.getElem?_cons_succ, List.getElem?_cons_succ]
          exact ih i x
-- FILE N2
/-! NEARERS: products of x + y times the root; the quotients as a row of fractions -/
theorem nn_tot {x y d : Int} (hd : 0 < d) : nn x y d ∨ nn (-x) (-y) d := by
  have h1 := sg_range x y d
  rcases Int.lt_or_le (sg x y d) 0 with g | g
  · right
    rw [← sg_nn hd, sg_neg]
    omega
  · exact Or.inl ((sg_nn hd).mp g)
theorem nn_anti {x y d : Int} (hd : 0 < d) (hn : y ≠ 0 → nsq d) (h1 : nn x y d) (h2 : nn (-x) (-y) d) : x = 0 ∧ y = 0 := by
  rw [← sg_nn hd] at h1 h2
  rw [sg_neg] at h2
  have h3 : sg x y d = 0 := by omega
  by_cases hy : y = 0
  · subst hy
    unfold sg at h3
    rw [if_pos rfl] at h3
    refine ⟨?_, rfl⟩
    split at h3
    · omega
    · split at h3 <;> omega
  · exfalso
    have hne := nc_ne (e := x) (b := y) (d := d) hy (hn hy)
    unfold sg at h3
    rw [if_neg hy] at h3
    split at h3
    · split at h3
      · omega
      · split at h3
        · omega
        · split at h3
          · rename_i q
            apply hne
            omega
          · omega
    · split at h3
      · omega
      · split at h3
        · omega
        · split at h3
          · rename_i q
            apply hne
            omega
          · omega
/-- times the root -/
theorem nn_root {x y d : Int} (hd : 0 < d) (h : nn x y d) : nn (y * d) x d := by
  have e1 : y * d * (y * d) = d * (y * y * d) := by grind
  have e2 : x * x * d = d * (x * x) := Int.mul_comm _ _
  unfold nn
  rw [e1, e2]
  rcases h with ⟨hy, hx⟩ | ⟨hy, hx, hxy⟩
  · have hyd : 0 ≤ y * d := Int.mul_nonneg hy (by omega)
    rcases Int.lt_or_le x 0 with g | g
    · have hx : x * x ≤ y * y * d := hx.resolve_left (by omega)
      exact Or.inr ⟨g, hyd, Int.mul_le_mul_of_nonneg_left hx (by omega)⟩
    · exact Or.inl ⟨g, Or.inl hyd⟩
  · exact Or.inl ⟨hx, Or.inr (Int.mul_le_mul_of_nonneg_left hxy (by omega))⟩
/-- times what has no part below 0 -/
theorem nn_pp {x y d f g : Int} (hd : 0 < d) (hf : 0 ≤ f) (hg : 0 ≤ g) (h : nn x y d) : nn (f * x + g * (y * d)) (f * y + g * x) d := by
  have h1 := nn_mul hf h
  have h2 := nn_mul hg (nn_root hd h)
  have := nn_add (by omega) h1 h2
  rw [Int.mul_comm x f, Int.mul_comm y f, Int.mul_comm (y * d) g, Int.mul_comm x g] at this
  exact this
/-- times a number above 0, told by itself and the other that makes a whole number of it -/
theorem nn_pm {x y d f g f' g' N : Int} (hd : 0 < d) (hn : nsq d) (hf' : 0 ≤ f') (hg' : 0 ≤ g') (hN : 0 < N) (e1 : f * f' + g * g' * d = N) (e2 : f * g' + g * f' = 0) (h : nn x y d) : nn (f * x + g * (y * d)) (f * y + g * x) d := by
  rcases nn_tot (x := f * x + g * (y * d)) (y := f * y + g * x) hd with k | k
  · exact k
  · have k2 := nn_pp hd hf' hg' k
    have q1 : f' * -(f * x + g * (y * d)) + g' * (-(f * y + g * x) * d) = N * -x := by
      rw [← e1]
      have : f' * -(f * x + g * (y * d)) + g' * (-(f * y + g * x) * d) = (f * f' + g * g' * d) * -x + -(f * g' + g * f') * (y * d) := by grind
      rw [this, e2]
      grind
    have q2 : f' * -(f * y + g * x) + g' * -(f * x + g * (y * d)) = N * -y := by
      rw [← e1]
      have : f' * -(f * y + g * x) + g' * -(f * x + g * (y * d)) = (f * f' + g * g' * d) * -y + -(f * g' + g * f') * x := by grind
      rw [this, e2]
      grind
    rw [q1, q2, nn_scale hN] at k2
    obtain ⟨z1, z2⟩ := nn_anti hd (fun _ => hn) h k2
    subst z1 z2
    rw [show f * 0 + g * (0 * d) = 0 by grind, show f * 0 + g * 0 = 0 by grind]
    exact Or.inl ⟨Int.le_refl _, Or.inl (Int.le_refl _)⟩
/-- both ways -/
theorem nn_times {x y d f g N : Int} (hd : 0 < d) (hn : nsq d) (hN : 0 < N) (h : (f * f - g * g * d = N ∧ 0 < f) ∨ (g * g * d - f * f = N ∧ 0 < g)) : nn (f * x + g * (y * d)) (f * y + g * x) d ↔ nn x y d := by
  -- the product with (f, g) and with its other half
  have fwd : ∀ (f g : Int), ((f * f - g * g * d = N ∧ 0 < f) ∨ (g * g * d - f * f = N ∧ 0 < g)) → ∀ x y : Int, nn x y d → nn (f * x + g * (y * d)) (f * y + g * x) d := by
    intro f g h x y hxy
    rcases h with ⟨h1, h2⟩ | ⟨h1, h2⟩
    · rcases Int.lt_or_le g 0 with s | s
      · exact nn_pm (f' := f) (g' := -g) hd hn (by omega) (by omega) hN (by grind) (by grind) hxy
      · exact nn_pp hd (by omega) s hxy
    · rcases Int.lt_or_le f 0 with s | s
      · exact nn_pm (f' := -f) (g' := g) hd hn (by omega) (by omega) hN (by grind) (by grind) hxy
      · exact nn_pp hd s (by omega) hxy
  constructor
  · intro k
    rcases h with ⟨h1, h2⟩ | ⟨h1, h2⟩
    · have := fwd f (-g) (Or.inl ⟨by grind, h2⟩) _ _ k
      have q1 : f * (f * x + g * (y * d)) + -g * ((f * y + g * x) * d) = N * x := by rw [← h1]; grind
      have q2 : f * (f * y + g * x) + -g * (f * x + g * (y * d)) = N * y := by rw [← h1]; grind
      rw [q1, q2, nn_scale hN] at this
      exact this
    · have := fwd (-f) g (Or.inr ⟨by grind, h2⟩) _ _ k
      have q1 : -f * (f * x + g * (y * d)) + g * ((f * y + g * x) * d) = N * x := by rw [← h1]; grind
      have q2 : -f * (f * y + g * x) + g * (f * x + g * (y * d)) = N * y := by rw [← h1]; grind
      rw [q1, q2, nn_scale hN] at this
      exact this
  · exact fwd f g h x y
/-- the quotients tell the row of fractions -/
theorem ql_RL {P : Int → Int → Prop} {d : Int} (hd : 0 < d) : ∀ (n : Nat) (a b c x1 y1 x2 y2 : Int), 0 < c → (b ≠ 0 → nsq d) → (∀ x y : Int, nn (x * a - y * c) (x * b) d ↔ P (x * x1 - y * x2) (x * y1 - y * y2)) → ¬ P (-x2) (-y2) → RL P n (ql n a b c d) x1 y1 x2 y2
  | 0, _, _, _, _, _, _, _, _, _, _, _ => Or.inl rfl
  | n + 1, a, b, c, x1, y1, x2, y2, hc, hn, hH, hpos => by
    have hwi : ∀ k : Int, nn (a - k * c) b d ↔ k ≤ whl a b d c := fun k => whl_iff hd (by
      by_cases hb : b = 0
      · exact Or.inl (by omega)
      · exact Or.inr (hn hb)) hc
    have hw : ∀ k : Int, P (x1 - k * x2) (y1 - k * y2) ↔ k ≤ whl a b d c := fun k => by
      have := hH 1 k
      rw [Int.one_mul, Int.one_mul, Int.one_mul, Int.one_mul] at this
      rw [← this, hwi]
    rw [ql]
    have hp1 := (hw (whl a b d c)).mpr (Int.le_refl _)
    have hp2 : ¬ P (x1 - (whl a b d c + 1) * x2) (y1 - (whl a b d c + 1) * y2) := fun q => by
      have := (hw _).mp q
      omega
    have he1 := (hwi (whl a b d c)).mpr (Int.le_refl _)
    have he2 : nn (-(a - whl a b d c * c)) (-b) d ↔ P (-(x1 - whl a b d c * x2)) (-(y1 - whl a b d c * y2)) := by
      have := hH (-1) (-whl a b d c)
      rw [show -1 * a - -whl a b d c * c = -(a - whl a b d c * c) by grind, show -1 * b = -b by omega, show -1 * x1 - -whl a b d c * x2 = -(x1 - whl a b d c * x2) by grind, show -1 * y1 - -whl a b d c * y2 = -(y1 - whl a b d c * y2) by grind] at this
      exact this
    generalize hW : whl a b d c = w at *
    generalize hE : a - w * c = e at *
    by_cases g : e = 0 ∧ b = 0
    · rw [if_pos g]
      refine ⟨hpos, hp1, hp2, ?_⟩
      right
      rw [← he2, g.1, g.2]
      exact Or.inl ⟨by omega, Or.inl (by omega)⟩
    · rw [if_neg g]
      refine ⟨hpos, hp1, hp2, ?_⟩
      have hpos' : ¬ P (-(x1 - w * x2)) (-(y1 - w * y2)) := fun q => by
        have := nn_anti hd hn he1 (he2.mpr q)
        exact g this
      -- what stands at the next pair
      have hH2 : ∀ x y : Int, nn (x * c - y * e) (-(y * b)) d ↔ P (x * x2 - y * (x1 - w * x2)) (x * y2 - y * (y1 - w * y2)) := fun x y => by
        have := hH (-y) (-(x + y * w))
        rw [show -y * a - -(x + y * w) * c = x * c - y * e by rw [← hE]; grind, show -y * b = -(y * b) by grind, show -y * x1 - -(x + y * w) * x2 = x * x2 - y * (x1 - w * x2) by grind, show -y * y1 - -(x + y * w) * y2 = x * y2 - y * (y1 - w * y2) by grind] at this
        exact this
      by_cases hb : b = 0
      · rw [if_pos hb]
        subst hb
        have epos : 0 < e := by
          have : 0 ≤ e := by
            rcases he1 with ⟨-, h | h⟩ | ⟨h, -⟩
            · exact h
            · rw [Int.zero_mul, Int.zero_mul] at h
              have := sq_zero h
              omega
            · omega
          rcases Int.lt_or_le 0 e with q | q
          · exact q
          · exact absurd ⟨by omega, rfl⟩ g
        refine ql_RL hd n c 0 e x2 y2 _ _ epos (fun h => absurd rfl h) (fun x y => ?_) hpos'
        have := hH2 x y
        rw [Int.mul_zero, show (-0 : Int) = 0 from rfl] at this
        rw [Int.mul_zero]
        exact this
      · rw [if_neg hb]
        have hns := hn hb
        have hne := nc_ne (e := e) (b := b) (d := d) hb hns
        by_cases hN : 0 < e * e - b * b * d
        · rw [if_pos hN]
          have e0 : 0 < e := by
            rcases he1 with ⟨h1, h | h⟩ | ⟨h1, h, -⟩
            · rcases Int.lt_or_le 0 e with q | q
              · exact q
              · have : e = 0 := by omega
                rw [this] at hN
                have := Int.mul_nonneg (sq_nn b) (show 0 ≤ d by omega)
                omega
            · omega
            · rcases Int.lt_or_le 0 e with q | q
              · exact q
              · have : e = 0 := by omega
                rw [this] at hN
                have := Int.mul_nonneg (sq_nn b) (show 0 ≤ d by omega)
                omega
          refine ql_RL hd n _ _ _ x2 y2 _ _ hN (fun _ => hns) (fun x y => ?_) hpos'
          rw [← hH2 x y]
          have := nn_times (x := x * c - y * e) (y := -(y * b)) (f := e) (g := -b) (N := e * e - b * b * d) hd hns hN (Or.inl ⟨by grind, e0⟩)
          rw [← this]
          have q1 : e * (x * c - y * e) + -b * (-(y * b) * d) = x * (c * e) - y * (e * e - b * b * d) := by grind
          have q2 : e * -(y * b) + -b * (x * c - y * e) = x * -(c * b) := by grind
          rw [q1, q2]
        · rw [if_neg hN]
          have hN2 : 0 < -(e * e - b * b * d) := by omega
          have b0 : 0 < b := by
            rcases Int.lt_or_le 0 b with q | q
            · exact q
            · exfalso
              rcases he1 with ⟨h1, -⟩ | ⟨h1, h2, h3⟩
              · omega
              · omega
          refine ql_RL hd n _ _ _ x2 y2 _ _ hN2 (fun _ => hns) (fun x y => ?_) hpos'
          rw [← hH2 x y]
          have := nn_times (x := x * c - y * e) (y := -(y * b)) (f := -e) (g := b) (N := -(e * e - b * b * d)) hd hns hN2 (Or.inr ⟨by grind, b0⟩)
          rw [← this]
          have q1 : -e * (x * c - y * e) + b * (-(y * b) * d) = x * -(c * e) - y * -(e * e - b * b * d) := by grind
          have q2 : -e * -(y * b) + b * (x * c - y * e) = x * (c * b) := by grind
          rw [q1, q2]
-- FILE N3
/-! NEARERS: the model -/
/-- x times the slope is at least y -/
def PS (l : SL4) (x y : Int) : Prop := nn (l.1 * x - y * l.2.2.1) (l.2.1 * x) l.2.2.2
theorem PS_ord {l : SL4} (hS : SL l.1 l.2.1 l.2.2.1 l.2.2.2) : ORD (PS l) := by
  have hd := hS.dpos
  have hc := hS.cpos
  refine ⟨fun x y u v h1 h2 => ?_, fun x y => ?_, fun y => ?_⟩
  · have := nn_add (by omega) h1 h2
    unfold PS
    rw [show l.1 * (x + u) - (y + v) * l.2.2.1 = l.1 * x - y * l.2.2.1 + (l.1 * u - v * l.2.2.1) by grind, show l.2.1 * (x + u) = l.2.1 * x + l.2.1 * u by grind]
    exact this
  · unfold PS
    rw [show l.1 * -x - -y * l.2.2.1 = -(l.1 * x - y * l.2.2.1) by grind, show l.2.1 * -x = -(l.2.1 * x) by grind]
    exact nn_tot hd
  · unfold PS
    rw [Int.mul_zero, Int.mul_zero, Int.zero_sub]
    constructor
    · intro h
      have h2 : 0 ≤ -(y * l.2.2.1) := by
        rcases h with ⟨-, h | h⟩ | ⟨h, -⟩
        · exact h
        · rw [Int.zero_mul, Int.zero_mul] at h
          have := sq_zero h
          omega
        · omega
      rcases Int.lt_or_le 0 y with g | g
      · have := Int.mul_pos g hc
        omega
      · exact g
    · intro h
      have := Int.mul_le_mul_of_nonneg_right h (show 0 ≤ l.2.2.1 by omega)
      rw [Int.zero_mul] at this
      exact Or.inl ⟨Int.le_refl _, Or.inl (by omega)⟩
theorem PS_W {l : SL4} (hS : SL l.1 l.2.1 l.2.2.1 l.2.2.2) {n : Nat} (y : Int) : PS l n y ↔ y ≤ WN l n := whl_iff hS.dpos (hS.hn (N := (n : Int))) hS.cpos
theorem PS_sg {l : SL4} (hS : SL l.1 l.2.1 l.2.2.1 l.2.2.2) (x y : Int) : (0 ≤ sg (l.1 * x - y * l.2.2.1) (l.2.1 * x) l.2.2.2 ↔ PS l x y) ∧ (sg (l.1 * x - y * l.2.2.1) (l.2.1 * x) l.2.2.2 ≤ 0 ↔ PS l (-x) (-y)) := by
  refine ⟨sg_nn hS.dpos, ?_⟩
  have : PS l (-x) (-y) ↔ 0 ≤ sg (-(l.1 * x - y * l.2.2.1)) (-(l.2.1 * x)) l.2.2.2 := by
    rw [sg_nn hS.dpos]
    unfold PS
    rw [show l.1 * -x - -y * l.2.2.1 = -(l.1 * x - y * l.2.2.1) by grind, show l.2.1 * -x = -(l.2.1 * x) by grind]
  rw [this, sg_neg]
  omega
theorem dist_up {l : SL4} (hS : SL l.1 l.2.1 l.2.2.1 l.2.2.2) {n : Nat} (h2 : ¬ PS l (-(2 * (n : Int))) (-(2 * WN l n + 1))) : DIST (PS l) n (-(n : Int)) (-(WN l n + 1)) := by
  have hO := PS_ord hS
  have hW := fun y => PS_W hS (n := n) y
  generalize WN l n = W at *
  have hp : PS l (-(n : Int)) (-(W + 1)) := by
    rcases hO.2.1 (n : Int) (W + 1) with g | g
    · have := (hW _).mp g
      omega
    · exact g
  have h2p : PS l (2 * (n : Int)) (2 * W + 1) := by
    rcases hO.2.1 (2 * (n : Int)) (2 * W + 1) with g | g
    · exact g
    · exact absurd g h2
  refine ⟨hp, ⟨-(n : Int), -(W + 1), Or.inr rfl, hp, ?_, ?_⟩, ?_⟩
  · rw [Int.sub_self, Int.sub_self]; exact hO.zero
  · rw [Int.sub_self, Int.sub_self]; exact hO.zero
  · intro x y hx hxy
    rcases hx with rfl | rfl
    · have hy := (hW y).mp hxy
      have := hO.1 _ _ _ _ h2p ((hO.2.2 (y - W)).mpr (by omega))
      rw [show 2 * (n : Int) + 0 = (n : Int) - -(n : Int) by omega, show 2 * W + 1 + (y - W) = y - -(W + 1) by omega] at this
      exact this
    · rw [Int.sub_self, hO.2.2]
      rcases Int.lt_or_le (-(W + 1)) y with g | g
      · exfalso
        apply h2
        have k1 := hO.mul hxy (a := 2) (by omega)
        have := hO.1 _ _ _ _ k1 ((hO.2.2 (-(2 * W + 1) - 2 * y)).mpr (by omega))
        rw [show 2 * -(n : Int) + 0 = -(2 * (n : Int)) by omega, show 2 * y + (-(2 * W + 1) - 2 * y) = -(2 * W + 1) by omega] at this
        exact this
      · omega
theorem dist_dn {l : SL4} (hS : SL l.1 l.2.1 l.2.2.1 l.2.2.2) {n : Nat} (h2 : PS l (-(2 * (n : Int))) (-(2 * WN l n + 1))) (h1 : ¬ PS l (-(n : Int)) (-WN l n)) : DIST (PS l) n n (WN l n) := by
  have hO := PS_ord hS
  have hW := fun y => PS_W hS (n := n) y
  generalize WN l n = W at *
  have hp : PS l (n : Int) W := (hW W).mpr (Int.le_refl _)
  refine ⟨hp, ⟨(n : Int), W, Or.inl rfl, hp, ?_, ?_⟩, ?_⟩
  · rw [Int.sub_self, Int.sub_self]; exact hO.zero
  · rw [Int.sub_self, Int.sub_self]; exact hO.zero
  · intro x y hx hxy
    rcases hx with rfl | rfl
    · have hy := (hW y).mp hxy
      rw [Int.sub_self, hO.2.2]
      omega
    · have hy : y ≤ -(W + 1) := by
        rcases Int.lt_or_le (-(W + 1)) y with g | g
        · exfalso
          apply h1
          have := hO.1 _ _ _ _ hxy ((hO.2.2 (-W - y)).mpr (by omega))
          rw [Int.add_zero, show y + (-W - y) = -W by omega] at this
          exact this
        · exact g
      have := hO.1 _ _ _ _ h2 ((hO.2.2 (W + 1 + y)).mpr (by omega))
      rw [show -(2 * (n : Int)) + 0 = -(n : Int) - (n : Int) by omega, show -(2 * W + 1) + (W + 1 + y) = y - W by omega] at this
      exact this
theorem dist_0 {l : SL4} (hS : SL l.1 l.2.1 l.2.2.1 l.2.2.2) {n : Nat} (h1 : PS l (-(n : Int)) (-WN l n)) : DIST (PS l) n 0 0 := by
  have hO := PS_ord hS
  have hp : PS l (n : Int) (WN l n) := (PS_W hS _).mpr (Int.le_refl _)
  refine ⟨hO.zero, ⟨(n : Int), WN l n, Or.inl rfl, hp, ?_, ?_⟩, ?_⟩
  · rw [Int.zero_sub, Int.zero_sub]; exact h1
  · rw [Int.sub_zero, Int.sub_zero]; exact hp
  · intro x y _ hxy
    rw [Int.sub_zero, Int.sub_zero]
    exact hxy
section NRM
variable {sc : en_S} {d : Nat} {XI : Nat → Int32} {XA : Nat → Nat → Int32} {XP : Nat → Nat → Option Nat} {XC : Value} {ML : Nat → Nat → Int64} {D : en_H} {k : Nat} {l : SL4}
theorem m_near4 {MI : Nat → Int32} {MA : Nat → Nat → Int32} (hk : k < 8) (hM : MS MA k l.1 l.2.1 l.2.2.1 l.2.2.2) (hS : SL l.1 l.2.1 l.2.2.1 l.2.2.2) {n : Nat} (hn1 : 1 ≤ n) (hn2 : n ≤ 2000) {n0 k0 e0 : Int} (b1 : 0 ≤ n0) (b2 : n0 ≤ 2000) (b3 : 0 ≤ k0) (b4 : k0 ≤ 40001) (b5 : e0 = -1 ∨ e0 = 0 ∨ e0 = 1) {r : Nat} (h6 : MI 6 = iO (r : Int)) (hr : r ≤ 2000) {kk e : Int} (c1 : 0 ≤ kk) (c2 : kk ≤ 40001) (c3 : e = -1 ∨ e = 0 ∨ e = 1) (hside : f_X12_side sc (d + 3) 26 (iO (k : Int)) (lO (n : Int)) (lO kk) 1 (hp XI XA XP XC MI MA ML D) = some (some (.int (iO e)), hp XI XA XP XC MI MA ML D)) :
    ((n = 1 ∨ ¬ PS l (e * (n : Int) - e0 * n0) (e * kk - e0 * k0)) → b_X12_nearersOf_2 sc (d + 3) 26 (iO (k : Int)) (lO n0) (lO k0) (iO e0) (iO (n : Int)) (lO kk) (hp XI XA XP XC MI MA ML D) = b_X12_nearersOf_1 sc (d + 3) 26 (iO (k : Int)) (lO (n : Int)) (lO kk) (iO e) (iO ((n : Int) + 1)) (hp XI XA XP XC (va_up MI 6 (iO ((r : Int) + 1))) (va_up MA 12 (upd (MA 12) r (iO (n : Int)))) ML D))
    ∧ ((n ≠ 1 ∧ PS l (e * (n : Int) - e0 * n0) (e * kk - e0 * k0)) → b_X12_nearersOf_2 sc (d + 3) 26 (iO (k : Int)) (lO n0) (lO k0) (iO e0) (iO (n : Int)) (lO kk) (hp XI XA XP XC MI MA ML D) = b_X12_nearersOf_1 sc (d + 3) 26 (iO (k : Int)) (lO n0) (lO k0) (iO e0) (iO ((n : Int) + 1)) (hp XI XA XP XC MI MA ML D)) := by
  obtain ⟨m0, m1, m2, m3⟩ := hM
  obtain ⟨a1, a2, y1, y2, z1, z2, d1, d2, -⟩ := id hS
  have hsg := PS_sg hS (e * (n : Int) - e0 * n0) (e * kk - e0 * k0)
  have q1 : -2000 ≤ e * (n : Int) ∧ e * (n : Int) ≤ 2000 := by rcases c3 with h | h | h <;> rw [h] <;> omega
  have q2 : -2000 ≤ e0 * n0 ∧ e0 * n0 ≤ 2000 := by rcases b5 with h | h | h <;> rw [h] <;> omega
  have q3 : -40001 ≤ e * kk ∧ e * kk ≤ 40001 := by rcases c3 with h | h | h <;> rw [h] <;> omega
  have q4 : -40001 ≤ e0 * k0 ∧ e0 * k0 ≤ 40001 := by rcases b5 with h | h | h <;> rw [h] <;> omega
  generalize hX : e * (n : Int) - e0 * n0 = X at *
  generalize hY : e * kk - e0 * k0 = Y at *
  have t1 := mul_bd (x := X) (y := l.1 + 1000) (a := 4000) (b := 2000) (by omega) (by omega) (by omega) (by omega)
  have t2 := mul_bd (x := X) (y := l.2.1 + 20) (a := 4000) (b := 40) (by omega) (by omega) (by omega) (by omega)
  have t3 := mul_bd (x := Y) (y := l.2.2.1) (a := 80002) (b := 100) (by omega) (by omega) (by omega) (by omega)
  rw [Int.mul_add] at t1 t2
  have g1 : l.1 * X = X * l.1 := Int.mul_comm _ _
  have g2 : l.2.1 * X = X * l.2.1 := Int.mul_comm _ _
  have s1 := sq_bd (x := l.1 * X - Y * l.2.2.1) (K := 100000000) (by omega) (by omega)
  have s2 := sq_bd (x := l.2.1 * X) (K := 1000000) (by omega) (by omega)
  have s3 := mul_bd (x := l.2.1 * X * (l.2.1 * X)) (y := l.2.2.2) (a := 1000000000000) (b := 50) (by omega) (by omega) (by omega) d2
  have hsn := e_sign (sc := sc) (n := d + 2) (x := l.1 * X - Y * l.2.2.1) (y := l.2.1 * X) (d := l.2.2.2) (z := hp XI XA XP XC MI MA ML D) (by unfold i64; omega) (by unfold i64; omega) (by unfold i64; omega) (by unfold i64; omega)
  have hrg := sg_range (l.1 * X - Y * l.2.2.1) (l.2.1 * X) l.2.2.2
  generalize sg (l.1 * X - Y * l.2.2.1) (l.2.1 * X) l.2.2.2 = sv at *
  clear t1 t2 t3 s1 s2 s3 g1 g2
  have e1 : (n : Int) + 1 = (n : Int) + 1 := rfl
  have rec7 : b_X12_nearersOf_7 sc (d + 3) 26 (iO (k : Int)) (lO n0) (lO k0) (iO e0) (iO (n : Int)) (lO kk) (iO e) (iO 1) (hp XI XA XP XC MI MA ML D) = b_X12_nearersOf_1 sc (d + 3) 26 (iO (k : Int)) (lO (n : Int)) (lO kk) (iO e) (iO ((n : Int) + 1)) (hp XI XA XP XC (va_up MI 6 (iO ((r : Int) + 1))) (va_up MA 12 (upd (MA 12) r (iO (n : Int)))) ML D) := by
    rw [eb_X12_nearersOf_7]
    clear hsg hside hsn
    simp (disch := (first | assumption | (unfold i32; omega) | (unfold i64; omega) | omega)) only [↓reduceIte, ki_0, ki_1, ki_2, ki_3, ki_4, ki_5, ki_6, ki_7, ki_8, ki_9, ki_10, ki_11, ki_12, ki_13, ki_14, ki_15, ki_20, ki_21, ki_30, ki_31, ki_40, ki_41, ki_50, ki_51, ki_60, ki_63, ki_64, ki_65, ki_100, ki_158, ki_160, ki_200, ki_212, ki_1000, ki_2000, ki_2001, ki_5000, ki_10000, ki_10001, ki_100000, ki_200000, ki_1000000, ki_2000000, ki_3000000, iO_neg, iO_add, iO_sub, iO_mul, kn_4, kn_8, kn_10, kn_20, kn_24, kn_40, kn_41, kn_50, kn_60, kn_158, kn_160, kn_200, kn_212, kn_2001, tn_lt, fn_lt, tn_le, fn_le, tn_eq, fn_eq, x_lt, x_le, x_eq, x_ix, x_nat, t_lt, f_lt, t_le, f_le, t_eq, f_eq, eq_self, and_self, true_and, and_true, false_and, and_false, if_true, if_false, Int.toNat_natCast, bI_s, bL_s, bA_s, bA_n, bV_s, mq_s, mq_n, en_le, bl_0, bl_1, u_eq, u_ne, w_eq, w_ne, v_eq, v_ne, ↓hp_cc_26, ↓hp_g_26_0, ↓hp_p_26_0, ↓hp_g_26_1, ↓hp_p_26_1, ↓hp_g_26_2, ↓hp_p_26_2, ↓hp_g_26_3, ↓hp_g_26_4, ↓hp_g_26_5, ↓hp_g_26_6, ↓hp_g_26_7, ↓hp_g_26_8, ↓hp_g_26_9, ↓hp_g_26_10, ↓hp_g_26_11, ↓hp_g_26_12, ↓hp_g_26_13, ↓hp_g_26_14, ↓hp_g_26_15, ↓hp_p_26_15, ↓hp_g_26_16, ↓hp_g_26_17, ↓hp_g_26_18, ↓hp_p_26_18, ↓hp_g_26_19, ↓hp_p_26_19, ↓hp_g_26_20, ↓hp_g_26_21, ↓hp_p_26_21, ↓hp_g_26_22, ↓hp_g_26_23, ↓hp_g_26_24, ↓hp_g_26_25, ↓hp_g_26_26, ↓hp_g_26_27, ↓hp_g_26_28, ↓hp_g_26_29, ↓hp_g_26_30, ↓hp_p_26_30, ↓hp_g_26_31, ↓hp_g_26_32, ↓hp_p_26_32, ↓hp_a_27, ↓hp_s_27, ↓hp_l_27, ↓hp_a_28, ↓hp_s_28, ↓hp_l_28, ↓hp_a_29, ↓hp_s_29, ↓hp_l_29, ↓hp_a_30, ↓hp_s_30, ↓hp_l_30, ↓hp_a_31, ↓hp_s_31, ↓hp_l_31, ↓hp_a_32, ↓hp_s_32, ↓hp_l_32, ↓hp_a_33, ↓hp_s_33, ↓hp_l_33, ↓hp_a_34, ↓hp_s_34, ↓hp_l_34, ↓hp_a_35, ↓hp_s_35, ↓hp_l_35, ↓hp_a_36, ↓hp_s_36, ↓hp_l_36, ↓hp_a_37, ↓hp_s_37, ↓hp_l_37, ↓hp_a_38, ↓hp_s_38, ↓hp_l_38, ↓hp_a_39, ↓hp_s_39, ↓hp_a_40, ↓hp_s_40, ↓hp_a_41, ↓hp_s_41, ↓hp_l_41, ↓hp_a_42, ↓hp_s_42, ↓hp_l_42, ↓hp_a_43, ↓hp_s_43, ↓hp_l_43, ↓hp_a_44, ↓hp_s_44, ↓hp_l_44, ↓hp_a_45, ↓hp_s_45, ↓hp_l_45, ↓hp_a_46, ↓hp_s_46, ↓hp_l_46, ↓hp_a_47, ↓hp_s_47, ↓hp_l_47, ↓hp_a_48, ↓hp_s_48, ↓hp_l_48, ↓hp_a_49, ↓hp_s_49, ↓hp_l_49, ↓hp_a_50, ↓hp_s_50, ↓hp_l_50, h6, iO_wide]
  have skp7 : b_X12_nearersOf_7 sc (d + 3) 26 (iO (k : Int)) (lO n0) (lO k0) (iO e0) (iO (n : Int)) (lO kk) (iO e) (iO 0) (hp XI XA XP XC MI MA ML D) = b_X12_nearersOf_1 sc (d + 3) 26 (iO (k : Int)) (lO n0) (lO k0) (iO e0) (iO ((n : Int) + 1)) (hp XI XA XP XC MI MA ML D) := by
    rw [eb_X12_nearersOf_7]
    clear hsg hside hsn
    simp (disch := (first | assumption | (unfold i32; omega) | (unfold i64; omega) | omega)) only [↓reduceIte, ki_0, ki_1, ki_2, ki_3, ki_4, ki_5, ki_6, ki_7, ki_8, ki_9, ki_10, ki_11, ki_12, ki_13, ki_14, ki_15, ki_20, ki_21, ki_30, ki_31, ki_40, ki_41, ki_50, ki_51, ki_60, ki_63, ki_64, ki_65, ki_100, ki_158, ki_160, ki_200, ki_212, ki_1000, ki_2000, ki_2001, ki_5000, ki_10000, ki_10001, ki_100000, ki_200000, ki_1000000, ki_2000000, ki_3000000, iO_neg, iO_add, iO_sub, iO_mul, kn_4, kn_8, kn_10, kn_20, kn_24, kn_40, kn_41, kn_50, kn_60, kn_158, kn_160, kn_200, kn_212, kn_2001, tn_lt, fn_lt, tn_le, fn_le, tn_eq, fn_eq, x_lt, x_le, x_eq, x_ix, x_nat, t_lt, f_lt, t_le, f_le, t_eq, f_eq, eq_self, and_self, true_and, and_true, false_and, and_false, if_true, if_false, Int.toNat_natCast, bI_s, bL_s, bA_s, bA_n, bV_s, mq_s, mq_n, en_le, bl_0, bl_1, u_eq, u_ne, w_eq, w_ne, v_eq, v_ne, ↓hp_cc_26, ↓hp_g_26_0, ↓hp_p_26_0, ↓hp_g_26_1, ↓hp_p_26_1, ↓hp_g_26_2, ↓hp_p_26_2, ↓hp_g_26_3, ↓hp_g_26_4, ↓hp_g_26_5, ↓hp_g_26_6, ↓hp_g_26_7, ↓hp_g_26_8, ↓hp_g_26_9, ↓hp_g_26_10, ↓hp_g_26_11, ↓hp_g_26_12, ↓hp_g_26_13, ↓hp_g_26_14, ↓hp_g_26_15, ↓hp_p_26_15, ↓hp_g_26_16, ↓hp_g_26_17, ↓hp_g_26_18, ↓hp_p_26_18, ↓hp_g_26_19, ↓hp_p_26_19, ↓hp_g_26_20, ↓hp_g_26_21, ↓hp_p_26_21, ↓hp_g_26_22, ↓hp_g_26_23, ↓hp_g_26_24, ↓hp_g_26_25, ↓hp_g_26_26, ↓hp_g_26_27, ↓hp_g_26_28, ↓hp_g_26_29, ↓hp_g_26_30, ↓hp_p_26_30, ↓hp_g_26_31, ↓hp_g_26_32, ↓hp_p_26_32, ↓hp_a_27, ↓hp_s_27, ↓hp_l_27, ↓hp_a_28, ↓hp_s_28, ↓hp_l_28, ↓hp_a_29, ↓hp_s_29, ↓hp_l_29, ↓hp_a_30, ↓hp_s_30, ↓hp_l_30, ↓hp_a_31, ↓hp_s_31, ↓hp_l_31, ↓hp_a_32, ↓hp_s_32, ↓hp_l_32, ↓hp_a_33, ↓hp_s_33, ↓hp_l_33, ↓hp_a_34, ↓hp_s_34, ↓hp_l_34, ↓hp_a_35, ↓hp_s_35, ↓hp_l_35, ↓hp_a_36, ↓hp_s_36, ↓hp_l_36, ↓hp_a_37, ↓hp_s_37, ↓hp_l_37, ↓hp_a_38, ↓hp_s_38, ↓hp_l_38, ↓hp_a_39, ↓hp_s_39, ↓hp_a_40, ↓hp_s_40, ↓hp_a_41, ↓hp_s_41, ↓hp_l_41, ↓hp_a_42, ↓hp_s_42, ↓hp_l_42, ↓hp_a_43, ↓hp_s_43, ↓hp_l_43, ↓hp_a_44, ↓hp_s_44, ↓hp_l_44, ↓hp_a_45, ↓hp_s_45, ↓hp_l_45, ↓hp_a_46, ↓hp_s_46, ↓hp_l_46, ↓hp_a_47, ↓hp_s_47, ↓hp_l_47, ↓hp_a_48, ↓hp_s_48, ↓hp_l_48, ↓hp_a_49, ↓hp_s_49, ↓hp_l_49, ↓hp_a_50, ↓hp_s_50, ↓hp_l_50]
  have be : i32 e := by rcases c3 with h | h | h <;> rw [h] <;> (unfold i32; omega)
  have be0 : i32 e0 := by rcases b5 with h | h | h <;> rw [h] <;> (unfold i32; omega)
  have hi32 : i32 (e * (n : Int)) := by unfold i32; omega
  constructor
  · intro h
    rw [← rec7, eb_X12_nearersOf_2, iO_wide (by unfold i32; omega)]
    by_cases g : n = 1
    · subst g
      clear hsg hsn rec7 skp7
      have hside : f_X12_side sc (d + 3) 26 (iO (k : Int)) (lO ((1 : Nat) : Int)) (lO kk) 1 (hp XI XA XP XC MI MA ML D) = _ := hside
      have e1 : ((1 : Nat) : Int) = 1 := rfl
      rw [hp_cc_26, if_pos rfl, hside, bI_s, if_pos (show iO ((1 : Nat) : Int) = 1 from rfl), eb_X12_nearersOf_4, if_neg (show ¬ (1 : Int32) = 0 by decide)]
      rfl
    · have hn : ¬ PS l X Y := h.resolve_left g
      have hsv : sv < 0 := by
        rcases Int.lt_or_le sv 0 with q | q
        · exact q
        · exact absurd (hsg.1.mp q) hn
      have hi : i32 sv := by unfold i32; omega
      have en : (n : Int) ≠ 1 := by omega
      clear hsg rec7 skp7 hrg h hn g
      simp (disch := (first | assumption | (unfold i32; omega) | (unfold i64; omega) | omega)) only [↓reduceIte, ki_0, ki_1, ki_2, ki_3, ki_4, ki_5, ki_6, ki_7, ki_8, ki_9, ki_10, ki_11, ki_12, ki_13, ki_14, ki_15, ki_20, ki_21, ki_30, ki_31, ki_40, ki_41, ki_50, ki_51, ki_60, ki_63, ki_64, ki_65, ki_100, ki_158, ki_160, ki_200, ki_212, ki_1000, ki_2000, ki_2001, ki_5000, ki_10000, ki_10001, ki_100000, ki_200000, ki_1000000, ki_2000000, ki_3000000, iO_neg, iO_add, iO_sub, iO_mul, kn_4, kn_8, kn_10, kn_20, kn_24, kn_40, kn_41, kn_50, kn_60, kn_158, kn_160, kn_200, kn_212, kn_2001, tn_lt, fn_lt, tn_le, fn_le, tn_eq, fn_eq, x_lt, x_le, x_eq, x_ix, x_nat, t_lt, f_lt, t_le, f_le, t_eq, f_eq, eq_self, and_self, true_and, and_true, false_and, and_false, if_true, if_false, Int.toNat_natCast, bI_s, bL_s, bA_s, bA_n, bV_s, mq_s, mq_n, en_le, bl_0, bl_1, u_eq, u_ne, w_eq, w_ne, v_eq, v_ne, ↓hp_cc_26, ↓hp_g_26_0, ↓hp_p_26_0, ↓hp_g_26_1, ↓hp_p_26_1, ↓hp_g_26_2, ↓hp_p_26_2, ↓hp_g_26_3, ↓hp_g_26_4, ↓hp_g_26_5, ↓hp_g_26_6, ↓hp_g_26_7, ↓hp_g_26_8, ↓hp_g_26_9, ↓hp_g_26_10, ↓hp_g_26_11, ↓hp_g_26_12, ↓hp_g_26_13, ↓hp_g_26_14, ↓hp_g_26_15, ↓hp_p_26_15, ↓hp_g_26_16, ↓hp_g_26_17, ↓hp_g_26_18, ↓hp_p_26_18, ↓hp_g_26_19, ↓hp_p_26_19, ↓hp_g_26_20, ↓hp_g_26_21, ↓hp_p_26_21, ↓hp_g_26_22, ↓hp_g_26_23, ↓hp_g_26_24, ↓hp_g_26_25, ↓hp_g_26_26, ↓hp_g_26_27, ↓hp_g_26_28, ↓hp_g_26_29, ↓hp_g_26_30, ↓hp_p_26_30, ↓hp_g_26_31, ↓hp_g_26_32, ↓hp_p_26_32, ↓hp_a_27, ↓hp_s_27, ↓hp_l_27, ↓hp_a_28, ↓hp_s_28, ↓hp_l_28, ↓hp_a_29, ↓hp_s_29, ↓hp_l_29, ↓hp_a_30, ↓hp_s_30, ↓hp_l_30, ↓hp_a_31, ↓hp_s_31, ↓hp_l_31, ↓hp_a_32, ↓hp_s_32, ↓hp_l_32, ↓hp_a_33, ↓hp_s_33, ↓hp_l_33, ↓hp_a_34, ↓hp_s_34, ↓hp_l_34, ↓hp_a_35, ↓hp_s_35, ↓hp_l_35, ↓hp_a_36, ↓hp_s_36, ↓hp_l_36, ↓hp_a_37, ↓hp_s_37, ↓hp_l_37, ↓hp_a_38, ↓hp_s_38, ↓hp_l_38, ↓hp_a_39, ↓hp_s_39, ↓hp_a_40, ↓hp_s_40, ↓hp_a_41, ↓hp_s_41, ↓hp_l_41, ↓hp_a_42, ↓hp_s_42, ↓hp_l_42, ↓hp_a_43, ↓hp_s_43, ↓hp_l_43, ↓hp_a_44, ↓hp_s_44, ↓hp_l_44, ↓hp_a_45, ↓hp_s_45, ↓hp_l_45, ↓hp_a_46, ↓hp_s_46, ↓hp_l_46, ↓hp_a_47, ↓hp_s_47, ↓hp_l_47, ↓hp_a_48, ↓hp_s_48, ↓hp_l_48, ↓hp_a_49, ↓hp_s_49, ↓hp_l_49, ↓hp_a_50, ↓hp_s_50, ↓hp_l_50, hside, eb_X12_nearersOf_4, iO_wide, lO_mul, lO_sub, hX, hY, m0, m1, m2, m3, hsn]
  · intro ⟨g, hp0⟩
    have hsv : 0 ≤ sv := hsg.1.mpr hp0
    have hi : i32 sv := by unfold i32; omega
    have en : (n : Int) ≠ 1 := by omega
    rw [← skp7, eb_X12_nearersOf_2, iO_wide (by unfold i32; omega)]
    clear hsg rec7 skp7 hrg hp0 g
    simp (disch := (first | assumption | (unfold i32; omega) | (unfold i64; omega) | omega)) only [↓reduceIte, ki_0, ki_1, ki_2, ki_3, ki_4, ki_5, ki_6, ki_7, ki_8, ki_9, ki_10, ki_11, ki_12, ki_13, ki_14, ki_15, ki_20, ki_21, ki_30, ki_31, ki_40, ki_41, ki_50, ki_51, ki_60, ki_63, ki_64, ki_65, ki_100, ki_158, ki_160, ki_200, ki_212, ki_1000, ki_2000, ki_2001, ki_5000, ki_10000, ki_10001, ki_100000, ki_200000, ki_1000000, ki_2000000, ki_3000000, iO_neg, iO_add, iO_sub, iO_mul, kn_4, kn_8, kn_10, kn_20, kn_24, kn_40, kn_41, kn_50, kn_60, kn_158, kn_160, kn_200, kn_212, kn_2001, tn_lt, fn_lt, tn_le, fn_le, tn_eq, fn_eq, x_lt, x_le, x_eq, x_ix, x_nat, t_lt, f_lt, t_le, f_le, t_eq, f_eq, eq_self, and_self, true_and, and_true, false_and, and_false, if_true, if_false, Int.toNat_natCast, bI_s, bL_s, bA_s, bA_n, bV_s, mq_s, mq_n, en_le, bl_0, bl_1, u_eq, u_ne, w_eq, w_ne, v_eq, v_ne, ↓hp_cc_26, ↓hp_g_26_0, ↓hp_p_26_0, ↓hp_g_26_1, ↓hp_p_26_1, ↓hp_g_26_2, ↓hp_p_26_2, ↓hp_g_26_3, ↓hp_g_26_4, ↓hp_g_26_5, ↓hp_g_26_6, ↓hp_g_26_7, ↓hp_g_26_8, ↓hp_g_26_9, ↓hp_g_26_10, ↓hp_g_26_11, ↓hp_g_26_12, ↓hp_g_26_13, ↓hp_g_26_14, ↓hp_g_26_15, ↓hp_p_26_15, ↓hp_g_26_16, ↓hp_g_26_17, ↓hp_g_26_18, ↓hp_p_26_18, ↓hp_g_26_19, ↓hp_p_26_19, ↓hp_g_26_20, ↓hp_g_26_21, ↓hp_p_26_21, ↓hp_g_26_22, ↓hp_g_26_23, ↓hp_g_26_24, ↓hp_g_26_25, ↓hp_g_26_26, ↓hp_g_26_27, ↓hp_g_26_28, ↓hp_g_26_29, ↓hp_g_26_30, ↓hp_p_26_30, ↓hp_g_26_31, ↓hp_g_26_32, ↓hp_p_26_32, ↓hp_a_27, ↓hp_s_27, ↓hp_l_27, ↓hp_a_28, ↓hp_s_28, ↓hp_l_28, ↓hp_a_29, ↓hp_s_29, ↓hp_l_29, ↓hp_a_30, ↓hp_s_30, ↓hp_l_30, ↓hp_a_31, ↓hp_s_31, ↓hp_l_31, ↓hp_a_32, ↓hp_s_32, ↓hp_l_32, ↓hp_a_33, ↓hp_s_33, ↓hp_l_33, ↓hp_a_34, ↓hp_s_34, ↓hp_l_34, ↓hp_a_35, ↓hp_s_35, ↓hp_l_35, ↓hp_a_36, ↓hp_s_36, ↓hp_l_36, ↓hp_a_37, ↓hp_s_37, ↓hp_l_37, ↓hp_a_38, ↓hp_s_38, ↓hp_l_38, ↓hp_a_39, ↓hp_s_39, ↓hp_a_40, ↓hp_s_40, ↓hp_a_41, ↓hp_s_41, ↓hp_l_41, ↓hp_a_42, ↓hp_s_42, ↓hp_l_42, ↓hp_a_43, ↓hp_s_43, ↓hp_l_43, ↓hp_a_44, ↓hp_s_44, ↓hp_l_44, ↓hp_a_45, ↓hp_s_45, ↓hp_l_45, ↓hp_a_46, ↓hp_s_46, ↓hp_l_46, ↓hp_a_47, ↓hp_s_47, ↓hp_l_47, ↓hp_a_48, ↓hp_s_48, ↓hp_l_48, ↓hp_a_49, ↓hp_s_49, ↓hp_l_49, ↓hp_a_50, ↓hp_s_50, ↓hp_l_50, hside, eb_X12_nearersOf_4, iO_wide, lO_mul, lO_sub, hX, hY, m0, m1, m2, m3, hsn]
theorem m_near_step {MI : Nat → Int32} {MA : Nat → Nat → Int32} (hk : k < 8) (hM : MS MA k l.1 l.2.1 l.2.2.1 l.2.2.2) (hS : SL l.1 l.2.1 l.2.2.1 l.2.2.2) {n : Nat} (hn1 : 1 ≤ n) (hn2 : n ≤ 2000) {n0 k0 e0 : Int} (b1 : 0 ≤ n0) (b2 : n0 ≤ 2000) (b3 : 0 ≤ k0) (b4 : k0 ≤ 40001) (b5 : e0 = -1 ∨ e0 = 0 ∨ e0 = 1) {r : Nat} (h6 : MI 6 = iO (r : Int)) (hr : r ≤ 2000) :
    ∃ kk e : Int, DIST (PS l) n (e * (n : Int)) (e * kk) ∧ 0 ≤ kk ∧ kk ≤ 40001 ∧ (e = -1 ∨ e = 0 ∨ e = 1) ∧ ((n = 1 ∨ ¬ PS l (e * (n : Int) - e0 * n0) (e * kk - e0 * k0)) → b_X12_nearersOf_1 sc (d + 3) 26 (iO (k : Int)) (lO n0) (lO k0) (iO e0) (iO (n : Int)) (hp XI XA XP XC MI MA ML D) = b_X12_nearersOf_1 sc (d + 3) 26 (iO (k : Int)) (lO (n : Int)) (lO kk) (iO e) (iO ((n : Int) + 1)) (hp XI XA XP XC (va_up MI 6 (iO ((r : Int) + 1))) (va_up MA 12 (upd (MA 12) r (iO (n : Int)))) ML D))
    ∧ ((n ≠ 1 ∧ PS l (e * (n : Int) - e0 * n0) (e * kk - e0 * k0)) → b_X12_nearersOf_1 sc (d + 3) 26 (iO (k : Int)) (lO n0) (lO k0) (iO e0) (iO (n : Int)) (hp XI XA XP XC MI MA ML D) = b_X12_nearersOf_1 sc (d + 3) 26 (iO (k : Int)) (lO n0) (lO k0) (iO e0) (iO ((n : Int) + 1)) (hp XI XA XP XC MI MA ML D)) := by
  obtain ⟨a1, a2, y1, y2, z1, z2, d1, d2, -⟩ := id hS
  have hW0 : 0 ≤ WN l n := hS.w0 (N := (n : Int)) (by omega)
  have hW1 : WN l n ≤ 20 * (n : Int) := hS.w20 (N := (n : Int)) (by omega)
  have hw := e_mwhole (sc := sc) (n := d) (XI := XI) (XA := XA) (XP := XP) (XC := XC) (MI := MI) (ML := ML) (D0 := D) hk hM hS (N := (n : Int)) (by omega) (by omega)
  have hw : f_X12_wholeOf sc (d + 3) 26 (iO (k : Int)) (iO (n : Int)) (hp XI XA XP XC MI MA ML D) = some (some (.int (iO (WN l n))), hp XI XA XP XC MI MA ML D) := hw
  -- sides
  have t1 := mul_bd (x := (n : Int)) (y := l.1 + 1000) (a := 2000) (b := 2000) (by omega) (by omega) (by omega) (by omega)
  have t2 := mul_bd (x := (n : Int)) (y := l.2.1 + 20) (a := 2000) (b := 40) (by omega) (by omega) (by omega) (by omega)
  rw [Int.mul_add] at t1 t2
  have sd : ∀ (q w : Int), (q = 1 ∨ q = 2) → 0 ≤ w → w ≤ 80003 → f_X12_side sc (d + 3) 26 (iO (k : Int)) (lO (n : Int)) (lO w) (lO q) (hp XI XA XP XC MI MA ML D) = some (some (.int (iO (sg (l.1 * (q * (n : Int)) - w * l.2.2.1) (l.2.1 * (q * (n : Int))) l.2.2.2))), hp XI XA XP XC MI MA ML D) := by
    intro q w hq hw0 hw1
    have t3 := mul_bd (x := w) (y := l.2.2.1) (a := 80003) (b := 100) (by omega) (by omega) (by omega) (by omega)
    have f1 : q * l.1 * (n : Int) = l.1 * (q * (n : Int)) := by grind
    have f2 : q * l.2.1 * (n : Int) = l.2.1 * (q * (n : Int)) := by grind
    have u1 : -16000000 ≤ l.1 * (q * (n : Int)) ∧ l.1 * (q * (n : Int)) ≤ 16000000 := by
      rcases hq with rfl | rfl
      · rw [Int.one_mul, Int.mul_comm]; omega
      · rw [show l.1 * (2 * (n : Int)) = 2 * ((n : Int) * l.1) by grind]; omega
    have u2 : -400000 ≤ l.2.1 * (q * (n : Int)) ∧ l.2.1 * (q * (n : Int)) ≤ 400000 := by
      rcases hq with rfl | rfl
      · rw [Int.one_mul, Int.mul_comm]; omega
      · rw [show l.2.1 * (2 * (n : Int)) = 2 * ((n : Int) * l.2.1) by grind]; omega
    have s1 := sq_bd (x := l.1 * (q * (n : Int)) - w * l.2.2.1) (K := 100000000) (by omega) (by omega)
    have s2 := sq_bd (x := l.2.1 * (q * (n : Int))) (K := 1000000) (by omega) (by omega)
    have s3 := mul_bd (x := l.2.1 * (q * (n : Int)) * (l.2.1 * (q * (n : Int)))) (y := l.2.2.2) (a := 1000000000000) (b := 50) (by omega) (by omega) (by omega) d2
    have h := e_side (sc := sc) (n := d + 1) (XI := XI) (XA := XA) (XP := XP) (XC := XC) (MI := MI) (ML := ML) (D0 := D) hk hM hS (N := (n : Int)) (m := w) (q := q) (by rw [f1]; unfold i64; omega) (by rw [f2]; unfold i64; omega) (by rw [f1]; unfold i64; omega) (by rw [f2]; unfold i64; omega)
    rw [f1, f2] at h
    exact h
  have hs2 := sd 2 (2 * WN l n + 1) (Or.inr rfl) (by omega) (by omega)
  obtain ⟨p1, p2⟩ := PS_sg hS (2 * (n : Int)) (2 * WN l n + 1)
  have rg2 := sg_range (l.1 * (2 * (n : Int)) - (2 * WN l n + 1) * l.2.2.1) (l.2.1 * (2 * (n : Int))) l.2.2.2
  have first : b_X12_nearersOf_1 sc (d + 3) 26 (iO (k : Int)) (lO n0) (lO k0) (iO e0) (iO (n : Int)) (hp XI XA XP XC MI MA ML D) = b_X12_nearersOf_2 sc (d + 3) 26 (iO (k : Int)) (lO n0) (lO k0) (iO e0) (iO (n : Int)) (lO (if sg (l.1 * (2 * (n : Int)) - (2 * WN l n + 1) * l.2.2.1) (l.2.1 * (2 * (n : Int))) l.2.2.2 ≤ 0 then WN l n else WN l n + 1)) (hp XI XA XP XC MI MA ML D) := by
    rw [eb_X12_nearersOf_1, if_neg (show ¬ 2000 < iO (n : Int) from nlt (a := 2000) (b := (n : Int)) (by unfold i32; omega) (by unfold i32; omega) (by omega)), hp_cc_26, if_pos rfl, hw, bI_s, en_le, hp_cc_26, if_pos rfl, iO_wide (by unfold i32; omega), iO_wide (by unfold i32; omega), show (2 : Int64) * lO (WN l n) + 1 = lO (2 * WN l n + 1) by rw [kl_2, kl_1, lO_mul, lO_add], show (2 : Int64) = lO 2 from rfl, hs2, bI_s]
    generalize sg (l.1 * (2 * (n : Int)) - (2 * WN l n + 1) * l.2.2.1) (l.2.1 * (2 * (n : Int))) l.2.2.2 = sv at *
    by_cases g : sv ≤ 0
    · rw [if_pos g, if_pos (show iO sv ≤ 0 from ple (a := sv) (b := 0) (by unfold i32; omega) (by unfold i32; omega) g)]
    · rw [if_neg g, if_neg (show ¬ iO sv ≤ 0 from nle (a := sv) (b := 0) (by unfold i32; omega) (by unfold i32; omega) (by omega)), en_le, kl_1, lO_add]
  rw [first]
  by_cases g : sg (l.1 * (2 * (n : Int)) - (2 * WN l n + 1) * l.2.2.1) (l.2.1 * (2 * (n : Int))) l.2.2.2 ≤ 0
  · rw [if_pos g]
    have h2 := p2.mp g
    have hs1 := sd 1 (WN l n) (Or.inl rfl) (by omega) (by omega)
    rw [Int.one_mul] at hs1
    obtain ⟨r1, r2⟩ := PS_sg hS (n : Int) (WN l n)
    have hge := r1.mpr ((PS_W hS _).mpr (Int.le_refl _))
    have rg1 := sg_range (l.1 * (n : Int) - WN l n * l.2.2.1) (l.2.1 * (n : Int)) l.2.2.2
    generalize sg (l.1 * (n : Int) - WN l n * l.2.2.1) (l.2.1 * (n : Int)) l.2.2.2 = e at *
    refine ⟨WN l n, e, ?_, by omega, by omega, rg1, m_near4 hk hM hS hn1 hn2 b1 b2 b3 b4 b5 h6 hr (by omega) (by omega) rg1 hs1⟩
    by_cases ge : e = 0
    · rw [ge, Int.zero_mul, Int.zero_mul]
      exact dist_0 hS (r2.mp (by omega))
    · have : e = 1 := by omega
      rw [this, Int.one_mul, Int.one_mul]
      exact dist_dn hS h2 (fun q => by have := r2.mpr q; omega)
  · rw [if_neg g]
    have h2 : ¬ PS l (-(2 * (n : Int))) (-(2 * WN l n + 1)) := fun q => g (p2.mpr q)
    have hs1 := sd 1 (WN l n + 1) (Or.inl rfl) (by omega) (by omega)
    rw [Int.one_mul] at hs1
    obtain ⟨r1, r2⟩ := PS_sg hS (n : Int) (WN l n + 1)
    have rg1 := sg_range (l.1 * (n : Int) - (WN l n + 1) * l.2.2.1) (l.2.1 * (n : Int)) l.2.2.2
    have hlt : sg (l.1 * (n : Int) - (WN l n + 1) * l.2.2.1) (l.2.1 * (n : Int)) l.2.2.2 < 0 := by
      rcases Int.lt_or_le (sg (l.1 * (n : Int) - (WN l n + 1) * l.2.2.1) (l.2.1 * (n : Int)) l.2.2.2) 0 with q | q
      · exact q
      · have := (PS_W hS _).mp (r1.mp q)
        omega
    generalize sg (l.1 * (n : Int) - (WN l n + 1) * l.2.2.1) (l.2.1 * (n : Int)) l.2.2.2 = e at *
    have he : e = -1 := by omega
    refine ⟨WN l n + 1, e, ?_, by omega, by omega, rg1, m_near4 hk hM hS hn1 hn2 b1 b2 b3 b4 b5 h6 hr (by omega) (by omega) rg1 hs1⟩
    rw [he, show -1 * (n : Int) = -(n : Int) by omega, show -1 * (WN l n + 1) = -(WN l n + 1) by omega]
    exact dist_up hS h2
end NRM
