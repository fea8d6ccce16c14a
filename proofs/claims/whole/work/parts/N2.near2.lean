/-! NEARERS: products of x + y times the root; the quotients as a row of fractions -/
theorem nn_tot {x y d : Int} (hd : 0 < d) : nn x y d ∨ nn (-x) (-y) d := by
  have h1 := sg_range x y d
  rcases Int.lt_or_le (sg x y d) 0 with g | g
  · right
    rw [← sg_nn hd, sg_neg]
    omega
  · exact Or.inl ((sg_nn hd).mp g)
theorem nn_anti {x y d : Int} (hd : 0 < d) (hn : y ≠ 0 → nsq d) (h1 : nn x y d) (h2 : nn (-x) (-y) d) : x = 0 ∧ y = 0 := by
  rw [← sg_nn hd] at h1 h2
  rw [sg_neg] at h2
  have h3 : sg x y d = 0 := by omega
  by_cases hy : y = 0
  · subst hy
    unfold sg at h3
    rw [if_pos rfl] at h3
    refine ⟨?_, rfl⟩
    split at h3
    · omega
    · split at h3 <;> omega
  · exfalso
    have hne := nc_ne (e := x) (b := y) (d := d) hy (hn hy)
    unfold sg at h3
    rw [if_neg hy] at h3
    split at h3
    · split at h3
      · omega
      · split at h3
        · omega
        · split at h3
          · rename_i q
            apply hne
            omega
          · omega
    · split at h3
      · omega
      · split at h3
        · omega
        · split at h3
          · rename_i q
            apply hne
            omega
          · omega
/-- times the root -/
theorem nn_root {x y d : Int} (hd : 0 < d) (h : nn x y d) : nn (y * d) x d := by
  have e1 : y * d * (y * d) = d * (y * y * d) := by grind
  have e2 : x * x * d = d * (x * x) := Int.mul_comm _ _
  unfold nn
  rw [e1, e2]
  rcases h with ⟨hy, hx⟩ | ⟨hy, hx, hxy⟩
  · have hyd : 0 ≤ y * d := Int.mul_nonneg hy (by omega)
    rcases Int.lt_or_le x 0 with g | g
    · have hx : x * x ≤ y * y * d := hx.resolve_left (by omega)
      exact Or.inr ⟨g, hyd, Int.mul_le_mul_of_nonneg_left hx (by omega)⟩
    · exact Or.inl ⟨g, Or.inl hyd⟩
  · exact Or.inl ⟨hx, Or.inr (Int.mul_le_mul_of_nonneg_left hxy (by omega))⟩
/-- times what has no part below 0 -/
theorem nn_pp {x y d f g : Int} (hd : 0 < d) (hf : 0 ≤ f) (hg : 0 ≤ g) (h : nn x y d) : nn (f * x + g * (y * d)) (f * y + g * x) d := by
  have h1 := nn_mul hf h
  have h2 := nn_mul hg (nn_root hd h)
  have := nn_add (by omega) h1 h2
  rw [Int.mul_comm x f, Int.mul_comm y f, Int.mul_comm (y * d) g, Int.mul_comm x g] at this
  exact this
/-- times a number above 0, told by itself and the other that makes a whole number of it -/
theorem nn_pm {x y d f g f' g' N : Int} (hd : 0 < d) (hn : nsq d) (hf' : 0 ≤ f') (hg' : 0 ≤ g') (hN : 0 < N) (e1 : f * f' + g * g' * d = N) (e2 : f * g' + g * f' = 0) (h : nn x y d) : nn (f * x + g * (y * d)) (f * y + g * x) d := by
  rcases nn_tot (x := f * x + g * (y * d)) (y := f * y + g * x) hd with k | k
  · exact k
  · have k2 := nn_pp hd hf' hg' k
    have q1 : f' * -(f * x + g * (y * d)) + g' * (-(f * y + g * x) * d) = N * -x := by
      rw [← e1]
      have : f' * -(f * x + g * (y * d)) + g' * (-(f * y + g * x) * d) = (f * f' + g * g' * d) * -x + -(f * g' + g * f') * (y * d) := by grind
      rw [this, e2]
      grind
    have q2 : f' * -(f * y + g * x) + g' * -(f * x + g * (y * d)) = N * -y := by
      rw [← e1]
      have : f' * -(f * y + g * x) + g' * -(f * x + g * (y * d)) = (f * f' + g * g' * d) * -y + -(f * g' + g * f') * x := by grind
      rw [this, e2]
      grind
    rw [q1, q2, nn_scale hN] at k2
    obtain ⟨z1, z2⟩ := nn_anti hd (fun _ => hn) h k2
    subst z1 z2
    rw [show f * 0 + g * (0 * d) = 0 by grind, show f * 0 + g * 0 = 0 by grind]
    exact Or.inl ⟨Int.le_refl _, Or.inl (Int.le_refl _)⟩
/-- both ways -/
theorem nn_times {x y d f g N : Int} (hd : 0 < d) (hn : nsq d) (hN : 0 < N) (h : (f * f - g * g * d = N ∧ 0 < f) ∨ (g * g * d - f * f = N ∧ 0 < g)) : nn (f * x + g * (y * d)) (f * y + g * x) d ↔ nn x y d := by
  -- the product with (f, g) and with its other half
  have fwd : ∀ (f g : Int), ((f * f - g * g * d = N ∧ 0 < f) ∨ (g * g * d - f * f = N ∧ 0 < g)) → ∀ x y : Int, nn x y d → nn (f * x + g * (y * d)) (f * y + g * x) d := by
    intro f g h x y hxy
    rcases h with ⟨h1, h2⟩ | ⟨h1, h2⟩
    · rcases Int.lt_or_le g 0 with s | s
      · exact nn_pm (f' := f) (g' := -g) hd hn (by omega) (by omega) hN (by grind) (by grind) hxy
      · exact nn_pp hd (by omega) s hxy
    · rcases Int.lt_or_le f 0 with s | s
      · exact nn_pm (f' := -f) (g' := g) hd hn (by omega) (by omega) hN (by grind) (by grind) hxy
      · exact nn_pp hd s (by omega) hxy
  constructor
  · intro k
    rcases h with ⟨h1, h2⟩ | ⟨h1, h2⟩
    · have := fwd f (-g) (Or.inl ⟨by grind, h2⟩) _ _ k
      have q1 : f * (f * x + g * (y * d)) + -g * ((f * y + g * x) * d) = N * x := by rw [← h1]; grind
      have q2 : f * (f * y + g * x) + -g * (f * x + g * (y * d)) = N * y := by rw [← h1]; grind
      rw [q1, q2, nn_scale hN] at this
      exact this
    · have := fwd (-f) g (Or.inr ⟨by grind, h2⟩) _ _ k
      have q1 : -f * (f * x + g * (y * d)) + g * ((f * y + g * x) * d) = N * x := by rw [← h1]; grind
      have q2 : -f * (f * y + g * x) + g * (f * x + g * (y * d)) = N * y := by rw [← h1]; grind
      rw [q1, q2, nn_scale hN] at this
      exact this
  · exact fwd f g h x y
/-- the quotients tell the row of fractions -/
theorem ql_RL {P : Int → Int → Prop} {d : Int} (hd : 0 < d) : ∀ (n : Nat) (a b c x1 y1 x2 y2 : Int), 0 < c → (b ≠ 0 → nsq d) → (∀ x y : Int, nn (x * a - y * c) (x * b) d ↔ P (x * x1 - y * x2) (x * y1 - y * y2)) → ¬ P (-x2) (-y2) → RL P n (ql n a b c d) x1 y1 x2 y2
  | 0, _, _, _, _, _, _, _, _, _, _, _ => Or.inl rfl
  | n + 1, a, b, c, x1, y1, x2, y2, hc, hn, hH, hpos => by
    have hwi : ∀ k : Int, nn (a - k * c) b d ↔ k ≤ whl a b d c := fun k => whl_iff hd (by
      by_cases hb : b = 0
      · exact Or.inl (by omega)
      · exact Or.inr (hn hb)) hc
    have hw : ∀ k : Int, P (x1 - k * x2) (y1 - k * y2) ↔ k ≤ whl a b d c := fun k => by
      have := hH 1 k
      rw [Int.one_mul, Int.one_mul, Int.one_mul, Int.one_mul] at this
      rw [← this, hwi]
    rw [ql]
    have hp1 := (hw (whl a b d c)).mpr (Int.le_refl _)
    have hp2 : ¬ P (x1 - (whl a b d c + 1) * x2) (y1 - (whl a b d c + 1) * y2) := fun q => by
      have := (hw _).mp q
      omega
    have he1 := (hwi (whl a b d c)).mpr (Int.le_refl _)
    have he2 : nn (-(a - whl a b d c * c)) (-b) d ↔ P (-(x1 - whl a b d c * x2)) (-(y1 - whl a b d c * y2)) := by
      have := hH (-1) (-whl a b d c)
      rw [show -1 * a - -whl a b d c * c = -(a - whl a b d c * c) by grind, show -1 * b = -b by omega, show -1 * x1 - -whl a b d c * x2 = -(x1 - whl a b d c * x2) by grind, show -1 * y1 - -whl a b d c * y2 = -(y1 - whl a b d c * y2) by grind] at this
      exact this
    generalize hW : whl a b d c = w at *
    generalize hE : a - w * c = e at *
    by_cases g : e = 0 ∧ b = 0
    · rw [if_pos g]
      refine ⟨hpos, hp1, hp2, RL_nil.2 (Or.inr ?_)⟩
      rw [← he2, g.1, g.2]
      exact Or.inl ⟨by omega, Or.inl (by omega)⟩
    · rw [if_neg g]
      refine ⟨hpos, hp1, hp2, ?_⟩
      have hpos' : ¬ P (-(x1 - w * x2)) (-(y1 - w * y2)) := fun q => by
        have := nn_anti hd hn he1 (he2.mpr q)
        exact g this
      -- what stands at the next pair
      have hH2 : ∀ x y : Int, nn (x * c - y * e) (-(y * b)) d ↔ P (x * x2 - y * (x1 - w * x2)) (x * y2 - y * (y1 - w * y2)) := fun x y => by
        have := hH (-y) (-(x + y * w))
        rw [show -y * a - -(x + y * w) * c = x * c - y * e by rw [← hE]; grind, show -y * b = -(y * b) by grind, show -y * x1 - -(x + y * w) * x2 = x * x2 - y * (x1 - w * x2) by grind, show -y * y1 - -(x + y * w) * y2 = x * y2 - y * (y1 - w * y2) by grind] at this
        exact this
      by_cases hb : b = 0
      · rw [if_pos hb]
        subst hb
        have epos : 0 < e := by
          have : 0 ≤ e := by
            rcases he1 with ⟨-, h | h⟩ | ⟨h, -⟩
            · exact h
            · rw [Int.zero_mul, Int.zero_mul] at h
              have := sq_zero h
              omega
            · omega
          rcases Int.lt_or_le 0 e with q | q
          · exact q
          · exact absurd ⟨by omega, rfl⟩ g
        refine ql_RL hd n c 0 e x2 y2 _ _ epos (fun h => absurd rfl h) (fun x y => ?_) hpos'
        have := hH2 x y
        rw [Int.mul_zero, show (-0 : Int) = 0 from rfl] at this
        rw [Int.mul_zero]
        exact this
      · rw [if_neg hb]
        have hns := hn hb
        have hne := nc_ne (e := e) (b := b) (d := d) hb hns
        by_cases hN : 0 < e * e - b * b * d
        · rw [if_pos hN]
          have e0 : 0 < e := by
            rcases he1 with ⟨h1, h | h⟩ | ⟨h1, h, -⟩
            · rcases Int.lt_or_le 0 e with q | q
              · exact q
              · have : e = 0 := by omega
                rw [this] at hN
                have := Int.mul_nonneg (sq_nn b) (show 0 ≤ d by omega)
                omega
            · omega
            · rcases Int.lt_or_le 0 e with q | q
              · exact q
              · have : e = 0 := by omega
                rw [this] at hN
                have := Int.mul_nonneg (sq_nn b) (show 0 ≤ d by omega)
                omega
          refine ql_RL hd n _ _ _ x2 y2 _ _ hN (fun _ => hns) (fun x y => ?_) hpos'
          rw [← hH2 x y]
          have := nn_times (x := x * c - y * e) (y := -(y * b)) (f := e) (g := -b) (N := e * e - b * b * d) hd hns hN (Or.inl ⟨by grind, e0⟩)
          rw [← this]
          have q1 : e * (x * c - y * e) + -b * (-(y * b) * d) = x * (c * e) - y * (e * e - b * b * d) := by grind
          have q2 : e * -(y * b) + -b * (x * c - y * e) = x * -(c * b) := by grind
          rw [q1, q2]
        · rw [if_neg hN]
          have hN2 : 0 < -(e * e - b * b * d) := by omega
          have b0 : 0 < b := by
            rcases Int.lt_or_le 0 b with q | q
            · exact q
            · exfalso
              rcases he1 with ⟨h1, -⟩ | ⟨h1, h2, h3⟩
              · omega
              · omega
          refine ql_RL hd n _ _ _ x2 y2 _ _ hN2 (fun _ => hns) (fun x y => ?_) hpos'
          rw [← hH2 x y]
          have := nn_times (x := x * c - y * e) (y := -(y * b)) (f := -e) (g := b) (N := -(e * e - b * b * d)) hd hns hN2 (Or.inr ⟨by grind, b0⟩)
          rw [← this]
          have q1 : -e * (x * c - y * e) + b * (-(y * b) * d) = x * -(c * e) - y * -(e * e - b * b * d) := by grind
          have q2 : -e * -(y * b) + b * (x * c - y * e) = x * (c * b) := by grind
          rw [q1, q2]
