/-! MATHEMATICS OF x + y times the root of d: when it is at least 0 (nn), its sign (sg) -/
theorem rt_le {a b : Int} (hb : 0 ≤ b) (h : a * a ≤ b * b) : a ≤ b := by
  rcases Int.lt_or_le b a with g | g
  · have h1 : b * b ≤ b * a := Int.mul_le_mul_of_nonneg_left (Int.le_of_lt g) hb
    have h2 : b * a < a * a := Int.mul_lt_mul_of_pos_right g (by omega)
    omega
  · exact g
theorem rt_lt {a b : Int} (hb : 0 ≤ b) (h : a * a < b * b) : a < b := by
  rcases Int.lt_or_le a b with g | g
  · exact g
  · have h1 : b * b ≤ b * a := Int.mul_le_mul_of_nonneg_left g hb
    have h2 : b * a ≤ a * a := Int.mul_le_mul_of_nonneg_right g (by omega)
    omega
theorem rt_mono {a b : Int} (ha : 0 ≤ a) (h : a ≤ b) : a * a ≤ b * b := Int.mul_le_mul h h ha (by omega)
theorem rt_mono' {a b : Int} (ha : 0 ≤ a) (h : a < b) : a * a < b * b := by
  have h1 : a * a ≤ a * b := Int.mul_le_mul_of_nonneg_left (by omega) ha
  have h2 : a * b < b * b := Int.mul_lt_mul_of_pos_right h (by omega)
  omega
theorem sq_nn (a : Int) : 0 ≤ a * a := by
  rcases Int.le_total 0 a with h | h
  · exact Int.mul_nonneg h h
  · have := Int.mul_nonneg (a := -a) (b := -a) (by omega) (by omega)
    rwa [Int.neg_mul_neg] at this
theorem sq_neg (a : Int) : -a * -a = a * a := Int.neg_mul_neg a a
theorem sq_add (a b : Int) : (a + b) * (a + b) = a * a + 2 * (a * b) + b * b := by
  rw [Int.add_mul, Int.mul_add, Int.mul_add, Int.mul_comm b a]; omega
/-- products: a is at most p roots, b at most q roots: ab is at most pqd -/
theorem rt_cross {a b p q d : Int} (hp : 0 ≤ p) (hq : 0 ≤ q) (hd : 0 ≤ d) (h1 : a * a ≤ p * p * d) (h2 : b * b ≤ q * q * d) : a * b ≤ p * q * d := by
  apply rt_le (Int.mul_nonneg (Int.mul_nonneg hp hq) hd)
  have e1 : a * b * (a * b) = a * a * (b * b) := by simp only [Int.mul_assoc, Int.mul_left_comm, Int.mul_comm]
  have e2 : p * q * d * (p * q * d) = p * p * d * (q * q * d) := by simp only [Int.mul_assoc, Int.mul_left_comm, Int.mul_comm]
  rw [e1, e2]
  exact Int.mul_le_mul h1 h2 (sq_nn b) (Int.mul_nonneg (sq_nn p) hd)
theorem rt_cross' {a b p q d : Int} (ha : 0 ≤ a) (hb : 0 ≤ b) (hd : 0 ≤ d) (h1 : p * p * d ≤ a * a) (h2 : q * q * d ≤ b * b) : p * q * d ≤ a * b := by
  apply rt_le (Int.mul_nonneg ha hb)
  have e1 : a * b * (a * b) = a * a * (b * b) := by simp only [Int.mul_assoc, Int.mul_left_comm, Int.mul_comm]
  have e2 : p * q * d * (p * q * d) = p * p * d * (q * q * d) := by simp only [Int.mul_assoc, Int.mul_left_comm, Int.mul_comm]
  rw [e1, e2]
  exact Int.mul_le_mul h1 h2 (Int.mul_nonneg (sq_nn q) hd) (sq_nn a)
theorem rt_exp (p q d : Int) : (p + q) * (p + q) * d = p * p * d + 2 * (p * q * d) + q * q * d := by
  rw [sq_add, Int.add_mul, Int.add_mul, Int.mul_assoc 2]
theorem rt_sum {a b p q d : Int} (hp : 0 ≤ p) (hq : 0 ≤ q) (hd : 0 ≤ d) (h1 : a * a ≤ p * p * d) (h2 : b * b ≤ q * q * d) : (a + b) * (a + b) ≤ (p + q) * (p + q) * d := by
  have := rt_cross hp hq hd h1 h2
  rw [sq_add, rt_exp]
  omega
theorem rt_sumS {a b p q d : Int} (hp : 0 ≤ p) (hq : 0 ≤ q) (hd : 0 ≤ d) (h1 : a * a < p * p * d) (h2 : b * b ≤ q * q * d) : (a + b) * (a + b) < (p + q) * (p + q) * d := by
  have := rt_cross hp hq hd (Int.le_of_lt h1) h2
  rw [sq_add, rt_exp]
  omega
theorem rt_sum' {a b p q d : Int} (ha : 0 ≤ a) (hb : 0 ≤ b) (hd : 0 ≤ d) (h1 : p * p * d ≤ a * a) (h2 : q * q * d ≤ b * b) : (p + q) * (p + q) * d ≤ (a + b) * (a + b) := by
  have := rt_cross' ha hb hd h1 h2
  rw [rt_exp, sq_add]
  omega
theorem rt_sumS' {a b p q d : Int} (ha : 0 ≤ a) (hb : 0 ≤ b) (hd : 0 ≤ d) (h1 : p * p * d < a * a) (h2 : q * q * d ≤ b * b) : (p + q) * (p + q) * d < (a + b) * (a + b) := by
  have := rt_cross' ha hb hd (Int.le_of_lt h1) h2
  rw [rt_exp, sq_add]
  omega
/-- x + y times the root of d is at least 0 -/
def nn (x y d : Int) : Prop := (0 ≤ y ∧ (0 ≤ x ∨ x * x ≤ y * y * d)) ∨ (y < 0 ∧ 0 ≤ x ∧ y * y * d ≤ x * x)
theorem nn_add {x y u v d : Int} (hd : 0 ≤ d) (h1 : nn x y d) (h2 : nn u v d) : nn (x + u) (y + v) d := by
  -- both roots up, both down, or one each
  have up : ∀ {x y u v : Int}, 0 ≤ y → 0 ≤ v → (0 ≤ x ∨ x * x ≤ y * y * d) → (0 ≤ u ∨ u * u ≤ v * v * d) → (0 ≤ x + u ∨ (x + u) * (x + u) ≤ (y + v) * (y + v) * d) := by
    intro x y u v hy hv hx hu
    rcases Int.lt_or_le (x + u) 0 with g | g
    · right
      rcases Int.lt_or_le x 0 with gx | gx
      · have hx : x * x ≤ y * y * d := hx.resolve_left (by omega)
        rcases Int.lt_or_le u 0 with gu | gu
        · exact rt_sum hy hv hd hx (hu.resolve_left (by omega))
        · have h3 : (x + u) * (x + u) ≤ x * x := by
            have := rt_mono (a := -(x + u)) (b := -x) (by omega) (by omega)
            rwa [sq_neg, sq_neg] at this
          have h4 : y * y * d ≤ (y + v) * (y + v) * d := Int.mul_le_mul_of_nonneg_right (rt_mono hy (by omega)) hd
          omega
      · have hu : u * u ≤ v * v * d := hu.resolve_left (by omega)
        have h3 : (x + u) * (x + u) ≤ u * u := by
          have := rt_mono (a := -(x + u)) (b := -u) (by omega) (by omega)
          rwa [sq_neg, sq_neg] at this
        have h4 : v * v * d ≤ (y + v) * (y + v) * d := Int.mul_le_mul_of_nonneg_right (rt_mono hv (by omega)) hd
        omega
    · exact Or.inl g
  have mix : ∀ {x y u v : Int}, 0 ≤ y → (0 ≤ x ∨ x * x ≤ y * y * d) → v < 0 → 0 ≤ u → v * v * d ≤ u * u → nn (x + u) (y + v) d := by
    intro x y u v hy hx hv hu huv
    rcases Int.lt_or_le (y + v) 0 with gs | gs
    · refine Or.inr ⟨gs, ?_⟩
      have h6 : (y + v) * (y + v) * d ≤ u * u := by
        have h5 : (y + v) * (y + v) ≤ v * v := by
          have := rt_mono (a := -(y + v)) (b := -v) (by omega) (by omega)
          rwa [sq_neg, sq_neg] at this
        exact Int.le_trans (Int.mul_le_mul_of_nonneg_right h5 hd) huv
      rcases Int.lt_or_le x 0 with gx | gx
      · have hx : x * x ≤ y * y * d := hx.resolve_left (by omega)
        -- else the root of -v would be too great
        have key : ∀ w : Int, w = -v → 0 ≤ x + u ∧ (y + v) * (y + v) * d ≤ (x + u) * (x + u) := by
          intro w hw
          have e0 : w * w * d ≤ u * u := by rw [hw, sq_neg]; exact huv
          have hx' : (-x) * (-x) ≤ y * y * d := by rw [sq_neg]; exact hx
          have c1 : ¬ (x + u < 0) := by
            intro g
            -- u < -x ≤ y root < w root ≤ u
            have a1 : u * u < (-x) * (-x) := rt_mono' hu (by omega)
            have a2 : y * y * d ≤ w * w * d := Int.mul_le_mul_of_nonneg_right (rt_mono hy (by omega)) hd
            omega
          refine ⟨by omega, ?_⟩
          rcases Int.lt_or_le ((x + u) * (x + u)) ((y + v) * (y + v) * d) with g | g
          · exfalso
            have e1 : (x + u) * (x + u) < (w - y) * (w - y) * d := by
              have : (y + v) * (y + v) = (w - y) * (w - y) := by
                rw [show w - y = -(y + v) by omega, sq_neg]
              rw [← this]; exact g
            have e2 := rt_sumS (a := x + u) (b := -x) (p := w - y) (q := y) (by omega) hy hd e1 hx'
            rw [show x + u + -x = u by omega, show w - y + y = w by omega] at e2
            omega
          · exact g
        exact key (-v) rfl
      · refine ⟨by omega, Int.le_trans h6 (rt_mono hu (by omega))⟩
    · refine Or.inl ⟨gs, ?_⟩
      rcases Int.lt_or_le (x + u) 0 with g | g
      · right
        have hx : x * x ≤ y * y * d := hx.resolve_left (by omega)
        have key : ∀ w : Int, w = -v → (x + u) * (x + u) ≤ (y + v) * (y + v) * d := by
          intro w hw
          have e0 : w * w * d ≤ u * u := by rw [hw, sq_neg]; exact huv
          have hx' : (-x) * (-x) ≤ y * y * d := by rw [sq_neg]; exact hx
          rcases Int.lt_or_le ((y + v) * (y + v) * d) ((x + u) * (x + u)) with g2 | g2
          · exfalso
            have e1 : (y - w) * (y - w) * d < (-x - u) * (-x - u) := by
              rw [show y - w = y + v by omega, show -x - u = -(x + u) by omega, sq_neg]
              exact g2
            have e2 := rt_sumS' (a := -x - u) (b := u) (p := y - w) (q := w) (by omega) hu hd e1 e0
            rw [show -x - u + u = -x by omega, show y - w + w = y by omega] at e2
            omega
          · exact g2
        exact key (-v) rfl
      · exact Or.inl g
  rcases h1 with ⟨hy, hx⟩ | ⟨hy, hx, hxy⟩ <;> rcases h2 with ⟨hv, hu⟩ | ⟨hv, hu, huv⟩
  · exact Or.inl ⟨by omega, up hy hv hx hu⟩
  · exact mix hy hx hv hu huv
  · have := mix hv hu hy hx hxy
    rwa [Int.add_comm u x, Int.add_comm v y] at this
  · refine Or.inr ⟨by omega, by omega, ?_⟩
    have e1 : (-y) * (-y) * d ≤ x * x := by rw [sq_neg]; exact hxy
    have e2 : (-v) * (-v) * d ≤ u * u := by rw [sq_neg]; exact huv
    have := rt_sum' hx hu hd e1 e2
    rwa [show -y + -v = -(y + v) by omega, sq_neg] at this
