/-! QUOTIENTS of (a + b times the root of d) / c, told purely; they look at the number alone, not at how it is told -/
noncomputable def ql : Nat → Int → Int → Int → Int → List Int
  | 0, _, _, _, _ => []
  | n + 1, a, b, c, d =>
    if a - whl a b d c * c = 0 ∧ b = 0 then [whl a b d c]
    else whl a b d c :: (if b = 0 then ql n c 0 (a - whl a b d c * c) d
      else if 0 < (a - whl a b d c * c) * (a - whl a b d c * c) - b * b * d then ql n (c * (a - whl a b d c * c)) (-(c * b)) ((a - whl a b d c * c) * (a - whl a b d c * c) - b * b * d) d
      else ql n (-(c * (a - whl a b d c * c))) (c * b) (-((a - whl a b d c * c) * (a - whl a b d c * c) - b * b * d)) d)
theorem le_ext {x y : Int} (h : ∀ k, k ≤ x ↔ k ≤ y) : x = y := by
  have h1 := (h x).mp (Int.le_refl x)
  have h2 := (h y).mpr (Int.le_refl y)
  omega
/-- the same number, told two ways -/
def EQN (a b c t a' b' c' : Int) : Prop := 0 < c ∧ 0 < c' ∧ 0 < t ∧ a * c' = a' * c ∧ b * t * c' = b' * c
theorem EQN.zero {a b c t a' b' c' : Int} (h : EQN a b c t a' b' c') : b = 0 ↔ b' = 0 := by
  obtain ⟨hc, hc', ht, h1, h2⟩ := h
  constructor
  · intro g
    subst g
    rw [Int.zero_mul, Int.zero_mul] at h2
    rcases Int.mul_eq_zero.mp h2.symm with q | q
    · exact q
    · omega
  · intro g
    subst g
    rw [Int.zero_mul] at h2
    rcases Int.mul_eq_zero.mp h2 with q | q
    · rcases Int.mul_eq_zero.mp q with q | q
      · exact q
      · omega
    · omega
theorem EQN.hnn {a b c t a' b' c' d : Int} (h : EQN a b c t a' b' c') (k m : Int) : nn (a * m - k * c) (b * m) (d * (t * t)) ↔ nn (a' * m - k * c') (b' * m) d := by
  obtain ⟨hc, hc', ht, h1, h2⟩ := h
  rw [nn_sq ht, ← nn_scale hc', ← nn_scale (x := a' * m - k * c') hc]
  have e1 : c' * (a * m - k * c) = c * (a' * m - k * c') := by grind
  have e2 : c' * (b * m * t) = c * (b' * m) := by grind
  rw [e1, e2]
theorem EQN.hw {a b c t a' b' c' d : Int} (h : EQN a b c t a' b' c') (hd : 0 < d) (h1 : b ≠ 0 → nsq d) (h2 : b ≠ 0 → nsq (d * (t * t))) (m : Int) : whl (a * m) (b * m) (d * (t * t)) c = whl (a' * m) (b' * m) d c' := by
  obtain ⟨hc, hc', ht, -, -⟩ := id h
  have hz := h.zero
  have hb : 0 ≤ b * m ∨ nsq (d * (t * t)) := by
    by_cases g : b = 0
    · left; rw [g, Int.zero_mul]; exact Int.le_refl _
    · exact Or.inr (h2 g)
  have hb' : 0 ≤ b' * m ∨ nsq d := by
    by_cases g : b = 0
    · left; rw [hz.mp g, Int.zero_mul]; exact Int.le_refl _
    · exact Or.inr (h1 g)
  apply le_ext
  intro k
  rw [← whl_iff (Int.mul_pos hd (Int.mul_pos ht ht)) hb hc, ← whl_iff hd hb' hc']
  exact h.hnn k m
theorem EQN.hw1 {a b c t a' b' c' d : Int} (h : EQN a b c t a' b' c') (hd : 0 < d) (h1 : b ≠ 0 → nsq d) (h2 : b ≠ 0 → nsq (d * (t * t))) : whl a b (d * (t * t)) c = whl a' b' d c' := by
  have := h.hw hd h1 h2 1
  rwa [Int.mul_one, Int.mul_one, Int.mul_one, Int.mul_one] at this
theorem nc_ne {e b d : Int} (hb : b ≠ 0) (hd : nsq d) : e * e - b * b * d ≠ 0 := by
  intro h
  have key : ∀ y r : Int, 0 < y → 0 ≤ r → r * r ≠ y * y * d := fun y r hy hr => nsq_no hd y.toNat y r hy (by omega) hr
  have sb : ∃ y : Int, 0 < y ∧ y * y = b * b := by
    rcases Int.lt_or_gt_of_ne hb with g | g
    · exact ⟨-b, by omega, sq_neg b⟩
    · exact ⟨b, by omega, rfl⟩
  have se : ∃ r : Int, 0 ≤ r ∧ r * r = e * e := by
    rcases Int.lt_or_le e 0 with g | g
    · exact ⟨-e, by omega, sq_neg e⟩
    · exact ⟨e, by omega, rfl⟩
  obtain ⟨y, hy, ey⟩ := sb
  obtain ⟨r, hr, er⟩ := se
  apply key y r hy hr
  rw [ey, er]
  omega
theorem e_pos {a c d : Int} (hd : 0 < d) (hc : 0 < c) : 0 ≤ a - whl a 0 d c * c ∧ a - whl a 0 d c * c < c := by
  have h1 := (whl_iff (x := a) (y := 0) (k := whl a 0 d c) hd (Or.inl (by omega)) hc).mpr (Int.le_refl _)
  have h2 : ¬ nn (a - (whl a 0 d c + 1) * c) 0 d := fun q => by
    have := (whl_iff hd (Or.inl (by omega)) hc).mp q
    omega
  have z : ∀ x : Int, nn x 0 d ↔ 0 ≤ x := by
    intro x
    unfold nn
    rw [Int.zero_mul, Int.zero_mul]
    constructor
    · rintro (⟨-, h | h⟩ | ⟨h, -⟩)
      · exact h
      · have := sq_zero h; omega
      · omega
    · intro h; exact Or.inl ⟨by omega, Or.inl h⟩
  rw [z] at h1 h2
  rw [Int.add_mul, Int.one_mul] at h2
  omega
theorem pos_of_mul {x y z w : Int} (hy : 0 < y) (hw : 0 < w) (h : x * y = z * w) (hx : 0 < x) : 0 < z := by
  have : 0 < z * w := by rw [← h]; exact Int.mul_pos hx hy
  exact Int.pos_of_mul_pos_left this (by omega)
theorem ql_eq : ∀ (n : Nat) {a b c t a' b' c' d : Int}, EQN a b c t a' b' c' → 0 < d → (b ≠ 0 → nsq d) → (b ≠ 0 → nsq (d * (t * t))) → ql n a b c (d * (t * t)) = ql n a' b' c' d := by
  intro n
  induction n with
  | zero => intros; rfl
  | succ n ih =>
    intro a b c t a' b' c' d h hd h1 h2
    have hw := h.hw1 hd h1 h2
    have hz := h.zero
    obtain ⟨hc, hc', ht, g1, g2⟩ := id h
    rw [ql, ql, ← hw]
    generalize hW : whl a b (d * (t * t)) c = w at *
    have he : (a - w * c) * c' = (a' - w * c') * c := by grind
    generalize hE : a - w * c = e at *
    generalize hE' : a' - w * c' = e' at *
    have hez : e = 0 ↔ e' = 0 := by
      constructor
      · intro q
        rw [q, Int.zero_mul] at he
        rcases Int.mul_eq_zero.mp he.symm with q | q
        · exact q
        · omega
      · intro q
        rw [q, Int.zero_mul] at he
        rcases Int.mul_eq_zero.mp he with q | q
        · exact q
        · omega
    by_cases hb : b = 0
    · have hb' := hz.mp hb
      subst hb
      subst hb'
      by_cases q : e = 0
      · rw [if_pos ⟨q, rfl⟩, if_pos ⟨hez.mp q, rfl⟩]
      · have q' : ¬ e' = 0 := fun x => q (hez.mpr x)
        rw [if_neg (show ¬ (e = 0 ∧ (0 : Int) = 0) from fun x => q x.1), if_neg (show ¬ (e' = 0 ∧ (0 : Int) = 0) from fun x => q' x.1), if_pos rfl, if_pos rfl]
        congr 1
        have p1 := e_pos (a := a) (c := c) (d := d * (t * t)) (Int.mul_pos hd (Int.mul_pos ht ht)) hc
        rw [hW, hE] at p1
        have p2 := e_pos (a := a') (c := c') (d := d) hd hc'
        rw [← hw, hE'] at p2
        exact ih ⟨by omega, by omega, ht, by grind, by grind⟩ hd (fun x => absurd rfl x) (fun x => absurd rfl x)
    · have hb' : b' ≠ 0 := fun x => hb (hz.mpr x)
      rw [if_neg (show ¬ (e = 0 ∧ b = 0) from fun x => hb x.2), if_neg (show ¬ (e' = 0 ∧ b' = 0) from fun x => hb' x.2), if_neg hb, if_neg hb']
      congr 1
      have n1 := nc_ne (e := e) hb (h2 hb)
      have n2 := nc_ne (e := e') hb' (h1 hb)
      have hN : (e * e - b * b * (d * (t * t))) * (c' * c') = (e' * e' - b' * b' * d) * (c * c) := by grind
      have hcc := Int.mul_pos hc hc
      have hcc' := Int.mul_pos hc' hc'
      generalize hNC : e * e - b * b * (d * (t * t)) = N at *
      generalize hNC' : e' * e' - b' * b' * d = N' at *
      have q1 : c * e * N' = c' * e' * N := by
        have : (c * e * N' - c' * e' * N) * (c' * c') = 0 := by grind
        rcases Int.mul_eq_zero.mp this with q | q <;> omega
      have q2 : c * b * t * N' = c' * b' * N := by
        have : (c * b * t * N' - c' * b' * N) * (c' * c') = 0 := by grind
        rcases Int.mul_eq_zero.mp this with q | q <;> omega
      by_cases g : 0 < N
      · have g' : 0 < N' := pos_of_mul hcc' hcc hN g
        rw [if_pos g, if_pos g']
        exact ih ⟨g, g', ht, by grind, by grind⟩ hd (fun _ => h1 hb) (fun _ => h2 hb)
      · have g' : ¬ 0 < N' := fun x => g (pos_of_mul hcc hcc' hN.symm x)
        rw [if_neg g, if_neg g']
        exact ih ⟨by omega, by omega, ht, by grind, by grind⟩ hd (fun _ => h1 hb) (fun _ => h2 hb)
