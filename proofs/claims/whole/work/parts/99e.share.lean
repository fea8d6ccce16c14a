/-! share: when the multiples of two slopes share out all numbers -/
/-- the model's test -/
def oneP (l m : SL4) : Prop := l.2.1 ≠ 0 ∧ m.2.1 ≠ 0
  ∧ (l.1 * (l.1 - l.2.2.1) - l.2.1 * l.2.1 * l.2.2.2) * m.2.2.1 = m.1 * ((l.1 - l.2.2.1) * (l.1 - l.2.2.1) - l.2.1 * l.2.1 * l.2.2.2)
  ∧ ((0 < -l.2.1 * l.2.2.1 ↔ 0 < (l.1 - l.2.2.1) * (l.1 - l.2.2.1) - l.2.1 * l.2.1 * l.2.2.2) ↔ 0 < m.2.1)
  ∧ -l.2.1 * l.2.2.1 * (-l.2.1 * l.2.2.1) * l.2.2.2 * m.2.2.1 * m.2.2.1 = m.2.1 * m.2.1 * m.2.2.2 * ((l.1 - l.2.2.1) * (l.1 - l.2.2.1) - l.2.1 * l.2.1 * l.2.2.2) * ((l.1 - l.2.2.1) * (l.1 - l.2.2.1) - l.2.1 * l.2.1 * l.2.2.2)
/-- the class's test -/
def shr2 (a b c d a' b' c' d' : Int) : Prop := b ≠ 0 ∧ b' ≠ 0 ∧ d = d' ∧ (a - c) * (a' - c') + b * b' * d = c * c' ∧ (a - c) * b' + (a' - c') * b = 0
theorem sq_eq {x y : Int} (h : x * x = y * y) : x = y ∨ x = -y := by
  have : (x - y) * (x + y) = 0 := by grind
  rcases Int.mul_eq_zero.mp this with g | g
  · exact Or.inl (by omega)
  · exact Or.inr (by omega)
theorem pos_mul_iff {x y : Int} (hy : 0 < y) : 0 < x * y ↔ 0 < x := by
  constructor
  · intro h
    rcases Int.lt_or_le 0 x with g | g
    · exact g
    · have := Int.mul_le_mul_of_nonneg_right g (Int.le_of_lt hy)
      omega
  · intro h
    exact Int.mul_pos h hy
theorem sgn_pr {x y : Int} (hx : x ≠ 0) (hy : y ≠ 0) : 0 < x * y ↔ (0 < x ↔ 0 < y) := by
  rcases Int.lt_or_gt_of_ne hx with g | g <;> rcases Int.lt_or_gt_of_ne hy with k | k
  · have := Int.mul_pos (a := -x) (b := -y) (by omega) (by omega)
    rw [Int.neg_mul_neg] at this
    exact ⟨fun _ => ⟨fun h => by omega, fun h => by omega⟩, fun _ => this⟩
  · have := Int.mul_pos (a := -x) (b := y) (by omega) (by omega)
    rw [Int.neg_mul] at this
    exact ⟨fun h => by omega, fun h => by have := h.mpr k; omega⟩
  · have := Int.mul_pos (a := x) (b := -y) (by omega) (by omega)
    rw [Int.mul_neg] at this
    exact ⟨fun h => by omega, fun h => by have := h.mp g; omega⟩
  · have := Int.mul_pos g k
    exact ⟨fun _ => ⟨fun _ => k, fun _ => g⟩, fun _ => this⟩
/-- the normal forms: numbers as they stand in the class -/
theorem one_norm {a b c d a' b' c' d' : Int} (hc : 0 < c) (hc' : 0 < c') (hd : d ∈ sqfl) (hd' : d' ∈ sqfl) (hb : b ≠ 0) (hb' : b' ≠ 0) :
    ((a * (a - c) - b * b * d) * c' = a' * ((a - c) * (a - c) - b * b * d) ∧ ((0 < -b * c ↔ 0 < (a - c) * (a - c) - b * b * d) ↔ 0 < b') ∧ -b * c * (-b * c) * d * c' * c' = b' * b' * d' * ((a - c) * (a - c) - b * b * d) * ((a - c) * (a - c) - b * b * d)) ↔ (d = d' ∧ (a - c) * (a' - c') + b * b' * d = c * c' ∧ (a - c) * b' + (a' - c') * b = 0) := by
  have hden : (a - c) * (a - c) - b * b * d ≠ 0 := fun h => by
    have := nc_ne (e := a - c) (b := b) (d := d) hb (sqfl_nsq d hd)
    apply this
    omega
  have hbc : -b * c ≠ 0 := fun h => by
    rcases Int.mul_eq_zero.mp h with g | g <;> omega
  generalize hx : a - c = x at *
  generalize hN : x * x - b * b * d = N at *
  have ea : a = x + c := by omega
  subst ea
  constructor
  · rintro ⟨h1, h2, h3⟩
    have hbb : b * c * c' ≠ 0 := fun h => by
      rcases Int.mul_eq_zero.mp h with g | g
      · rcases Int.mul_eq_zero.mp g with k | k <;> omega
      · omega
    have hbN : b' * N ≠ 0 := fun h => by
      rcases Int.mul_eq_zero.mp h with g | g
      · exact hb' g
      · exact hden g
    have h4 : (b * c * c') * (b * c * c') * d = (b' * N) * (b' * N) * d' := by grind
    have hdd : d = d' := sqfl_one hd hd' hbb hbN h4
    subst hdd
    have hd0 : 0 < d := by have := sqfl_ok d hd; omega
    have h5 : (b * c * c') * (b * c * c') = (b' * N) * (b' * N) := Int.eq_of_mul_eq_mul_right (by omega) h4
    -- the sign tells which
    have h6 : b' * N = -(b * c * c') := by
      rcases sq_eq h5 with g | g
      · exfalso
        have s1 := sgn_pr hbc hden
        have s2 : 0 < -b * c * N * b' ↔ (0 < -b * c * N ↔ 0 < b') := sgn_pr (fun h => by
          rcases Int.mul_eq_zero.mp h with k | k
          · exact hbc k
          · exact hden k) hb'
        have s3 : 0 < -b * c * N * b' := s2.mpr (s1.trans h2)
        have s4 : -b * c * N * b' = -(b * c * (b * c)) * c' := by
          have : -b * c * N * b' = -b * c * (b' * N) := by grind
          rw [this, ← g]
          grind
        rw [s4] at s3
        have s5 := (pos_mul_iff hc').mp s3
        have := sq_nn (b * c)
        omega
      · omega
    have h7 : (a' - c') * N = c * c' * x := by grind
    refine ⟨rfl, ?_, ?_⟩
    · have : (x * (a' - c') + b * b' * d) * N = (c * c') * N := by grind
      exact Int.eq_of_mul_eq_mul_right hden this
    · have : (x * b' + (a' - c') * b) * N = 0 * N := by grind
      exact Int.eq_of_mul_eq_mul_right hden this
  · rintro ⟨rfl, h1, h2⟩
    have h6 : b' * N = -(b * c * c') := by rw [← hN]; grind
    have h7 : (a' - c') * N = c * c' * x := by rw [← hN]; grind
    refine ⟨?_, ?_, ?_⟩
    · have : (x + c) * x - b * b * d = N + c * x := by rw [← hN]; grind
      rw [this]
      grind
    · have s1 := sgn_pr hbc hden
      rw [← s1]
      have s2 : -b * c * N * b' = (b * c * (b * c)) * c' := by
        have : -b * c * N * b' = -b * c * (b' * N) := by grind
        rw [this, h6]
        grind
      have s3 : 0 < -b * c * N * b' := by
        rw [s2]
        apply Int.mul_pos _ hc'
        have hbc2 : b * c ≠ 0 := fun h => hbc (by rw [Int.neg_mul, h]; rfl)
        have := sq_nn (b * c)
        rcases Int.lt_or_gt_of_ne (show b * c * (b * c) ≠ 0 from fun h => by rcases Int.mul_eq_zero.mp h with k | k <;> exact hbc2 k) with k | k
        · omega
        · exact k
      have hcN : -b * c * N ≠ 0 := fun h => by
        rcases Int.mul_eq_zero.mp h with k | k
        · exact hbc k
        · exact hden k
      exact (sgn_pr hcN hb').mp s3
    · have : -b * c * (-b * c) * d * c' * c' = (b' * N) * (b' * N) * d := by
        rw [h6]
        grind
      rw [this]
      grind
theorem one_iff {A B C D A' B' C' D' t a b c d t' a' b' c' d' : Int} (hE : EQN A B C t a b c) (hD : D = d * (t * t)) (hE' : EQN A' B' C' t' a' b' c') (hD' : D' = d' * (t' * t')) (hd : b ≠ 0 → d ∈ sqfl) (hd' : b' ≠ 0 → d' ∈ sqfl) : oneP (A, B, C, D) (A', B', C', D') ↔ shr2 a b c d a' b' c' d' := by
  obtain ⟨c1, c2, c3, e1, e2⟩ := id hE
  obtain ⟨c1', c2', c3', e1', e2'⟩ := id hE'
  have z1 := hE.zero
  have z2 := hE'.zero
  unfold oneP shr2
  by_cases g1 : B = 0
  · exact ⟨fun h => absurd g1 h.1, fun h => absurd (z1.mp g1) h.1⟩
  by_cases g2 : B' = 0
  · exact ⟨fun h => absurd g2 h.2.1, fun h => absurd (z2.mp g2) h.2.1⟩
  have hb : b ≠ 0 := fun h => g1 (z1.mpr h)
  have hb' : b' ≠ 0 := fun h => g2 (z2.mpr h)
  have key := one_norm (a := a) (b := b) (c := c) (d := d) (a' := a') (b' := b') (c' := c') (d' := d') c2 c2' (hd hb) (hd' hb') hb hb'
  show (B ≠ 0 ∧ B' ≠ 0 ∧ (A * (A - C) - B * B * D) * C' = A' * ((A - C) * (A - C) - B * B * D) ∧ ((0 < -B * C ↔ 0 < (A - C) * (A - C) - B * B * D) ↔ 0 < B') ∧ -B * C * (-B * C) * D * C' * C' = B' * B' * D' * ((A - C) * (A - C) - B * B * D) * ((A - C) * (A - C) - B * B * D)) ↔ _
  -- from one form to the other
  have hUp : (A * (A - C) - B * B * D) * (c * c) = (a * (a - c) - b * b * d) * (C * C) := by
    subst hD
    have q1 : (A * (A - C)) * (c * c) = (a * (a - c)) * (C * C) := by
      have : (A * (A - C)) * (c * c) = (A * c) * (A * c - C * c) := by grind
      rw [this, e1]
      grind
    have q2 : (B * B * (d * (t * t))) * (c * c) = (b * b * d) * (C * C) := by
      have : (B * B * (d * (t * t))) * (c * c) = (B * t * c) * (B * t * c) * d := by grind
      rw [this, e2]
      grind
    rw [Int.sub_mul _ _ (c * c), Int.sub_mul _ _ (C * C), q1, q2]
  have hDn : ((A - C) * (A - C) - B * B * D) * (c * c) = ((a - c) * (a - c) - b * b * d) * (C * C) := by
    subst hD
    have q1 : ((A - C) * (A - C)) * (c * c) = ((a - c) * (a - c)) * (C * C) := by
      have : ((A - C) * (A - C)) * (c * c) = (A * c - C * c) * (A * c - C * c) := by grind
      rw [this, e1]
      grind
    have q2 : (B * B * (d * (t * t))) * (c * c) = (b * b * d) * (C * C) := by
      have : (B * B * (d * (t * t))) * (c * c) = (B * t * c) * (B * t * c) * d := by grind
      rw [this, e2]
      grind
    rw [Int.sub_mul _ _ (c * c), Int.sub_mul _ _ (C * C), q1, q2]
  have hM : (-B * C * (-B * C) * D) * (c * c * (c * c)) = (-b * c * (-b * c) * d) * (C * C * (C * C)) := by
    subst hD
    have : (-B * C * (-B * C) * (d * (t * t))) * (c * c * (c * c)) = (B * t * c) * (B * t * c) * d * (C * C) * (c * c) := by grind
    rw [this, e2]
    grind
  have hN : (B' * B' * D') * (c' * c') = (b' * b' * d') * (C' * C') := by
    subst hD'
    have : (B' * B' * (d' * (t' * t'))) * (c' * c') = (B' * t' * c') * (B' * t' * c') * d' := by grind
    rw [this, e2']
    grind
  have pcc := Int.mul_pos c2 c2
  have pCC := Int.mul_pos c1 c1
  have pcc' := Int.mul_pos c2' c2'
  have pCC' := Int.mul_pos c1' c1'
  have sB : 0 < B ↔ 0 < b := by
    rw [← pos_mul_iff (x := B) (Int.mul_pos c3 c2), show B * (t * c) = b * C by rw [← Int.mul_assoc]; exact e2, pos_mul_iff c1]
  have sB' : 0 < B' ↔ 0 < b' := by
    rw [← pos_mul_iff (x := B') (Int.mul_pos c3' c2'), show B' * (t' * c') = b' * C' by rw [← Int.mul_assoc]; exact e2', pos_mul_iff c1']
  have sM : 0 < -B * C ↔ 0 < -b * c := by
    rw [pos_mul_iff c1, pos_mul_iff c2]
    omega
  have sD : 0 < (A - C) * (A - C) - B * B * D ↔ 0 < (a - c) * (a - c) - b * b * d := by
    rw [← pos_mul_iff (x := (A - C) * (A - C) - B * B * D) pcc, hDn, pos_mul_iff pCC]
  generalize (A - C) * (A - C) - B * B * D = DN at *
  generalize A * (A - C) - B * B * D = UP at *
  generalize (a - c) * (a - c) - b * b * d = dn at *
  generalize a * (a - c) - b * b * d = up at *
  have k1 : UP * C' = A' * DN ↔ up * c' = a' * dn := by
    have l1 : (UP * C') * (c * c * c') = (up * c') * (C * C * C') := by grind
    have l2 : (A' * DN) * (c * c * c') = (a' * dn) * (C * C * C') := by
      have : (A' * DN) * (c * c * c') = (A' * c') * (DN * (c * c)) := by grind
      rw [this, e1', hDn]
      grind
    have p1 : c * c * c' ≠ 0 := by have := Int.mul_pos pcc c2'; omega
    have p2 : C * C * C' ≠ 0 := by have := Int.mul_pos pCC c1'; omega
    constructor
    · intro h
      rw [h, l2] at l1
      exact (Int.eq_of_mul_eq_mul_right p2 l1).symm
    · intro h
      rw [h, ← l2] at l1
      exact Int.eq_of_mul_eq_mul_right p1 l1
  have k3 : -B * C * (-B * C) * D * C' * C' = B' * B' * D' * DN * DN ↔ -b * c * (-b * c) * d * c' * c' = b' * b' * d' * dn * dn := by
    have l1 : (-B * C * (-B * C) * D * C' * C') * (c * c * (c * c) * (c' * c')) = (-b * c * (-b * c) * d * c' * c') * (C * C * (C * C) * (C' * C')) := by
      have : (-B * C * (-B * C) * D * C' * C') * (c * c * (c * c) * (c' * c')) = ((-B * C * (-B * C) * D) * (c * c * (c * c))) * (C' * C' * (c' * c')) := by grind
      rw [this, hM]
      grind
    have l2 : (B' * B' * D' * DN * DN) * (c * c * (c * c) * (c' * c')) = (b' * b' * d' * dn * dn) * (C * C * (C * C) * (C' * C')) := by
      have : (B' * B' * D' * DN * DN) * (c * c * (c * c) * (c' * c')) = ((B' * B' * D') * (c' * c')) * (DN * (c * c)) * (DN * (c * c)) := by grind
      rw [this, hN, hDn]
      grind
    have p1 : c * c * (c * c) * (c' * c') ≠ 0 := by have := Int.mul_pos (Int.mul_pos pcc pcc) pcc'; omega
    have p2 : C * C * (C * C) * (C' * C') ≠ 0 := by have := Int.mul_pos (Int.mul_pos pCC pCC) pCC'; omega
    constructor
    · intro h
      rw [h, l2] at l1
      exact (Int.eq_of_mul_eq_mul_right p2 l1).symm
    · intro h
      rw [h, ← l2] at l1
      exact Int.eq_of_mul_eq_mul_right p1 l1
  rw [k1, k3, sM, sD, sB']
  constructor
  · rintro ⟨-, -, h⟩
    exact ⟨hb, hb', key.mp h⟩
  · rintro ⟨-, -, h⟩
    exact ⟨g1, g2, key.mpr h⟩
/-! the numbers that are told -/
def cntw (W : Nat → Int) (i v : Nat) : Nat := if W i = (v : Int) then (if W (i + 1) = (v : Int) then 2 else 1) else 0
def idxw (W : Nat → Int) : Nat → Nat
  | 0 => 1
  | v + 1 => idxw W v + cntw W (idxw W v) v
def shrw (W V : Nat → Int) : Nat → Nat → Int
  | 0, _ => -2
  | j + 1, v => if cntw W (idxw W v) v + cntw V (idxw V v) v = 1 then shrw W V j (v + 1) else (v : Int)
theorem idxw_le {W : Nat → Int} : ∀ v, idxw W v ≤ 2 * v + 1
  | 0 => Nat.le_refl _
  | v + 1 => by
    have := idxw_le (W := W) v
    rw [idxw]
    unfold cntw
    split
    · split <;> omega
    · omega
theorem idxw_ge {W : Nat → Int} (h0 : ∀ i, 0 ≤ W i) (h1 : ∀ i, W i ≤ W (i + 1)) (h2 : ∀ i, W i + 1 ≤ W (i + 2)) : ∀ v : Nat, (v : Int) ≤ W (idxw W v)
  | 0 => h0 1
  | v + 1 => by
    have ih := idxw_ge h0 h1 h2 v
    rw [idxw]
    unfold cntw
    have a1 := h1 (idxw W v)
    have a2 := h2 (idxw W v)
    split
    · rename_i g
      split
      · have : idxw W v + 2 = idxw W v + 2 := rfl
        omega
      · rename_i g2
        omega
    · rename_i g
      show ((v + 1 : Nat) : Int) ≤ W (idxw W v)
      omega
noncomputable def WNn (l : SL4) (i : Nat) : Int := WN l i
noncomputable def p_share (S : ST5) (r s : Int) : Int := match slq S r with
  | none => -1
  | some l => match slq S s with
    | none => -1
    | some m => (haveI := Classical.propDecidable (oneP l m); if oneP l m then 0 else if sgn l (-1) 2 ≤ 0 ∨ sgn m (-1) 2 ≤ 0 then 1 else shrw (WNn l) (WNn m) 5000 1)
theorem WNn_ok {l : SL4} (hS : SL l.1 l.2.1 l.2.2.1 l.2.2.2) (hs : 0 < sgn l (-1) 2) : (∀ i, 0 ≤ WNn l i) ∧ (∀ i, WNn l i ≤ WNn l (i + 1)) ∧ (∀ i, WNn l i + 1 ≤ WNn l (i + 2)) ∧ (∀ i : Nat, WNn l i ≤ 20 * (i : Int)) := by
  have hd := hS.dpos
  have hc := hS.cpos
  refine ⟨fun i => ?_, fun i => ?_, fun i => ?_, fun i => ?_⟩
  · exact hS.w0 (N := (i : Int)) (by omega)
  · have := (EW_mono (u := 0) (v := 1) hS (by omega) (i : Int)).1
    rw [EW_01, EW_01] at this
    exact this
  · show WN l i + 1 ≤ WN l ((i + 2 : Nat) : Int)
    have h1 : nn (2 * l.1 + -1 * l.2.2.1) (2 * l.2.1) l.2.2.2 := (sg_nn hd).mp (by have : 0 < sg (2 * l.1 + -1 * l.2.2.1) (2 * l.2.1) l.2.2.2 := hs; omega)
    have h2 := (whl_iff (k := WN l i) hd (hS.hn (N := (i : Int))) hc).mpr (Int.le_refl _)
    have h3 := nn_add (by omega) h2 h1
    unfold WN
    rw [← whl_iff hd hS.hn hc]
    have e1 : l.1 * (i : Int) - WN l i * l.2.2.1 + (2 * l.1 + -1 * l.2.2.1) = l.1 * ((i + 2 : Nat) : Int) - (WN l i + 1) * l.2.2.1 := by
      rw [show ((i + 2 : Nat) : Int) = (i : Int) + 2 by omega]
      generalize WN l i = P
      grind
    have e2 : l.2.1 * (i : Int) + 2 * l.2.1 = l.2.1 * ((i + 2 : Nat) : Int) := by
      rw [show ((i + 2 : Nat) : Int) = (i : Int) + 2 by omega]
      grind
    rw [e1, e2] at h3
    exact h3
  · exact hS.w20 (N := (i : Int)) (by omega)
section SHC
variable {sc : en_S} {n : Nat} {XI : Nat → Int32} {XA : Nat → Nat → Int32} {XP : Nat → Nat → Option Nat} {XC : Value} {MI : Nat → Int32} {MA : Nat → Nat → Int32} {ML : Nat → Nat → Int64} {D : en_H}
theorem x_tellings {p : Nat} {l : SL4} (hs : SlO D p l) (hS : SL l.1 l.2.1 l.2.2.1 l.2.2.2) {i v : Nat} (hi : i ≤ 20000) (hv : v ≤ 5000) : f_X11_tellings sc (n + 6) (p + 51) (iO (i : Int)) (iO (v : Int)) (hp XI XA XP XC MI MA ML D) = some (some (.int (iO (cntw (WNn l) i v : Int))), hp XI XA XP XC MI MA ML D) := by
  have hw : ∀ N : Nat, N ≤ 30000 → f_X7_wholeOf sc (n + 5) (p + 51) (lO (N : Int)) (lO 0) (lO 1) (hp XI XA XP XC MI MA ML D) = some (some (.long (lO (WNn l N))), hp XI XA XP XC MI MA ML D) := fun N hN => x_whole0 (n := n + 1) hs hS (by omega) (by omega)
  have c3 := hs
  obtain ⟨a, b, c, d, t, qs, ls, k1, -⟩ := c3
  have gc : ∀ (g : Nat → Option en_R), en_cc (hp XI XA XP XC MI MA ML D) (p + 51) g = g 6 := fun g => d_cc k1 g
  have b0 : 0 ≤ WNn l i ∧ WNn l i ≤ 400000 := ⟨hS.w0 (N := (i : Int)) (by omega), by have : WNn l i ≤ 20 * (i : Int) := hS.w20 (N := (i : Int)) (by omega); omega⟩
  have b1 : 0 ≤ WNn l (i + 1) ∧ WNn l (i + 1) ≤ 400020 := ⟨hS.w0 (N := ((i + 1 : Nat) : Int)) (by omega), by have : WNn l (i + 1) ≤ 20 * ((i + 1 : Nat) : Int) := hS.w20 (N := ((i + 1 : Nat) : Int)) (by omega); omega⟩
  have h0 := hw i (by omega)
  have h1 := hw (i + 1) (by omega)
  rw [show ((i + 1 : Nat) : Int) = (i : Int) + 1 by omega] at h1
  rw [e_X11_tellings, eb_X11_tellings_1]
  unfold cntw
  generalize WNn l i = P at *
  generalize WNn l (i + 1) = Q at *
  have ez : (i : Int) + 0 = (i : Int) := by omega
  have z1 : (0 : Int) + 1 = 1 := rfl
  have z2 : (1 : Int) + 1 = 2 := rfl
  clear hw hs
  by_cases g1 : P = (v : Int)
  · rw [if_pos g1]
    by_cases g2 : Q = (v : Int)
    · rw [if_pos g2]
      simp (disch := (first | assumption | (unfold i32; omega) | (unfold i64; omega) | omega)) only [↓reduceIte, ki_0, ki_1, ki_2, ki_3, ki_4, ki_5, ki_6, ki_7, ki_8, ki_9, ki_10, ki_11, ki_12, ki_13, ki_14, ki_15, ki_20, ki_21, ki_30, ki_31, ki_40, ki_41, ki_50, ki_51, ki_60, ki_63, ki_64, ki_65, ki_100, ki_158, ki_160, ki_200, ki_212, ki_1000, ki_2000, ki_2001, ki_5000, ki_10000, ki_10001, ki_100000, ki_200000, ki_1000000, ki_2000000, ki_3000000, iO_neg, iO_add, iO_sub, iO_mul, kn_4, kn_8, kn_10, kn_20, kn_24, kn_40, kn_41, kn_50, kn_60, kn_158, kn_160, kn_200, kn_212, kn_2001, tn_lt, fn_lt, tn_le, fn_le, tn_eq, fn_eq, x_lt, x_le, x_eq, x_ix, x_nat, t_lt, f_lt, t_le, f_le, t_eq, f_eq, eq_self, and_self, true_and, and_true, false_and, and_false, if_true, if_false, Int.toNat_natCast, bI_s, bL_s, bA_s, bA_n, bV_s, mq_s, mq_n, en_le, bl_0, bl_1, u_eq, u_ne, w_eq, w_ne, v_eq, v_ne, ez, z1, z2, iO_wide, kl_0, kl_1, gc, h0, lc_lt, lc_le, lc_gt, lc_ge, lc_eq, y_lt, y_le, y_eq, eb_X11_tellings_1, h1]
      try rfl
    · rw [if_neg g2]
      simp (disch := (first | assumption | (unfold i32; omega) | (unfold i64; omega) | omega)) only [↓reduceIte, ki_0, ki_1, ki_2, ki_3, ki_4, ki_5, ki_6, ki_7, ki_8, ki_9, ki_10, ki_11, ki_12, ki_13, ki_14, ki_15, ki_20, ki_21, ki_30, ki_31, ki_40, ki_41, ki_50, ki_51, ki_60, ki_63, ki_64, ki_65, ki_100, ki_158, ki_160, ki_200, ki_212, ki_1000, ki_2000, ki_2001, ki_5000, ki_10000, ki_10001, ki_100000, ki_200000, ki_1000000, ki_2000000, ki_3000000, iO_neg, iO_add, iO_sub, iO_mul, kn_4, kn_8, kn_10, kn_20, kn_24, kn_40, kn_41, kn_50, kn_60, kn_158, kn_160, kn_200, kn_212, kn_2001, tn_lt, fn_lt, tn_le, fn_le, tn_eq, fn_eq, x_lt, x_le, x_eq, x_ix, x_nat, t_lt, f_lt, t_le, f_le, t_eq, f_eq, eq_self, and_self, true_and, and_true, false_and, and_false, if_true, if_false, Int.toNat_natCast, bI_s, bL_s, bA_s, bA_n, bV_s, mq_s, mq_n, en_le, bl_0, bl_1, u_eq, u_ne, w_eq, w_ne, v_eq, v_ne, ez, z1, z2, iO_wide, kl_0, kl_1, gc, h0, lc_lt, lc_le, lc_gt, lc_ge, lc_eq, y_lt, y_le, y_eq, eb_X11_tellings_1, h1]
      try rfl
  · rw [if_neg g1]
    simp (disch := (first | assumption | (unfold i32; omega) | (unfold i64; omega) | omega)) only [↓reduceIte, ki_0, ki_1, ki_2, ki_3, ki_4, ki_5, ki_6, ki_7, ki_8, ki_9, ki_10, ki_11, ki_12, ki_13, ki_14, ki_15, ki_20, ki_21, ki_30, ki_31, ki_40, ki_41, ki_50, ki_51, ki_60, ki_63, ki_64, ki_65, ki_100, ki_158, ki_160, ki_200, ki_212, ki_1000, ki_2000, ki_2001, ki_5000, ki_10000, ki_10001, ki_100000, ki_200000, ki_1000000, ki_2000000, ki_3000000, iO_neg, iO_add, iO_sub, iO_mul, kn_4, kn_8, kn_10, kn_20, kn_24, kn_40, kn_41, kn_50, kn_60, kn_158, kn_160, kn_200, kn_212, kn_2001, tn_lt, fn_lt, tn_le, fn_le, tn_eq, fn_eq, x_lt, x_le, x_eq, x_ix, x_nat, t_lt, f_lt, t_le, f_le, t_eq, f_eq, eq_self, and_self, true_and, and_true, false_and, and_false, if_true, if_false, Int.toNat_natCast, bI_s, bL_s, bA_s, bA_n, bV_s, mq_s, mq_n, en_le, bl_0, bl_1, u_eq, u_ne, w_eq, w_ne, v_eq, v_ne, ez, z1, z2, iO_wide, kl_0, kl_1, gc, h0, lc_lt, lc_le, lc_gt, lc_ge, lc_eq, y_lt, y_le, y_eq]
    try rfl
theorem x_unshared3 {p q : Nat} {l m : SL4} (hs : SlO D p l) (hS : SL l.1 l.2.1 l.2.2.1 l.2.2.2) (hs' : SlO D q m) (hS' : SL m.1 m.2.1 m.2.2.1 m.2.2.2) : ∀ (j v : Nat), v + j = 5001 → b_X11_unshared_3 sc (n + 6) (p + 51) (q + 51) (iO (idxw (WNn l) v : Int)) (iO (idxw (WNn m) v : Int)) (iO (v : Int)) (hp XI XA XP XC MI MA ML D) = some (some (.int (iO (if v = 0 then shrw (WNn l) (WNn m) (j - 1) 1 else shrw (WNn l) (WNn m) j v))), hp XI XA XP XC MI MA ML D) := by
  intro j
  induction j with
  | zero =>
    intro v hv
    rw [eb_X11_unshared_3, if_neg (show ¬ v = 0 by omega), shrw]
    simp (disch := (first | assumption | (unfold i32; omega) | (unfold i64; omega) | omega)) only [↓reduceIte, ki_0, ki_1, ki_2, ki_3, ki_4, ki_5, ki_6, ki_7, ki_8, ki_9, ki_10, ki_11, ki_12, ki_13, ki_14, ki_15, ki_20, ki_21, ki_30, ki_31, ki_40, ki_41, ki_50, ki_51, ki_60, ki_63, ki_64, ki_65, ki_100, ki_158, ki_160, ki_200, ki_212, ki_1000, ki_2000, ki_2001, ki_5000, ki_10000, ki_10001, ki_100000, ki_200000, ki_1000000, ki_2000000, ki_3000000, iO_neg, iO_add, iO_sub, iO_mul, kn_4, kn_8, kn_10, kn_20, kn_24, kn_40, kn_41, kn_50, kn_60, kn_158, kn_160, kn_200, kn_212, kn_2001, tn_lt, fn_lt, tn_le, fn_le, tn_eq, fn_eq, x_lt, x_le, x_eq, x_ix, x_nat, t_lt, f_lt, t_le, f_le, t_eq, f_eq, eq_self, and_self, true_and, and_true, false_and, and_false, if_true, if_false, Int.toNat_natCast, bI_s, bL_s, bA_s, bA_n, bV_s, mq_s, mq_n, en_le, bl_0, bl_1, u_eq, u_ne, w_eq, w_ne, v_eq, v_ne]
  | succ j ih =>
    intro v hv
    have i1 := idxw_le (W := WNn l) v
    have i2 := idxw_le (W := WNn m) v
    have t1 := x_tellings (sc := sc) (n := n) (XI := XI) (XA := XA) (XP := XP) (XC := XC) (MI := MI) (MA := MA) (ML := ML) hs hS (i := idxw (WNn l) v) (v := v) (by omega) (by omega)
    have t2 := x_tellings (sc := sc) (n := n) (XI := XI) (XA := XA) (XP := XP) (XC := XC) (MI := MI) (MA := MA) (ML := ML) hs' hS' (i := idxw (WNn m) v) (v := v) (by omega) (by omega)
    have ih' := ih (v + 1) (by omega)
    rw [if_neg (show ¬ v + 1 = 0 by omega), idxw, idxw] at ih'
    have c1 : cntw (WNn l) (idxw (WNn l) v) v ≤ 2 := by unfold cntw; split <;> (try split) <;> omega
    have c2 : cntw (WNn m) (idxw (WNn m) v) v ≤ 2 := by unfold cntw; split <;> (try split) <;> omega
    rw [eb_X11_unshared_3]
    by_cases g0 : v = 0
    · rw [if_pos g0]
      subst g0
      rw [show j + 1 - 1 = j by omega, ← ih']
      generalize cntw (WNn l) (idxw (WNn l) 0) 0 = C1 at *
      generalize cntw (WNn m) (idxw (WNn m) 0) 0 = C2 at *
      generalize idxw (WNn l) 0 = I1 at *
      generalize idxw (WNn m) 0 = I2 at *
      clear ih ih' hs hs'
      have t1 : f_X11_tellings sc (n + 6) (p + 51) (iO (I1 : Int)) (iO 0) (hp XI XA XP XC MI MA ML D) = _ := t1
      have t2 : f_X11_tellings sc (n + 6) (q + 51) (iO (I2 : Int)) (iO 0) (hp XI XA XP XC MI MA ML D) = _ := t2
      have e0 : ((0 : Nat) : Int) = 0 := rfl
      simp (disch := (first | assumption | (unfold i32; omega) | (unfold i64; omega) | omega)) only [↓reduceIte, ki_0, ki_1, ki_2, ki_3, ki_4, ki_5, ki_6, ki_7, ki_8, ki_9, ki_10, ki_11, ki_12, ki_13, ki_14, ki_15, ki_20, ki_21, ki_30, ki_31, ki_40, ki_41, ki_50, ki_51, ki_60, ki_63, ki_64, ki_65, ki_100, ki_158, ki_160, ki_200, ki_212, ki_1000, ki_2000, ki_2001, ki_5000, ki_10000, ki_10001, ki_100000, ki_200000, ki_1000000, ki_2000000, ki_3000000, iO_neg, iO_add, iO_sub, iO_mul, kn_4, kn_8, kn_10, kn_20, kn_24, kn_40, kn_41, kn_50, kn_60, kn_158, kn_160, kn_200, kn_212, kn_2001, tn_lt, fn_lt, tn_le, fn_le, tn_eq, fn_eq, x_lt, x_le, x_eq, x_ix, x_nat, t_lt, f_lt, t_le, f_le, t_eq, f_eq, eq_self, and_self, true_and, and_true, false_and, and_false, if_true, if_false, Int.toNat_natCast, bI_s, bL_s, bA_s, bA_n, bV_s, mq_s, mq_n, en_le, bl_0, bl_1, u_eq, u_ne, w_eq, w_ne, v_eq, v_ne, e0, t1, t2, eb_X11_unshared_4]
      try rfl
    · rw [if_neg g0, shrw]
      generalize hC1 : cntw (WNn l) (idxw (WNn l) v) v = C1 at *
      generalize hC2 : cntw (WNn m) (idxw (WNn m) v) v = C2 at *
      generalize idxw (WNn l) v = I1 at *
      generalize idxw (WNn m) v = I2 at *
      by_cases g1 : C1 + C2 = 1
      · rw [if_pos g1, ← ih']
        clear ih ih' hs hs' hC1 hC2
        simp (disch := (first | assumption | (unfold i32; omega) | (unfold i64; omega) | omega)) only [↓reduceIte, ki_0, ki_1, ki_2, ki_3, ki_4, ki_5, ki_6, ki_7, ki_8, ki_9, ki_10, ki_11, ki_12, ki_13, ki_14, ki_15, ki_20, ki_21, ki_30, ki_31, ki_40, ki_41, ki_50, ki_51, ki_60, ki_63, ki_64, ki_65, ki_100, ki_158, ki_160, ki_200, ki_212, ki_1000, ki_2000, ki_2001, ki_5000, ki_10000, ki_10001, ki_100000, ki_200000, ki_1000000, ki_2000000, ki_3000000, iO_neg, iO_add, iO_sub, iO_mul, kn_4, kn_8, kn_10, kn_20, kn_24, kn_40, kn_41, kn_50, kn_60, kn_158, kn_160, kn_200, kn_212, kn_2001, tn_lt, fn_lt, tn_le, fn_le, tn_eq, fn_eq, x_lt, x_le, x_eq, x_ix, x_nat, t_lt, f_lt, t_le, f_le, t_eq, f_eq, eq_self, and_self, true_and, and_true, false_and, and_false, if_true, if_false, Int.toNat_natCast, bI_s, bL_s, bA_s, bA_n, bV_s, mq_s, mq_n, en_le, bl_0, bl_1, u_eq, u_ne, w_eq, w_ne, v_eq, v_ne, t1, t2, eb_X11_unshared_4]
        try rfl
      · rw [if_neg g1]
        clear ih ih' hs hs' hC1 hC2
        simp (disch := (first | assumption | (unfold i32; omega) | (unfold i64; omega) | omega)) only [↓reduceIte, ki_0, ki_1, ki_2, ki_3, ki_4, ki_5, ki_6, ki_7, ki_8, ki_9, ki_10, ki_11, ki_12, ki_13, ki_14, ki_15, ki_20, ki_21, ki_30, ki_31, ki_40, ki_41, ki_50, ki_51, ki_60, ki_63, ki_64, ki_65, ki_100, ki_158, ki_160, ki_200, ki_212, ki_1000, ki_2000, ki_2001, ki_5000, ki_10000, ki_10001, ki_100000, ki_200000, ki_1000000, ki_2000000, ki_3000000, iO_neg, iO_add, iO_sub, iO_mul, kn_4, kn_8, kn_10, kn_20, kn_24, kn_40, kn_41, kn_50, kn_60, kn_158, kn_160, kn_200, kn_212, kn_2001, tn_lt, fn_lt, tn_le, fn_le, tn_eq, fn_eq, x_lt, x_le, x_eq, x_ix, x_nat, t_lt, f_lt, t_le, f_le, t_eq, f_eq, eq_self, and_self, true_and, and_true, false_and, and_false, if_true, if_false, Int.toNat_natCast, bI_s, bL_s, bA_s, bA_n, bV_s, mq_s, mq_n, en_le, bl_0, bl_1, u_eq, u_ne, w_eq, w_ne, v_eq, v_ne, t1, t2]
theorem x_sharesWith {p q : Nat} {l m : SL4} (hs : SlO D p l) (hs' : SlO D q m) : ∃ w : Int, (w = 1 ↔ oneP l m) ∧ (w = 0 ∨ w = 1) ∧ f_X7_sharesWith sc (n + 1) (p + 51) (q + 51) (hp XI XA XP XC MI MA ML D) = some (some (.int (iO w)), hp XI XA XP XC MI MA ML D) := by
  obtain ⟨a, b, c, d, t, qs, ls, k1, k2, k3, hC, hE, hD, hsq, -⟩ := hs
  obtain ⟨a', b', c', d', t', qs', ls', k1', k2', k3', hC', hE', hD', hsq', -⟩ := hs'
  have key := one_iff hE hD hE' hD' hsq hsq'
  have g4 : ∀ (f : Int64 → Option en_R), en_gL (hp XI XA XP XC MI MA ML D) (p + 51) [(6, 0)] 4 f = f (lO a) := fun f => d_gL k1 rfl rfl f
  have g5 : ∀ (f : Int64 → Option en_R), en_gL (hp XI XA XP XC MI MA ML D) (p + 51) [(6, 0)] 5 f = f (lO b) := fun f => d_gL k1 rfl rfl f
  have g6 : ∀ (f : Int64 → Option en_R), en_gL (hp XI XA XP XC MI MA ML D) (p + 51) [(6, 0)] 6 f = f (lO c) := fun f => d_gL k1 rfl rfl f
  have g7 : ∀ (f : Int64 → Option en_R), en_gL (hp XI XA XP XC MI MA ML D) (p + 51) [(6, 0)] 7 f = f (lO d) := fun f => d_gL k1 rfl rfl f
  have h4 : ∀ (f : Int64 → Option en_R), en_gL (hp XI XA XP XC MI MA ML D) (q + 51) [(6, 0)] 4 f = f (lO a') := fun f => d_gL k1' rfl rfl f
  have h5 : ∀ (f : Int64 → Option en_R), en_gL (hp XI XA XP XC MI MA ML D) (q + 51) [(6, 0)] 5 f = f (lO b') := fun f => d_gL k1' rfl rfl f
  have h6 : ∀ (f : Int64 → Option en_R), en_gL (hp XI XA XP XC MI MA ML D) (q + 51) [(6, 0)] 6 f = f (lO c') := fun f => d_gL k1' rfl rfl f
  have h7 : ∀ (f : Int64 → Option en_R), en_gL (hp XI XA XP XC MI MA ML D) (q + 51) [(6, 0)] 7 f = f (lO d') := fun f => d_gL k1' rfl rfl f
  obtain ⟨x1, x2, x3, x4, x5, x6, x7, x8, x9, -⟩ := id hC
  obtain ⟨y1, y2, y3, y4, y5, y6, y7, y8, y9, -⟩ := id hC'
  have pr : ∀ (x y : Int), -2000 ≤ x → x ≤ 2000 → -2000 ≤ y → y ≤ 2000 → -12000000 ≤ x * y ∧ x * y ≤ 12000000 := by
    intro x y a1 a2 a3 a4
    have := mul_bd (x := x) (y := y + 2000) (a := 2000) (b := 4000) (by omega) (by omega) (by omega) (by omega)
    rw [Int.mul_add] at this
    omega
  have m1 := pr (a - c) (a' - c') (by omega) (by omega) (by omega) (by omega)
  have m2 := pr b b' (by omega) (by omega) (by omega) (by omega)
  have m3 := mul_bd (x := b * b') (y := d) (a := 12000000) (b := 50) (by omega) (by omega) (by omega) (by omega)
  have m4 := pr c c' (by omega) (by omega) (by omega) (by omega)
  have m5 := pr (a - c) b' (by omega) (by omega) (by omega) (by omega)
  have m6 := pr (a' - c') b (by omega) (by omega) (by omega) (by omega)
  rw [e_X7_sharesWith]
  unfold shr2 at key
  have key : oneP l m ↔ _ := key
  by_cases q1 : b = 0
  · refine ⟨0, ⟨fun h => by omega, fun h => absurd q1 (key.mp h).1⟩, Or.inl rfl, ?_⟩
    simp (disch := (first | assumption | (unfold i32; omega) | (unfold i64; omega) | omega)) only [↓reduceIte, ki_0, ki_1, ki_2, ki_3, ki_4, ki_5, ki_6, ki_7, ki_8, ki_9, ki_10, ki_11, ki_12, ki_13, ki_14, ki_15, ki_20, ki_21, ki_30, ki_31, ki_40, ki_41, ki_50, ki_51, ki_60, ki_63, ki_64, ki_65, ki_100, ki_158, ki_160, ki_200, ki_212, ki_1000, ki_2000, ki_2001, ki_5000, ki_10000, ki_10001, ki_100000, ki_200000, ki_1000000, ki_2000000, ki_3000000, iO_neg, iO_add, iO_sub, iO_mul, kn_4, kn_8, kn_10, kn_20, kn_24, kn_40, kn_41, kn_50, kn_60, kn_158, kn_160, kn_200, kn_212, kn_2001, tn_lt, fn_lt, tn_le, fn_le, tn_eq, fn_eq, x_lt, x_le, x_eq, x_ix, x_nat, t_lt, f_lt, t_le, f_le, t_eq, f_eq, eq_self, and_self, true_and, and_true, false_and, and_false, if_true, if_false, Int.toNat_natCast, bI_s, bL_s, bA_s, bA_n, bV_s, mq_s, mq_n, en_le, bl_0, bl_1, u_eq, u_ne, w_eq, w_ne, v_eq, v_ne, g5, kl_0, lc_lt, lc_le, lc_gt, lc_ge, lc_eq, y_lt, y_le, y_eq]
  by_cases q2 : b' = 0
  · refine ⟨0, ⟨fun h => by omega, fun h => absurd q2 (key.mp h).2.1⟩, Or.inl rfl, ?_⟩
    simp (disch := (first | assumption | (unfold i32; omega) | (unfold i64; omega) | omega)) only [↓reduceIte, ki_0, ki_1, ki_2, ki_3, ki_4, ki_5, ki_6, ki_7, ki_8, ki_9, ki_10, ki_11, ki_12, ki_13, ki_14, ki_15, ki_20, ki_21, ki_30, ki_31, ki_40, ki_41, ki_50, ki_51, ki_60, ki_63, ki_64, ki_65, ki_100, ki_158, ki_160, ki_200, ki_212, ki_1000, ki_2000, ki_2001, ki_5000, ki_10000, ki_10001, ki_100000, ki_200000, ki_1000000, ki_2000000, ki_3000000, iO_neg, iO_add, iO_sub, iO_mul, kn_4, kn_8, kn_10, kn_20, kn_24, kn_40, kn_41, kn_50, kn_60, kn_158, kn_160, kn_200, kn_212, kn_2001, tn_lt, fn_lt, tn_le, fn_le, tn_eq, fn_eq, x_lt, x_le, x_eq, x_ix, x_nat, t_lt, f_lt, t_le, f_le, t_eq, f_eq, eq_self, and_self, true_and, and_true, false_and, and_false, if_true, if_false, Int.toNat_natCast, bI_s, bL_s, bA_s, bA_n, bV_s, mq_s, mq_n, en_le, bl_0, bl_1, u_eq, u_ne, w_eq, w_ne, v_eq, v_ne, g5, h5, kl_0, lc_lt, lc_le, lc_gt, lc_ge, lc_eq, y_lt, y_le, y_eq]
  by_cases q3 : d = d'
  · by_cases q4 : (a - c) * (a' - c') + b * b' * d = c * c'
    · by_cases q5 : (a - c) * b' + (a' - c') * b = 0
      · refine ⟨1, ⟨fun _ => key.mpr ⟨q1, q2, q3, q4, q5⟩, fun _ => rfl⟩, Or.inr rfl, ?_⟩
        simp (disch := (first | assumption | (unfold i32; omega) | (unfold i64; omega) | omega)) only [↓reduceIte, ki_0, ki_1, ki_2, ki_3, ki_4, ki_5, ki_6, ki_7, ki_8, ki_9, ki_10, ki_11, ki_12, ki_13, ki_14, ki_15, ki_20, ki_21, ki_30, ki_31, ki_40, ki_41, ki_50, ki_51, ki_60, ki_63, ki_64, ki_65, ki_100, ki_158, ki_160, ki_200, ki_212, ki_1000, ki_2000, ki_2001, ki_5000, ki_10000, ki_10001, ki_100000, ki_200000, ki_1000000, ki_2000000, ki_3000000, iO_neg, iO_add, iO_sub, iO_mul, kn_4, kn_8, kn_10, kn_20, kn_24, kn_40, kn_41, kn_50, kn_60, kn_158, kn_160, kn_200, kn_212, kn_2001, tn_lt, fn_lt, tn_le, fn_le, tn_eq, fn_eq, x_lt, x_le, x_eq, x_ix, x_nat, t_lt, f_lt, t_le, f_le, t_eq, f_eq, eq_self, and_self, true_and, and_true, false_and, and_false, if_true, if_false, Int.toNat_natCast, bI_s, bL_s, bA_s, bA_n, bV_s, mq_s, mq_n, en_le, bl_0, bl_1, u_eq, u_ne, w_eq, w_ne, v_eq, v_ne, g4, g5, g6, g7, h4, h5, h6, h7, kl_0, lO_sub, lO_mul, lO_add, lc_lt, lc_le, lc_gt, lc_ge, lc_eq, y_lt, y_le, y_eq]
      · refine ⟨0, ⟨fun h => by omega, fun h => absurd (key.mp h).2.2.2.2 q5⟩, Or.inl rfl, ?_⟩
        simp (disch := (first | assumption | (unfold i32; omega) | (unfold i64; omega) | omega)) only [↓reduceIte, ki_0, ki_1, ki_2, ki_3, ki_4, ki_5, ki_6, ki_7, ki_8, ki_9, ki_10, ki_11, ki_12, ki_13, ki_14, ki_15, ki_20, ki_21, ki_30, ki_31, ki_40, ki_41, ki_50, ki_51, ki_60, ki_63, ki_64, ki_65, ki_100, ki_158, ki_160, ki_200, ki_212, ki_1000, ki_2000, ki_2001, ki_5000, ki_10000, ki_10001, ki_100000, ki_200000, ki_1000000, ki_2000000, ki_3000000, iO_neg, iO_add, iO_sub, iO_mul, kn_4, kn_8, kn_10, kn_20, kn_24, kn_40, kn_41, kn_50, kn_60, kn_158, kn_160, kn_200, kn_212, kn_2001, tn_lt, fn_lt, tn_le, fn_le, tn_eq, fn_eq, x_lt, x_le, x_eq, x_ix, x_nat, t_lt, f_lt, t_le, f_le, t_eq, f_eq, eq_self, and_self, true_and, and_true, false_and, and_false, if_true, if_false, Int.toNat_natCast, bI_s, bL_s, bA_s, bA_n, bV_s, mq_s, mq_n, en_le, bl_0, bl_1, u_eq, u_ne, w_eq, w_ne, v_eq, v_ne, g4, g5, g6, g7, h4, h5, h6, h7, kl_0, lO_sub, lO_mul, lO_add, lc_lt, lc_le, lc_gt, lc_ge, lc_eq, y_lt, y_le, y_eq]
    · refine ⟨0, ⟨fun h => by omega, fun h => absurd (key.mp h).2.2.2.1 q4⟩, Or.inl rfl, ?_⟩
      simp (disch := (first | assumption | (unfold i32; omega) | (unfold i64; omega) | omega)) only [↓reduceIte, ki_0, ki_1, ki_2, ki_3, ki_4, ki_5, ki_6, ki_7, ki_8, ki_9, ki_10, ki_11, ki_12, ki_13, ki_14, ki_15, ki_20, ki_21, ki_30, ki_31, ki_40, ki_41, ki_50, ki_51, ki_60, ki_63, ki_64, ki_65, ki_100, ki_158, ki_160, ki_200, ki_212, ki_1000, ki_2000, ki_2001, ki_5000, ki_10000, ki_10001, ki_100000, ki_200000, ki_1000000, ki_2000000, ki_3000000, iO_neg, iO_add, iO_sub, iO_mul, kn_4, kn_8, kn_10, kn_20, kn_24, kn_40, kn_41, kn_50, kn_60, kn_158, kn_160, kn_200, kn_212, kn_2001, tn_lt, fn_lt, tn_le, fn_le, tn_eq, fn_eq, x_lt, x_le, x_eq, x_ix, x_nat, t_lt, f_lt, t_le, f_le, t_eq, f_eq, eq_self, and_self, true_and, and_true, false_and, and_false, if_true, if_false, Int.toNat_natCast, bI_s, bL_s, bA_s, bA_n, bV_s, mq_s, mq_n, en_le, bl_0, bl_1, u_eq, u_ne, w_eq, w_ne, v_eq, v_ne, g4, g5, g6, g7, h4, h5, h6, h7, kl_0, lO_sub, lO_mul, lO_add, lc_lt, lc_le, lc_gt, lc_ge, lc_eq, y_lt, y_le, y_eq]
  · refine ⟨0, ⟨fun h => by omega, fun h => absurd (key.mp h).2.2.1 q3⟩, Or.inl rfl, ?_⟩
    simp (disch := (first | assumption | (unfold i32; omega) | (unfold i64; omega) | omega)) only [↓reduceIte, ki_0, ki_1, ki_2, ki_3, ki_4, ki_5, ki_6, ki_7, ki_8, ki_9, ki_10, ki_11, ki_12, ki_13, ki_14, ki_15, ki_20, ki_21, ki_30, ki_31, ki_40, ki_41, ki_50, ki_51, ki_60, ki_63, ki_64, ki_65, ki_100, ki_158, ki_160, ki_200, ki_212, ki_1000, ki_2000, ki_2001, ki_5000, ki_10000, ki_10001, ki_100000, ki_200000, ki_1000000, ki_2000000, ki_3000000, iO_neg, iO_add, iO_sub, iO_mul, kn_4, kn_8, kn_10, kn_20, kn_24, kn_40, kn_41, kn_50, kn_60, kn_158, kn_160, kn_200, kn_212, kn_2001, tn_lt, fn_lt, tn_le, fn_le, tn_eq, fn_eq, x_lt, x_le, x_eq, x_ix, x_nat, t_lt, f_lt, t_le, f_le, t_eq, f_eq, eq_self, and_self, true_and, and_true, false_and, and_false, if_true, if_false, Int.toNat_natCast, bI_s, bL_s, bA_s, bA_n, bV_s, mq_s, mq_n, en_le, bl_0, bl_1, u_eq, u_ne, w_eq, w_ne, v_eq, v_ne, g5, h5, g7, h7, kl_0, lc_lt, lc_le, lc_gt, lc_ge, lc_eq, y_lt, y_le, y_eq]
end SHC
section SHS
variable {sc : en_S} {n : Nat} {S : ST5}
theorem cs_share (hS : OK5 S) {r s : Int} (hr : i32 r) (hs : i32 s) : CS S S (p_share S r s) (fun z => f_X11_share sc (n + 40) 1 (iO r) (iO s) z) := by
  apply cs_ask
  intro XI XA XP XC MI MA ML D Γ hV
  show f_X11_share sc (n + 40) 1 (iO r) (iO s) _ = _
  rw [e_X11_share]
  unfold p_share
  cases hq : slq S r with
  | none =>
    have h1 := x_slopeAt0 (sc := sc) (n := n + 38) (XC := XC) (MI := MI) (MA := MA) (ML := ML) hV hS hr hq
    cases hq2 : slq S s with
    | none =>
      have h2 := x_slopeAt0 (sc := sc) (n := n + 38) (XC := XC) (MI := MI) (MA := MA) (ML := ML) hV hS hs hq2
      clear hV
      simp (disch := (first | assumption | (unfold i32; omega) | (unfold i64; omega) | omega)) only [↓reduceIte, ki_0, ki_1, ki_2, ki_3, ki_4, ki_5, ki_6, ki_7, ki_8, ki_9, ki_10, ki_11, ki_12, ki_13, ki_14, ki_15, ki_20, ki_21, ki_30, ki_31, ki_40, ki_41, ki_50, ki_51, ki_60, ki_63, ki_64, ki_65, ki_100, ki_158, ki_160, ki_200, ki_212, ki_1000, ki_2000, ki_2001, ki_5000, ki_10000, ki_10001, ki_100000, ki_200000, ki_1000000, ki_2000000, ki_3000000, iO_neg, iO_add, iO_sub, iO_mul, kn_4, kn_8, kn_10, kn_20, kn_24, kn_40, kn_41, kn_50, kn_60, kn_158, kn_160, kn_200, kn_212, kn_2001, tn_lt, fn_lt, tn_le, fn_le, tn_eq, fn_eq, x_lt, x_le, x_eq, x_ix, x_nat, t_lt, f_lt, t_le, f_le, t_eq, f_eq, eq_self, and_self, true_and, and_true, false_and, and_false, if_true, if_false, Int.toNat_natCast, bI_s, bL_s, bA_s, bA_n, bV_s, mq_s, mq_n, en_le, bl_0, bl_1, u_eq, u_ne, w_eq, w_ne, v_eq, v_ne, ↓hp_cc_1, ↓hp_g_1_0, ↓hp_g_1_1, ↓hp_g_1_2, ↓hp_g_1_3, ↓hp_g_1_4, ↓hp_g_1_5, ↓hp_g_1_6, ↓hp_g_1_7, ↓hp_g_1_8, ↓hp_p_1_8, ↓hp_g_1_9, ↓hp_p_1_9, ↓hp_g_1_10, ↓hp_p_1_10, ↓hp_a_2, ↓hp_n_2, ↓hp_a_3, ↓hp_n_3, ↓hp_a_4, h1, h2]
    | some m =>
      obtain ⟨k', rfl, hk', hq2'⟩ := slq_some hq2
      obtain ⟨p', c1', c2'⟩ := hV.2.2.2.2.1 k' m hq2'
      have h2 := x_slopeAt1 (sc := sc) (n := n + 38) (XC := XC) (MI := MI) (MA := MA) (ML := ML) hV hS hq2' c1'
      clear hV
      simp (disch := (first | assumption | (unfold i32; omega) | (unfold i64; omega) | omega)) only [↓reduceIte, ki_0, ki_1, ki_2, ki_3, ki_4, ki_5, ki_6, ki_7, ki_8, ki_9, ki_10, ki_11, ki_12, ki_13, ki_14, ki_15, ki_20, ki_21, ki_30, ki_31, ki_40, ki_41, ki_50, ki_51, ki_60, ki_63, ki_64, ki_65, ki_100, ki_158, ki_160, ki_200, ki_212, ki_1000, ki_2000, ki_2001, ki_5000, ki_10000, ki_10001, ki_100000, ki_200000, ki_1000000, ki_2000000, ki_3000000, iO_neg, iO_add, iO_sub, iO_mul, kn_4, kn_8, kn_10, kn_20, kn_24, kn_40, kn_41, kn_50, kn_60, kn_158, kn_160, kn_200, kn_212, kn_2001, tn_lt, fn_lt, tn_le, fn_le, tn_eq, fn_eq, x_lt, x_le, x_eq, x_ix, x_nat, t_lt, f_lt, t_le, f_le, t_eq, f_eq, eq_self, and_self, true_and, and_true, false_and, and_false, if_true, if_false, Int.toNat_natCast, bI_s, bL_s, bA_s, bA_n, bV_s, mq_s, mq_n, en_le, bl_0, bl_1, u_eq, u_ne, w_eq, w_ne, v_eq, v_ne, ↓hp_cc_1, ↓hp_g_1_0, ↓hp_g_1_1, ↓hp_g_1_2, ↓hp_g_1_3, ↓hp_g_1_4, ↓hp_g_1_5, ↓hp_g_1_6, ↓hp_g_1_7, ↓hp_g_1_8, ↓hp_p_1_8, ↓hp_g_1_9, ↓hp_p_1_9, ↓hp_g_1_10, ↓hp_p_1_10, ↓hp_a_2, ↓hp_n_2, ↓hp_a_3, ↓hp_n_3, ↓hp_a_4, h1, h2]
  | some l =>
    obtain ⟨k, rfl, hk, hq1'⟩ := slq_some hq
    obtain ⟨p, c1, c2⟩ := hV.2.2.2.2.1 k l hq1'
    have h1 := x_slopeAt1 (sc := sc) (n := n + 38) (XC := XC) (MI := MI) (MA := MA) (ML := ML) hV hS hq1' c1
    cases hq2 : slq S s with
    | none =>
      have h2 := x_slopeAt0 (sc := sc) (n := n + 38) (XC := XC) (MI := MI) (MA := MA) (ML := ML) hV hS hs hq2
      clear hV
      simp (disch := (first | assumption | (unfold i32; omega) | (unfold i64; omega) | omega)) only [↓reduceIte, ki_0, ki_1, ki_2, ki_3, ki_4, ki_5, ki_6, ki_7, ki_8, ki_9, ki_10, ki_11, ki_12, ki_13, ki_14, ki_15, ki_20, ki_21, ki_30, ki_31, ki_40, ki_41, ki_50, ki_51, ki_60, ki_63, ki_64, ki_65, ki_100, ki_158, ki_160, ki_200, ki_212, ki_1000, ki_2000, ki_2001, ki_5000, ki_10000, ki_10001, ki_100000, ki_200000, ki_1000000, ki_2000000, ki_3000000, iO_neg, iO_add, iO_sub, iO_mul, kn_4, kn_8, kn_10, kn_20, kn_24, kn_40, kn_41, kn_50, kn_60, kn_158, kn_160, kn_200, kn_212, kn_2001, tn_lt, fn_lt, tn_le, fn_le, tn_eq, fn_eq, x_lt, x_le, x_eq, x_ix, x_nat, t_lt, f_lt, t_le, f_le, t_eq, f_eq, eq_self, and_self, true_and, and_true, false_and, and_false, if_true, if_false, Int.toNat_natCast, bI_s, bL_s, bA_s, bA_n, bV_s, mq_s, mq_n, en_le, bl_0, bl_1, u_eq, u_ne, w_eq, w_ne, v_eq, v_ne, ↓hp_cc_1, ↓hp_g_1_0, ↓hp_g_1_1, ↓hp_g_1_2, ↓hp_g_1_3, ↓hp_g_1_4, ↓hp_g_1_5, ↓hp_g_1_6, ↓hp_g_1_7, ↓hp_g_1_8, ↓hp_p_1_8, ↓hp_g_1_9, ↓hp_p_1_9, ↓hp_g_1_10, ↓hp_p_1_10, ↓hp_a_2, ↓hp_n_2, ↓hp_a_3, ↓hp_n_3, ↓hp_a_4, h1, h2]
    | some m =>
      obtain ⟨k', rfl, hk', hq2'⟩ := slq_some hq2
      obtain ⟨p', c1', c2'⟩ := hV.2.2.2.2.1 k' m hq2'
      have h2 := x_slopeAt1 (sc := sc) (n := n + 38) (XC := XC) (MI := MI) (MA := MA) (ML := ML) hV hS hq2' c1'
      have hSl := hS.2.2.1 l (List.mem_of_getElem? hq1')
      have hSm := hS.2.2.1 m (List.mem_of_getElem? hq2')
      obtain ⟨w, w1, w2, w3⟩ := x_sharesWith (sc := sc) (n := n + 38) (XI := XI) (XA := XA) (XP := XP) (XC := XC) (MI := MI) (MA := MA) (ML := ML) c2 c2'
      have d2 := c2
      obtain ⟨a, b, c, d, t, qs, ls, k1, -⟩ := d2
      have d2' := c2'
      obtain ⟨a', b', c', d', t', qs', ls', k1', -⟩ := d2'
      have gc : ∀ (g : Nat → Option en_R), en_cc (hp XI XA XP XC MI MA ML D) (p + 51) g = g 6 := fun g => d_cc k1 g
      have gc' : ∀ (g : Nat → Option en_R), en_cc (hp XI XA XP XC MI MA ML D) (p' + 51) g = g 6 := fun g => d_cc k1' g
      have s1 := x_sum (sc := sc) (n := n + 36) (XI := XI) (XA := XA) (XP := XP) (XC := XC) (MI := MI) (MA := MA) (ML := ML) c2 (x := -1) (y := 2) (by omega) (by omega) (by omega) (by omega)
      have s2 := x_sum (sc := sc) (n := n + 36) (XI := XI) (XA := XA) (XP := XP) (XC := XC) (MI := MI) (MA := MA) (ML := ML) c2' (x := -1) (y := 2) (by omega) (by omega) (by omega) (by omega)
      have s1 : f_X7_signOfSum sc (n + 38) (p + 51) (-1) 2 (hp XI XA XP XC MI MA ML D) = some (some (.int (iO (sgn l (-1) 2))), hp XI XA XP XC MI MA ML D) := s1
      have s2 : f_X7_signOfSum sc (n + 38) (p' + 51) (-1) 2 (hp XI XA XP XC MI MA ML D) = some (some (.int (iO (sgn m (-1) 2))), hp XI XA XP XC MI MA ML D) := s2
      have u3 := x_unshared3 (sc := sc) (n := n + 32) (XI := XI) (XA := XA) (XP := XP) (XC := XC) (MI := MI) (MA := MA) (ML := ML) c2 hSl c2' hSm 5001 0 (by omega)
      rw [if_pos rfl] at u3
      have u3 : b_X11_unshared_3 sc (n + 38) (p + 51) (p' + 51) 1 1 0 (hp XI XA XP XC MI MA ML D) = some (some (.int (iO (shrw (WNn l) (WNn m) 5000 1))), hp XI XA XP XC MI MA ML D) := u3
      have r1 : sgn l (-1) 2 = -1 ∨ sgn l (-1) 2 = 0 ∨ sgn l (-1) 2 = 1 := sg_range _ _ _
      have r2 : sgn m (-1) 2 = -1 ∨ sgn m (-1) 2 = 0 ∨ sgn m (-1) 2 = 1 := sg_range _ _ _
      dsimp only
      generalize sgn l (-1) 2 = P at *
      generalize sgn m (-1) 2 = Q at *
      generalize shrw (WNn l) (WNn m) 5000 1 = R at *
      clear hV c2 c2' k1 k1'
      rcases w2 with e | e
      · rw [if_neg (show ¬ oneP l m from fun h => by have := w1.mpr h; omega)]
        rw [e] at w3
        have hun : f_X11_unshared sc (n + 39) (p + 51) (p' + 51) (hp XI XA XP XC MI MA ML D) = some (some (.int (iO (if P ≤ 0 ∨ Q ≤ 0 then 1 else R))), hp XI XA XP XC MI MA ML D) := by
          rw [e_X11_unshared, gc, if_pos rfl, s1, bI_s]
          by_cases g1 : P ≤ 0
          · rw [if_pos (show iO P ≤ 0 from ple (a := P) (b := 0) (by unfold i32; omega) (by unfold i32; omega) g1), if_pos (Or.inl g1)]
            rfl
          · rw [if_neg (show ¬ iO P ≤ 0 from nle (a := P) (b := 0) (by unfold i32; omega) (by unfold i32; omega) (by omega)), gc', if_pos rfl, s2, bI_s]
            by_cases g2 : Q ≤ 0
            · rw [if_neg (show ¬ 0 < iO Q from nlt (a := 0) (b := Q) (by unfold i32; omega) (by unfold i32; omega) (by omega)), if_pos (Or.inr g2)]
              rfl
            · rw [if_pos (show 0 < iO Q from plt (a := 0) (b := Q) (by unfold i32; omega) (by unfold i32; omega) (by omega)), if_neg (by omega), u3]
        clear w1 r1 r2
        simp (disch := (first | assumption | (unfold i32; omega) | (unfold i64; omega) | omega)) only [↓reduceIte, ki_0, ki_1, ki_2, ki_3, ki_4, ki_5, ki_6, ki_7, ki_8, ki_9, ki_10, ki_11, ki_12, ki_13, ki_14, ki_15, ki_20, ki_21, ki_30, ki_31, ki_40, ki_41, ki_50, ki_51, ki_60, ki_63, ki_64, ki_65, ki_100, ki_158, ki_160, ki_200, ki_212, ki_1000, ki_2000, ki_2001, ki_5000, ki_10000, ki_10001, ki_100000, ki_200000, ki_1000000, ki_2000000, ki_3000000, iO_neg, iO_add, iO_sub, iO_mul, kn_4, kn_8, kn_10, kn_20, kn_24, kn_40, kn_41, kn_50, kn_60, kn_158, kn_160, kn_200, kn_212, kn_2001, tn_lt, fn_lt, tn_le, fn_le, tn_eq, fn_eq, x_lt, x_le, x_eq, x_ix, x_nat, t_lt, f_lt, t_le, f_le, t_eq, f_eq, eq_self, and_self, true_and, and_true, false_and, and_false, if_true, if_false, Int.toNat_natCast, bI_s, bL_s, bA_s, bA_n, bV_s, mq_s, mq_n, en_le, bl_0, bl_1, u_eq, u_ne, w_eq, w_ne, v_eq, v_ne, ↓hp_cc_1, ↓hp_g_1_0, ↓hp_g_1_1, ↓hp_g_1_2, ↓hp_g_1_3, ↓hp_g_1_4, ↓hp_g_1_5, ↓hp_g_1_6, ↓hp_g_1_7, ↓hp_g_1_8, ↓hp_p_1_8, ↓hp_g_1_9, ↓hp_p_1_9, ↓hp_g_1_10, ↓hp_p_1_10, ↓hp_a_2, ↓hp_n_2, ↓hp_a_3, ↓hp_n_3, ↓hp_a_4, h1, h2, gc, w3, hun]
      · rw [if_pos (w1.mp e)]
        rw [e] at w3
        clear w1 r1 r2
        simp (disch := (first | assumption | (unfold i32; omega) | (unfold i64; omega) | omega)) only [↓reduceIte, ki_0, ki_1, ki_2, ki_3, ki_4, ki_5, ki_6, ki_7, ki_8, ki_9, ki_10, ki_11, ki_12, ki_13, ki_14, ki_15, ki_20, ki_21, ki_30, ki_31, ki_40, ki_41, ki_50, ki_51, ki_60, ki_63, ki_64, ki_65, ki_100, ki_158, ki_160, ki_200, ki_212, ki_1000, ki_2000, ki_2001, ki_5000, ki_10000, ki_10001, ki_100000, ki_200000, ki_1000000, ki_2000000, ki_3000000, iO_neg, iO_add, iO_sub, iO_mul, kn_4, kn_8, kn_10, kn_20, kn_24, kn_40, kn_41, kn_50, kn_60, kn_158, kn_160, kn_200, kn_212, kn_2001, tn_lt, fn_lt, tn_le, fn_le, tn_eq, fn_eq, x_lt, x_le, x_eq, x_ix, x_nat, t_lt, f_lt, t_le, f_le, t_eq, f_eq, eq_self, and_self, true_and, and_true, false_and, and_false, if_true, if_false, Int.toNat_natCast, bI_s, bL_s, bA_s, bA_n, bV_s, mq_s, mq_n, en_le, bl_0, bl_1, u_eq, u_ne, w_eq, w_ne, v_eq, v_ne, ↓hp_cc_1, ↓hp_g_1_0, ↓hp_g_1_1, ↓hp_g_1_2, ↓hp_g_1_3, ↓hp_g_1_4, ↓hp_g_1_5, ↓hp_g_1_6, ↓hp_g_1_7, ↓hp_g_1_8, ↓hp_p_1_8, ↓hp_g_1_9, ↓hp_p_1_9, ↓hp_g_1_10, ↓hp_p_1_10, ↓hp_a_2, ↓hp_n_2, ↓hp_a_3, ↓hp_n_3, ↓hp_a_4, h1, h2, gc, w3]
end SHS
