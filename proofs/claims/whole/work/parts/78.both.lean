/-! BOTH SIDES of a call, as the law has them -/
/-- class and model hold the same state -/
def INV (S : ST5) (z : en_H) (D : en_H) : Prop := ∃ (XI : Nat → Int32) (XA : Nat → Nat → Int32) (XP : Nat → Nat → Option Nat) (XC : Value) (MI : Nat → Int32) (MA : Nat → Nat → Int32) (ML : Nat → Nat → Int64) (Γ : Nat → Option GD), z = hp XI XA XP XC MI MA ML D ∧ CV S Γ XI XA XP D ∧ MV S MI MA ∧ PV MI MA ∧ OK5 S
theorem call_int {S S' : ST5} {a : Int} {F G : en_H → Option en_R} (hC : CS S S' a F) (hM : MC S S' a G) (hO : OK5 S') {z D : en_H} (hI : INV S z D) : ∃ (z1 z2 D' : en_H), F z = some (some (.int (iO a)), z1) ∧ G z1 = some (some (.int (iO a)), z2) ∧ INV S' z2 D' ∧ GR D D' ∧ (∀ g : Nat → Option en_R, en_cc z1 26 g = g 11) := by
  obtain ⟨XI, XA, XP, XC, MI, MA, ML, Γ, rfl, hV, hMV, hPV, hS⟩ := hI
  obtain ⟨XI', XA', XP', XC', D', Γ', c1, c2, c3⟩ := hC XI XA XP XC MI MA ML D Γ hV
  obtain ⟨MI', MA', ML', m1, m2, m3⟩ := hM XI' XA' XP' XC' MI MA ML D' hMV hPV
  exact ⟨_, _, D', c1, m1, ⟨XI', XA', XP', XC', MI', MA', ML', Γ', rfl, c2, m2, m3, hO⟩, c3, fun g => hp_cc_26 (ρ := en_R) XI' XA' XP' XC' MI MA ML D' g⟩
theorem INV.c1 {S : ST5} {z D : en_H} (h : INV S z D) (g : Nat → Option en_R) : en_cc z 1 g = g 10 := by
  obtain ⟨XI, XA, XP, XC, MI, MA, ML, Γ, rfl, -⟩ := h
  rfl
theorem INV.c26 {S : ST5} {z D : en_H} (h : INV S z D) (g : Nat → Option en_R) : en_cc z 26 g = g 11 := by
  obtain ⟨XI, XA, XP, XC, MI, MA, ML, Γ, rfl, -⟩ := h
  rfl
theorem INV.ok {S : ST5} {z D : en_H} (h : INV S z D) : OK5 S := by
  obtain ⟨XI, XA, XP, XC, MI, MA, ML, Γ, -, -, -, -, h⟩ := h
  exact h
/-- the room that a heap takes -/
theorem INV.room {S : ST5} {z D : en_H} (h : INV S z D) : z.length = 50 + D.length ∧ en_sz z ≤ 110000 + en_sz D := by
  obtain ⟨XI, XA, XP, XC, MI, MA, ML, Γ, rfl, -⟩ := h
  constructor
  · simp [hp]; omega
  · simp [hp, en_sz, en_s0]; omega
