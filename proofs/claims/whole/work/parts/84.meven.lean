/-! EVEN or not: the model's answer -/
theorem ssum_b {f : Nat → Int} {a : Nat} : ∀ (k : Nat), (∀ i, i < a + k → 0 ≤ f i ∧ f i ≤ 100) → 0 ≤ ssum f a k ∧ ssum f a k ≤ 100 * (k : Int) := by
  intro k
  induction k with
  | zero => intro _; exact ⟨Int.le_refl _, Int.le_refl _⟩
  | succ k ih =>
    intro h
    obtain ⟨b1, b2⟩ := ih (fun i hi => h i (by omega))
    obtain ⟨b3, b4⟩ := h (a + k) (by omega)
    have e : ssum f a (k + 1) = ssum f a k + f (a + k) := rfl
    rw [e]
    omega
theorem cl3_pos {t : Nat → Nat → Int} {k a : Nat} {c : Int} : ∀ (j b : Nat), cl3 t k a j b = some c → 0 ≤ c := by
  intro j
  induction j with
  | zero => intro b h; exact absurd h (by unfold cl3; exact fun h => nomatch h)
  | succ j ih =>
    intro b h
    rw [cl3] at h
    split at h
    · have := Option.some.inj h
      omega
    · exact ih _ h
theorem cl2_pos {t : Nat → Nat → Int} {n k : Nat} {c : Int} : ∀ (j a : Nat), cl2 t n k j a = some c → 0 ≤ c := by
  intro j
  induction j with
  | zero => intro b h; exact absurd h (by unfold cl2; exact fun h => nomatch h)
  | succ j ih =>
    intro b h
    rw [cl2] at h
    split at h
    · rename_i c' hc
      have := Option.some.inj h
      have := cl3_pos _ _ hc
      omega
    · exact ih _ h
theorem cl1_pos {t : Nat → Nat → Int} {n : Nat} {c : Int} : ∀ (j k : Nat), cl1 t n j k = some c → 0 ≤ c := by
  intro j
  induction j with
  | zero => intro b h; exact absurd h (by unfold cl1; exact fun h => nomatch h)
  | succ j ih =>
    intro b h
    rw [cl1] at h
    split at h
    · rename_i c' hc
      have := Option.some.inj h
      have := cl2_pos _ _ hc
      omega
    · exact ih _ h
