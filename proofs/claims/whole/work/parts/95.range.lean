/-! range: fractions in lowest terms; the least and the greatest -/
theorem cross3 {A B C a b c : Int} (hb : 0 < b) (ha : 0 ≤ a) (hc : 0 ≤ c) (h1 : A * b ≤ B * a) (h2 : B * c ≤ C * b) : A * c ≤ C * a := by
  have k1 : A * b * c ≤ B * a * c := Int.mul_le_mul_of_nonneg_right h1 hc
  have k2 : B * c * a ≤ C * b * a := Int.mul_le_mul_of_nonneg_right h2 ha
  have e1 : A * b * c = A * c * b := by rw [Int.mul_assoc, Int.mul_comm b c, ← Int.mul_assoc]
  have e2 : B * a * c = B * c * a := by rw [Int.mul_assoc, Int.mul_comm a c, ← Int.mul_assoc]
  have e3 : C * b * a = C * a * b := by rw [Int.mul_assoc, Int.mul_comm b a, ← Int.mul_assoc]
  exact Int.le_of_mul_le_mul_right (a := b) (by omega) hb
/-- u / d is the greatest of (t - 1) / k -/
def LW (t : Nat → Nat → Int) (Q : Nat → Nat → Prop) (u d : Int) : Prop := (∃ a k, Q a k ∧ u = t a k - 1 ∧ d = (k : Int)) ∧ ∀ a k, Q a k → (t a k - 1) * d ≤ u * (k : Int)
def HG (t : Nat → Nat → Int) (Q : Nat → Nat → Prop) (x y : Int) : Prop := LW (fun a k => -t a k) Q (-x) y
theorem LW.cg {t : Nat → Nat → Int} {Q Q' : Nat → Nat → Prop} {u d : Int} (h : LW t Q u d) (hq : ∀ a k, Q a k ↔ Q' a k) : LW t Q' u d := by
  obtain ⟨⟨a, k, h1, h2⟩, h3⟩ := h
  exact ⟨⟨a, k, (hq a k).mp h1, h2⟩, fun a k h => h3 a k ((hq a k).mpr h)⟩
theorem LW.one {t : Nat → Nat → Int} {N : Nat → Nat → Prop} {a0 k0 : Nat} (hN : N a0 k0) (hmax : ∀ a k, N a k → (t a k - 1) * (k0 : Int) ≤ (t a0 k0 - 1) * (k : Int)) : LW t N (t a0 k0 - 1) k0 := ⟨⟨a0, k0, hN, rfl, rfl⟩, hmax⟩
theorem LW.up {t : Nat → Nat → Int} {Q N : Nat → Nat → Prop} {u d : Int} {a0 k0 : Nat} (h : LW t Q u d) (hN : N a0 k0) (hmax : ∀ a k, N a k → (t a k - 1) * (k0 : Int) ≤ (t a0 k0 - 1) * (k : Int)) (hq : ∀ a k, Q a k → 1 ≤ k) (hg : u * (k0 : Int) < (t a0 k0 - 1) * d) : LW t (fun a k => Q a k ∨ N a k) (t a0 k0 - 1) k0 := by
  obtain ⟨⟨a, k, h1, h2, h3⟩, h4⟩ := h
  refine ⟨⟨a0, k0, Or.inr hN, rfl, rfl⟩, ?_⟩
  intro a' k' h'
  rcases h' with h' | h'
  · have hd : 0 < d := by have := hq a k h1; omega
    exact cross3 hd (by omega) (by omega) (h4 a' k' h') (by omega)
  · exact hmax a' k' h'
theorem LW.keep {t : Nat → Nat → Int} {Q N : Nat → Nat → Prop} {u d : Int} {a0 k0 : Nat} (h : LW t Q u d) (hk0 : 1 ≤ k0) (hmax : ∀ a k, N a k → (t a k - 1) * (k0 : Int) ≤ (t a0 k0 - 1) * (k : Int)) (hd0 : 0 ≤ d) (hg : (t a0 k0 - 1) * d ≤ u * (k0 : Int)) : LW t (fun a k => Q a k ∨ N a k) u d := by
  obtain ⟨⟨a, k, h1, h2, h3⟩, h4⟩ := h
  refine ⟨⟨a, k, Or.inl h1, h2, h3⟩, ?_⟩
  intro a' k' h'
  rcases h' with h' | h'
  · exact h4 a' k' h'
  · exact cross3 (show (0 : Int) < (k0 : Int) by omega) (by omega) hd0 (hmax a' k' h') hg
theorem LW.eq {t : Nat → Nat → Int} {Q : Nat → Nat → Prop} {u d u' d' : Int} (h : LW t Q u d) (h' : LW t Q u' d') : u * d' = u' * d := by
  obtain ⟨⟨a, k, h1, h2, h3⟩, h4⟩ := h
  obtain ⟨⟨a', k', h1', h2', h3'⟩, h4'⟩ := h'
  have e1 := h4 a' k' h1'
  have e2 := h4' a k h1
  rw [← h2', ← h3'] at e1
  rw [← h2, ← h3] at e2
  omega
/-- fractions in lowest terms -/
theorem frac_eq {u u' : Int} {d d' : Nat} (hd : 0 < d) (hd' : 0 < d') (h : u * (d' : Int) = u' * (d : Int)) : u / (Int.gcd u d : Nat) = u' / (Int.gcd u' d' : Nat) ∧ (d : Int) / (Int.gcd u d : Nat) = (d' : Int) / (Int.gcd u' d' : Nat) := by
  have g1 : 0 < Int.gcd u d := Int.gcd_pos_of_ne_zero_right u (by omega)
  have g2 : 0 < Int.gcd u' d' := Int.gcd_pos_of_ne_zero_right u' (by omega)
  have c1 : u / (Int.gcd u d : Nat) * (Int.gcd u d : Nat) = u := Int.ediv_mul_cancel (Int.gcd_dvd_left u d)
  have c2 : (d : Int) / (Int.gcd u d : Nat) * (Int.gcd u d : Nat) = d := Int.ediv_mul_cancel (Int.gcd_dvd_right u d)
  have c3 : u' / (Int.gcd u' d' : Nat) * (Int.gcd u' d' : Nat) = u' := Int.ediv_mul_cancel (Int.gcd_dvd_left u' d')
  have c4 : (d' : Int) / (Int.gcd u' d' : Nat) * (Int.gcd u' d' : Nat) = d' := Int.ediv_mul_cancel (Int.gcd_dvd_right u' d')
  have q1 := Int.gcd_ediv_gcd_ediv_gcd g1
  have q2 := Int.gcd_ediv_gcd_ediv_gcd g2
  generalize hG : Int.gcd u d = G at *
  generalize hG' : Int.gcd u' d' = G' at *
  have p1 : 0 < (d : Int) / (G : Nat) := by
    rcases Int.lt_or_le 0 ((d : Int) / (G : Nat)) with g | g
    · exact g
    · have := Int.mul_le_mul_of_nonneg_right g (show (0 : Int) ≤ (G : Nat) by omega)
      omega
  have p2 : 0 < (d' : Int) / (G' : Nat) := by
    rcases Int.lt_or_le 0 ((d' : Int) / (G' : Nat)) with g | g
    · exact g
    · have := Int.mul_le_mul_of_nonneg_right g (show (0 : Int) ≤ (G' : Nat) by omega)
      omega
  obtain ⟨b, hb⟩ : ∃ b : Nat, (d : Int) / (G : Nat) = b := ⟨((d : Int) / (G : Nat)).toNat, by omega⟩
  obtain ⟨b', hb'⟩ : ∃ b' : Nat, (d' : Int) / (G' : Nat) = b' := ⟨((d' : Int) / (G' : Nat)).toNat, by omega⟩
  rw [hb] at c2 q1 p1 ⊢
  rw [hb'] at c4 q2 p2 ⊢
  generalize u / (G : Nat) = x at *
  generalize u' / (G' : Nat) = x' at *
  have hx : x * (b' : Int) = x' * (b : Int) := by
    have e : x * (b' : Int) * ((G : Int) * (G' : Int)) = x' * (b : Int) * ((G : Int) * (G' : Int)) := by
      have h2 := h
      rw [← c1, ← c2, ← c3, ← c4] at h2
      grind
    exact Int.eq_of_mul_eq_mul_right (by have := Int.mul_pos (show (0 : Int) < (G : Int) by omega) (show (0 : Int) < (G' : Int) by omega); omega) e
  have hn : x.natAbs * b' = x'.natAbs * b := by
    have := congrArg Int.natAbs hx
    rw [Int.natAbs_mul, Int.natAbs_mul, Int.natAbs_natCast, Int.natAbs_natCast] at this
    exact this
  have k1 : Nat.Coprime x.natAbs b := q1
  have k2 : Nat.Coprime x'.natAbs b' := q2
  have d1 : b ∣ b' := k1.symm.dvd_of_dvd_mul_left ⟨x'.natAbs, by rw [hn, Nat.mul_comm]⟩
  have d2 : b' ∣ b := k2.symm.dvd_of_dvd_mul_left ⟨x.natAbs, by rw [← hn, Nat.mul_comm]⟩
  have hbb : b = b' := Nat.dvd_antisymm d1 d2
  subst hbb
  exact ⟨Int.eq_of_mul_eq_mul_right (by omega) hx, rfl⟩
/-- what range answers -/
def rans (u d x y w : Int) : Int := if u * y < x * d then (if w = 0 then u / (Int.gcd u d : Nat) else if w = 1 then d / (Int.gcd u d : Nat) else if w = 2 then x / (Int.gcd x y : Nat) else y / (Int.gcd x y : Nat)) else -1000000
theorem rans_eq {u d x y u' d' x' y' : Int} (hd : 0 < d) (hd' : 0 < d') (hy : 0 < y) (hy' : 0 < y') (h1 : u * d' = u' * d) (h2 : x * y' = x' * y) (w : Int) : rans u d x y w = rans u' d' x' y' w := by
  obtain ⟨D, rfl⟩ : ∃ D : Nat, d = D := ⟨d.toNat, by omega⟩
  obtain ⟨D', rfl⟩ : ∃ D' : Nat, d' = D' := ⟨d'.toNat, by omega⟩
  obtain ⟨Y, rfl⟩ : ∃ Y : Nat, y = Y := ⟨y.toNat, by omega⟩
  obtain ⟨Y', rfl⟩ : ∃ Y' : Nat, y' = Y' := ⟨y'.toNat, by omega⟩
  obtain ⟨a1, a2⟩ := frac_eq (by omega) (by omega) h1
  obtain ⟨a3, a4⟩ := frac_eq (by omega) (by omega) h2
  have hc : u * (Y : Int) < x * (D : Int) ↔ u' * (Y' : Int) < x' * (D' : Int) := by
    have e1 : u * (Y : Int) * ((D' : Int) * (Y' : Int)) = u' * (Y' : Int) * ((D : Int) * (Y : Int)) := by grind
    have e2 : x * (D : Int) * ((D' : Int) * (Y' : Int)) = x' * (D' : Int) * ((D : Int) * (Y : Int)) := by grind
    have m1 := Int.mul_pos hd' hy'
    have m2 := Int.mul_pos hd hy
    rw [← Int.mul_lt_mul_right m1, e1, e2, Int.mul_lt_mul_right m2]
  unfold rans
  rw [a1, a2, a3, a4]
  by_cases g : u * (Y : Int) < x * (D : Int)
  · rw [if_pos g, if_pos (hc.mp g)]
  · rw [if_neg g, if_neg (fun q => g (hc.mpr q))]
/-- all stretches within -/
def allp (n : Nat) (a k : Nat) : Prop := 1 ≤ k ∧ a + k ≤ n
noncomputable def rng (t : Nat → Nat → Int) (n : Nat) (w : Int) : Int := @dite Int (∃ q : Int × Int × Int × Int, LW t (allp n) q.1 q.2.1 ∧ HG t (allp n) q.2.2.1 q.2.2.2) (Classical.propDecidable _) (fun h => rans (Classical.choose h).1 (Classical.choose h).2.1 (Classical.choose h).2.2.1 (Classical.choose h).2.2.2 w) (fun _ => 0)
theorem LW.pos {t : Nat → Nat → Int} {Q : Nat → Nat → Prop} {u d : Int} (h : LW t Q u d) (hq : ∀ a k, Q a k → 1 ≤ k) : 0 < d := by
  obtain ⟨⟨a, k, h1, h2, h3⟩, h4⟩ := h
  have := hq a k h1
  omega
theorem rng_eq {t : Nat → Nat → Int} {n : Nat} {u d x y : Int} (h1 : LW t (allp n) u d) (h2 : HG t (allp n) x y) (w : Int) : rng t n w = rans u d x y w := by
  have h : ∃ q : Int × Int × Int × Int, LW t (allp n) q.1 q.2.1 ∧ HG t (allp n) q.2.2.1 q.2.2.2 := ⟨(u, d, x, y), h1, h2⟩
  unfold rng
  rw [dif_pos h]
  obtain ⟨k1, k2⟩ := Classical.choose_spec h
  have hp : ∀ a k, allp n a k → 1 ≤ k := fun a k h => h.1
  refine rans_eq (k1.pos hp) (h1.pos hp) (LW.pos k2 hp) (LW.pos h2 hp) (k1.eq h1) ?_ w
  have := LW.eq k2 h2
  rw [Int.neg_mul, Int.neg_mul] at this
  omega
noncomputable def p_range (S : ST5) (r a m w : Int) : Int := match rowq S r with
  | none => -1000000
  | some q => if 0 ≤ w ∧ w ≤ 3 ∧ 1 ≤ m ∧ m ≤ 40 ∧ 0 ≤ a ∧ a + m ≤ (q.2.2.1 : Nat) then rng (fun x k => ssum q.2.2.2 (a.toNat + x) k) m.toNat w else -1000000
/-- those that stand before (a, k) in the model's order -/
def bef (n a k : Nat) (a' k' : Nat) : Prop := 1 ≤ k' ∧ a' + k' ≤ n ∧ (a' < a ∨ (a' = a ∧ k' < k))
theorem LW.bd {t : Nat → Nat → Int} {Q : Nat → Nat → Prop} {u d B K : Int} (h : LW t Q u d) (hq : ∀ a k, Q a k → 1 ≤ k ∧ (k : Int) ≤ K ∧ -B ≤ t a k ∧ t a k ≤ B) : -B - 1 ≤ u ∧ u ≤ B ∧ 1 ≤ d ∧ d ≤ K := by
  obtain ⟨⟨a, k, h1, h2, h3⟩, h4⟩ := h
  have := hq a k h1
  omega
