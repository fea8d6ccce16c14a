/-! A SLOPE's object is made: the whole of it -/
abbrev Of (v0 v1 v2 v3 : Value) (a b c d : Int64) : List Value := [v0, v1, v2, v3, .long a, .long b, .long c, .long d]
theorem nsq_ne {d : Int} (h : nsq d) (k : Int) : k * k ≠ d := by
  obtain ⟨m, h0, h1, h2⟩ := h
  intro e
  have sk : ∃ j : Int, 0 ≤ j ∧ j * j = k * k := by
    rcases Int.lt_or_le k 0 with g | g
    · exact ⟨-k, by omega, sq_neg k⟩
    · exact ⟨k, by omega, rfl⟩
  obtain ⟨j, j0, j1⟩ := sk
  have a1 : m < j := rt_lt j0 (by omega)
  have a2 : j < m + 1 := rt_lt (by omega) (by omega)
  omega
/-- lowest terms, and a root that no square divides -/
theorem norm_ok {A B C E : Int} (hS : SL A B C E) : ∃ t g a b c d : Int, 0 < t ∧ t ≤ 7 ∧ 1 ≤ g ∧ t = (if B = 0 then 1 else sqn 7 E) ∧ g = ((Int.gcd (Int.gcd A (B * t) : Nat) C : Nat) : Int) ∧ A = a * g ∧ B * t = b * g ∧ C = c * g ∧ d = (if B = 0 then 2 else E / (t * t)) ∧ E = d * (t * t) ∧ CL a b c d ∧ EQN A B C t a b c ∧ (b ≠ 0 → d ∈ sqfl) ∧ (b = 0 → c = C / (Int.gcd A C : Nat)) ∧ (B ≠ 0 → E.tdiv (t * t) = d) := by
  obtain ⟨a1, a2, b1, b2, c1, c2, d1, d2, hns, hb0, -⟩ := id hS
  have ht : ∃ t : Int, t = (if B = 0 then 1 else sqn 7 E) ∧ 0 < t ∧ t ≤ 7 ∧ E = (if B = 0 then 2 else E / (t * t)) * (t * t) ∧ (B ≠ 0 → (if B = 0 then 2 else E / (t * t)) ∈ sqfl) := by
    by_cases hb : B = 0
    · refine ⟨1, by rw [if_pos hb], by omega, by omega, ?_, fun h => absurd hb h⟩
      rw [if_pos hb, hb0 hb]; rfl
    · refine ⟨sqn 7 E, by rw [if_neg hb], ?_⟩
      obtain ⟨x, rfl⟩ : ∃ x : Nat, E = x := ⟨E.toNat, by omega⟩
      obtain ⟨⟨e1, e2, e3⟩, e4⟩ := sqn_d x (by omega) (by omega)
      rw [if_neg hb]
      refine ⟨by omega, e2, e3, fun _ => e4 (fun k hk h => ?_)⟩
      apply nsq_ne (hns hb) (k : Int)
      rw [← h]
      exact (Int.natCast_mul k k).symm
  obtain ⟨t, t0, t1, t2, t3, t4⟩ := ht
  generalize hd : (if B = 0 then 2 else E / (t * t)) = d at *
  have tt := Int.mul_pos t1 t1
  have g1 : ((Int.gcd (Int.gcd A (B * t) : Nat) C : Nat) : Int) ∣ ((Int.gcd A (B * t) : Nat) : Int) := Int.gcd_dvd_left _ _
  have g2 : ((Int.gcd (Int.gcd A (B * t) : Nat) C : Nat) : Int) ∣ C := Int.gcd_dvd_right _ _
  have g3 : ((Int.gcd A (B * t) : Nat) : Int) ∣ A := Int.gcd_dvd_left _ _
  have g4 : ((Int.gcd A (B * t) : Nat) : Int) ∣ B * t := Int.gcd_dvd_right _ _
  obtain ⟨a, ha⟩ := Int.dvd_trans g1 g3
  obtain ⟨b, hb⟩ := Int.dvd_trans g1 g4
  obtain ⟨c, hc⟩ := g2
  have hg : 1 ≤ ((Int.gcd (Int.gcd A (B * t) : Nat) C : Nat) : Int) := by
    rcases Nat.eq_zero_or_pos (Int.gcd (Int.gcd A (B * t) : Nat) C) with h | h
    · rw [h] at hc
      have : C = 0 := by rw [hc]; exact Int.zero_mul _
      omega
    · omega
  have hgc : B = 0 → ((Int.gcd (Int.gcd A (B * t) : Nat) C : Nat) : Int) = ((Int.gcd A C : Nat) : Int) := by
    intro h
    subst h
    rw [Int.zero_mul, Int.gcd_zero]
    rfl
  generalize hG : ((Int.gcd (Int.gcd A (B * t) : Nat) C : Nat) : Int) = g at *
  have ba := dv_bd hg ha (K := 1000) (by omega) (by omega)
  have hBt := mul_bd (x := B) (y := t) (a := 20) (b := 7) (by omega) (by omega) (by omega) t2
  have bb := dv_bd hg hb (K := 140) (by omega) (by omega)
  have bc := dv_bd hg hc (K := 100) (by omega) (by omega)
  have hc1 : 1 ≤ c := by
    rcases Int.lt_or_le c 1 with q | q
    · exfalso
      have := Int.mul_nonneg (a := g) (b := -c) (by omega) (by omega)
      rw [Int.mul_neg] at this
      omega
    · exact q
  have hbz : b ≠ 0 → B ≠ 0 := fun h h2 => h (by
    rw [h2, Int.zero_mul] at hb
    rcases Int.mul_eq_zero.mp hb.symm with q | q <;> omega)
  have hd2 : 2 ≤ d ∧ d ≤ 50 := by
    by_cases hB : B = 0
    · rw [if_pos hB] at hd; omega
    · have := sqfl_ok d (t4 hB); omega
  refine ⟨t, g, a, b, c, d, t1, t2, hg, t0, hG.symm, by rw [ha, Int.mul_comm], by rw [hb, Int.mul_comm], by rw [hc, Int.mul_comm], hd.symm, t3, ⟨by omega, by omega, by omega, by omega, hc1, by omega, by omega, by omega, ?_, ?_⟩, ⟨by omega, by omega, t1, ?_, ?_⟩, fun h => t4 (hbz h), ?_, ?_⟩
  · have e1 : b * b * d * (g * g) = B * B * E := by rw [t3]; grind
    have e2 := sq_bd (x := B) (K := 20) (by omega) (by omega)
    have e3 := mul_le_mul' (a := B * B) (b := 400) (c := E) (d := 50) (by omega) (by omega) (by omega) d2
    have e4 : 0 ≤ b * b * d := Int.mul_nonneg (sq_nn b) (by omega)
    have e5 := mul_le_mul' (a := 1) (b := g) (c := 1) (d := g) (by omega) hg (by omega) hg
    have e6 := mul_le_mul' (a := b * b * d) (b := b * b * d) (c := 1) (d := g * g) e4 (by omega) (by omega) (by omega)
    omega
  · intro h
    exact sqfl_nsq d (t4 (hbz h))
  · rw [ha, hc]; grind
  · rw [hb, hc]; grind
  · intro h
    have hB : B = 0 := by
      rw [h, Int.mul_zero] at hb
      rcases Int.mul_eq_zero.mp hb with q | q <;> omega
    rw [← hgc hB, hc, Int.mul_ediv_cancel_left _ (by omega)]
  · intro _
    conv => lhs; rw [t3]
    exact Int.mul_tdiv_cancel _ (by omega)
section IN2
variable {sc : en_S} {n : Nat} {XI : Nat → Int32} {XA : Nat → Nat → Int32} {XP : Nat → Nat → Option Nat} {XC : Value} {MI : Nat → Int32} {MA : Nat → Nat → Int32} {ML : Nat → Nat → Int64} {D : en_H}
theorem x_init4 {s : SL4} (hS : SL s.1 s.2.1 s.2.2.1 s.2.2.2) {a b c d t : Int} (hC : CL a b c d) (hE : EQN s.1 s.2.1 s.2.2.1 t a b c) (hD : s.2.2.2 = d * (t * t)) : ∃ g1 g3, b_X7_init_4 sc (n + 5) (D.length + 51) (lO s.2.1) (lO d) (D.length + 51) (hp XI XA XP XC MI MA ML (D ++ [.inr (6, Of (.ref (D.length + 52)) (.int 0) (.ref (D.length + 53)) (.int 0) (lO a) (lO b) (lO c) 0), ia (fun _ => 0), ia (fun _ => 0)])) = some (none, hp XI XA XP XC MI MA ML (D ++ [.inr (6, CSf (.ref (D.length + 52)) (.int (iO ((qls s).length : Nat))) (.int (iO ((ll (qls s)).length : Nat))) (.ref (D.length + 53)) a b c d), ia g1, ia g3])) ∧ (∀ (i : Nat) (x : Int), (qls s)[i]? = some x → g1 i = iO x) ∧ (∀ (i : Nat) (x : Int), (ll (qls s))[i]? = some x → g3 i = iO x) := by
  obtain ⟨A1, A2, B1, B2, C1, C2, D1, D2, hns, hb0, -⟩ := id hS
  obtain ⟨a1, a2, b1, b2, c1, c2, d1, d2, hbd, hns2⟩ := id hC
  have hset : (Of (.ref (D.length + 52)) (.int 0) (.ref (D.length + 53)) (.int 0) (lO a) (lO b) (lO c) 0).set 7 (.long (lO d)) = Of (.ref (D.length + 52)) (.int 0) (.ref (D.length + 53)) (.int 0) (lO a) (lO b) (lO c) (lO d) := rfl
  have n0 := a3n0 D (.inr (6, Of (.ref (D.length + 52)) (.int 0) (.ref (D.length + 53)) (.int 0) (lO a) (lO b) (lO c) (lO d))) (ia (fun _ => 0)) (ia (fun _ => 0))
  have n1 := a3n1 D (.inr (6, Of (.ref (D.length + 52)) (.int 0) (.ref (D.length + 53)) (.int 0) (lO a) (lO b) (lO c) (lO d))) (ia (fun _ => 0)) (ia (fun _ => 0))
  have hql : qls s = ql 20 a b c d := by
    unfold qls
    rw [hD]
    exact ql_eq 20 hE (by omega) (fun h => hns2 (fun g => h (hE.zero.mpr g))) (fun h => by rw [← hD]; exact hns h)
  have hz := hE.zero
  rw [eb_X7_init_4, d_pf (a3n0 D _ _ _) (x := 0) rfl rfl, a3s0, hset]
  by_cases hb : s.2.1 = 0
  · have hb' := hz.mp hb
    subst hb'
    have hpos : 0 ≤ a := by
      have h1 := hS.nn0
      rw [hb] at h1
      have h2 : 0 ≤ s.1 := by
        rcases h1 with ⟨-, h | h⟩ | ⟨h, -⟩
        · exact h
        · rw [Int.zero_mul, Int.zero_mul] at h; have := sq_zero h; omega
        · omega
      obtain ⟨e1, e2, e3, e4, e5⟩ := hE
      rcases Int.lt_or_le a 0 with q | q
      · exfalso
        have x1 := Int.mul_pos (a := -a) (b := s.2.2.1) (by omega) e1
        have x2 := Int.mul_nonneg h2 (show 0 ≤ c by omega)
        rw [Int.neg_mul] at x1
        omega
      · exact q
    obtain ⟨g1, f1, f2, f3⟩ := fq_loop (sc := sc) (n := n + 3) (XI := XI) (XA := XA) (XP := XP) (XC := XC) (MI := MI) (MA := MA) (ML := ML) n1 20 0 a c (fun _ => 0) (by omega) (by omega) (by omega) hpos (by omega)
    have hq2 : ql 20 a 0 c 2 = qls s := by
      rw [hql]
      have key : ∀ (k : Nat) (x y : Int), 0 < y → ql k x 0 y 2 = ql k x 0 y d := by
        intro k
        induction k with
        | zero => intro x y _; rfl
        | succ k ih =>
          intro x y hy
          rw [ql_0 hy, ql_0 hy]
          by_cases g : x % y = 0
          · rw [if_pos g, if_pos g]
          · rw [if_neg g, if_neg g, ih y (x % y) (by have := Int.emod_nonneg x (show y ≠ 0 by omega); omega)]
      exact key 20 a c (by omega)
    rw [hq2, a3s1, a3s1, Nat.zero_add] at f1
    rw [hq2] at f3
    have hq : ∀ (i : Nat) (x : Int), (qls s)[i]? = some x → g1 i = iO x := fun i x hx => by have := f3 i x hx; rwa [Nat.zero_add] at this
    obtain ⟨g3, f5, f6⟩ := x_init6 (sc := sc) (n := n + 3) (XI := XI) (XA := XA) (XP := XP) (XC := XC) (MI := MI) (MA := MA) (ML := ML) (D := D) hS (a := a) (b := 0) (c := c) (d := d) (g1 := g1) (g2 := fun _ => 0) hq
    refine ⟨g1, g3, ?_, hq, f6⟩
    rw [hb, if_pos (by decide), d_gL n0 (x := 0) (k := 4) (v := lO a) rfl rfl, d_gL n0 (x := 0) (k := 6) (v := lO c) rfl rfl, d_gA n0 (x := 0) (k := 0) (v := D.length + 52) rfl rfl, e_X7_findQuotients]
    show en_bI (b_X7_findQuotients_1 sc (n + 3 + 1) (D.length + 1 + 51) (iO ((0 : Nat) : Int)) (lO a) (lO c) _) _ = _
    rw [f1, bI_s]
    exact f5
  · have hb' : b ≠ 0 := fun h => hb (hz.mpr h)
    have hns2 := hns2 hb'
    generalize hEe : (if 0 < b then b else -b) * c = e
    have he0 : 1 ≤ (if 0 < b then b else -b) ∧ (if 0 < b then b else -b) ≤ 140 := by split <;> omega
    have hee : e * e = b * b * (c * c) := by
      rw [← hEe]
      by_cases g : 0 < b
      · rw [if_pos g]; grind
      · rw [if_neg g]; grind
    have he : 0 < e := by rw [← hEe]; exact Int.mul_pos (by omega) (by omega)
    have hn0 : 0 ≤ e * e * d := Int.mul_nonneg (sq_nn e) (by omega)
    obtain ⟨r1, r2⟩ := isq_int hn0
    have hcc := sq_bd (x := c) (K := 100) (by omega) c2
    have hcc0 := Int.mul_pos (show 0 < c by omega) (show 0 < c by omega)
    have hnb : e * e * d ≤ 200000000 := by
      have e1 : e * e * d = b * b * d * (c * c) := by rw [hee]; grind
      have := mul_le_mul' (a := b * b * d) (b := 20000) (c := c * c) (d := 10000) (Int.mul_nonneg (sq_nn b) (by omega)) hbd (by omega) (by omega)
      omega
    have hr3 : (isq (e * e * d).toNat : Int) ≤ 15000 := rt_le (by omega) (by omega)
    have hac := mul_bd (x := a) (y := c) (a := 1000) (b := 100) (by omega) (by omega) (by omega) (by omega)
    have hPQ : PQ (e * e * d) (if 0 < b then a * c else -a * c) (if 0 < b then c * c else -c * c) 60000 := by
      rw [hee]
      by_cases g : 0 < b
      · rw [if_pos g, if_pos g]
        exact ⟨by omega, ⟨b * b * d - a * a, by grind⟩, by omega, by omega⟩
      · rw [if_neg g, if_neg g]
        refine ⟨by rw [Int.neg_mul]; omega, ⟨-(b * b * d - a * a), by grind⟩, by rw [Int.neg_mul]; omega, by rw [Int.neg_mul]; omega⟩
    have hP1 : -1200000 ≤ (if 0 < b then a * c else -a * c) ∧ (if 0 < b then a * c else -a * c) ≤ 1200000 := by
      rw [Int.neg_mul]
      split <;> omega
    obtain ⟨g1, f1, f2, f3⟩ := fr_loop (sc := sc) (n := n + 3) (XI := XI) (XA := XA) (XP := XP) (XC := XC) (MI := MI) (MA := MA) (ML := ML) n1 he (by omega) hns2 (by omega) (by omega) r1 r2 20 0 _ _ 60000 (fun _ => 0) (by omega) (by omega) (by omega) hPQ hP1.1 hP1.2
    have hrs : repq 20 (if 0 < b then a * c else -a * c) e (if 0 < b then c * c else -c * c) d = qls s := by
      rw [hql, ← hEe]
      exact repq_start (by omega) (by omega) hb' hns2
    have hlen : (qls s).length = 20 := by rw [← hrs]; exact repq_len he (by omega) hns2 (by omega) r1 r2 20 _ _ 60000 (by omega) hPQ
    rw [a3s1, a3s1] at f1
    rw [hrs] at f3
    have hq : ∀ (i : Nat) (x : Int), (qls s)[i]? = some x → g1 i = iO x := fun i x hx => by have := f3 i x hx; rwa [Nat.zero_add] at this
    obtain ⟨g3, f5, f6⟩ := x_init6 (sc := sc) (n := n + 3) (XI := XI) (XA := XA) (XP := XP) (XC := XC) (MI := MI) (MA := MA) (ML := ML) (D := D) hS (a := a) (b := b) (c := c) (d := d) (g1 := g1) (g2 := fun _ => 0) hq
    refine ⟨g1, g3, ?_, hq, f6⟩
    have hneq : ¬ (lg_cmp (lO s.2.1) 0 = 0) := by
      rw [lg_cmp_eq, kl_0, lO_eq (by unfold i64; omega) (by unfold i64; omega)]
      exact hb
    rw [if_neg hneq, d_gL n0 (x := 0) (k := 4) (v := lO a) rfl rfl, d_gL n0 (x := 0) (k := 5) (v := lO b) rfl rfl, d_gL n0 (x := 0) (k := 6) (v := lO c) rfl rfl, d_gL n0 (x := 0) (k := 7) (v := lO d) rfl rfl, d_gA n0 (x := 0) (k := 0) (v := D.length + 52) rfl rfl, e_X7_findRootQuotients]
    have hNN : lO b * lO b * lO d * lO c * lO c = lO (e * e * d) := by
      rw [lO_mul, lO_mul, lO_mul, lO_mul, hee]
      congr 1
      grind
    have hroot := e_rootOf (sc := sc) (n := n + 1) (z := hp XI XA XP XC MI MA ML (D ++ [.inr (6, Of (.ref (D.length + 52)) (.int 0) (.ref (D.length + 53)) (.int 0) (lO a) (lO b) (lO c) (lO d)), ia (fun _ => 0), ia (fun _ => 0)])) (m := (e * e * d).toNat) (r := isq (e * e * d).toNat) (by omega) (isq_le _) (isq_lt _)
    rw [show (((e * e * d).toNat : Nat) : Int) = e * e * d by omega] at hroot
    simp only [en_le, hNN, hroot, bL_s]
    have tail : en_bI (b_X7_findRootQuotients_5 sc (n + 4) (D.length + 52) (lO (e * e * d)) (lO ((isq (e * e * d).toNat : Nat) : Int)) (lO (if 0 < b then a * c else -a * c)) (lO (if 0 < b then c * c else -c * c)) 0 (hp XI XA XP XC MI MA ML (D ++ [.inr (6, Of (.ref (D.length + 52)) (.int 0) (.ref (D.length + 53)) (.int 0) (lO a) (lO b) (lO c) (lO d)), ia (fun _ => 0), ia (fun _ => 0)]))) (fun x17 z16 => b_X7_init_6 sc (n + 5) (D.length + 51) x17 (D.length + 51) z16) = some (none, hp XI XA XP XC MI MA ML (D ++ [.inr (6, CSf (.ref (D.length + 52)) (.int (iO ((qls s).length : Nat))) (.int (iO ((ll (qls s)).length : Nat))) (.ref (D.length + 53)) a b c d), ia g1, ia g3])) := by
      show en_bI (b_X7_findRootQuotients_5 sc (n + 3 + 1) (D.length + 1 + 51) (lO (e * e * d)) (lO ((isq (e * e * d).toNat : Nat) : Int)) (lO (if 0 < b then a * c else -a * c)) (lO (if 0 < b then c * c else -c * c)) (iO ((0 : Nat) : Int)) _) _ = _
      rw [f1, bI_s]
      rw [hlen] at f5 ⊢
      exact f5
    have hle : (lg_cmp (lO b) 0 ≤ 0) = (b ≤ 0) := by
      rw [lg_cmp_le, kl_0]
      exact propext (lO_le (by unfold i64; omega) (by unfold i64; omega))
    simp only [eb_X7_findRootQuotients_2, hle, en_le, lO_neg, lO_mul]
    by_cases g : 0 < b
    · rw [if_pos g, if_pos g] at tail
      rw [if_neg (show ¬ b ≤ 0 by omega), if_neg (show ¬ b ≤ 0 by omega)]
      exact tail
    · rw [if_neg g, if_neg g] at tail
      rw [if_pos (show b ≤ 0 by omega), if_pos (show b ≤ 0 by omega)]
      exact tail
end IN2
