-- FILE N4
/-! NEARERS: the model's loop, the call -/
def fbn : Nat → Int
  | 0 => 0
  | 1 => 1
  | n + 2 => fbn (n + 1) + fbn n
theorem fbn_20 : fbn 20 = 6765 := by decide
section NRL
variable {sc : en_S} {d : Nat} {XI : Nat → Int32} {XA : Nat → Nat → Int32} {XP : Nat → Nat → Option Nat} {XC : Value} {ML : Nat → Nat → Int64} {D : en_H} {k : Nat} {l : SL4}
theorem m_near_loop (hk : k < 8) (hS : SL l.1 l.2.1 l.2.2.1 l.2.2.2) : ∀ (j n : Nat) (MI : Nat → Int32) (MA : Nat → Nat → Int32) (R rest : List Int) (f : Nat) (x1 y1 x2 y2 qp : Int) (qc : Nat) (k0 e0 : Int), n + j = 2001 → MS MA k l.1 l.2.1 l.2.2.1 l.2.2.2 → MI 6 = iO (R.length : Int) → (∀ (t : Nat) (x : Int), R[t]? = some x → MA 12 t = iO x) → R.length < n → qc < n → 2 ≤ n → CST (PS l) x1 y1 x2 y2 qp qc → RL (PS l) f rest x1 y1 x2 y2 → (∀ q ∈ rest, 1 ≤ q) → f ≤ 19 → fbn (19 - f) ≤ qp → fbn (20 - f) ≤ (qc : Int) → DIST (PS l) qc (e0 * (qc : Int)) (e0 * k0) → PS l (x2 - e0 * (qc : Int)) (y2 - e0 * k0) → 0 ≤ k0 → k0 ≤ 40001 → (e0 = -1 ∨ e0 = 0 ∨ e0 = 1) → (∀ a r, rest = a :: r → (n : Int) ≤ a * (qc : Int) + qp ∧ (qc : Int) < a * (qc : Int) + qp) →
    ∃ MI' MA', b_X12_nearersOf_1 sc (d + 3) 26 (iO (k : Int)) (lO (qc : Int)) (lO k0) (iO e0) (iO (n : Int)) (hp XI XA XP XC MI MA ML D) = some (none, hp XI XA XP XC MI' MA' ML D) ∧ MI' 6 = iO ((R ++ lls2 rest qp (qc : Int)).length : Int) ∧ (∀ (t : Nat) (x : Int), (R ++ lls2 rest qp (qc : Int))[t]? = some x → MA' 12 t = iO x) ∧ (∀ s, s ≠ 6 → MI' s = MI s) ∧ (∀ m, m ≠ 12 → MA' m = MA m) := by
  have hO := PS_ord hS
  intro j
  induction j with
  | zero =>
    intro n MI MA R rest f x1 y1 x2 y2 qp qc k0 e0 hn hM h6 h12 hR hqc hn2 hC hL hq hf hf1 hf2 hd hp0 b1 b2 b3 hnx
    have hnil : lls2 rest qp (qc : Int) = [] := by
      cases rest with
      | nil => rfl
      | cons a r =>
        have := (hnx a r rfl).1
        rw [lls2, if_pos (by omega)]
    rw [hnil, List.append_nil]
    refine ⟨MI, MA, ?_, h6, h12, fun _ _ => rfl, fun _ _ => rfl⟩
    rw [eb_X12_nearersOf_1, if_pos (show 2000 < iO (n : Int) from plt (a := 2000) (b := (n : Int)) (by unfold i32; omega) (by unfold i32; omega) (by omega))]
  | succ j ih =>
    intro n MI MA R rest f x1 y1 x2 y2 qp qc k0 e0 hn hM h6 h12 hR hqc hn2 hC hL hq hf hf1 hf2 hd hp0 b1 b2 b3 hnx
    obtain ⟨kk, e, g1, g2, g3, g4, g5, g6⟩ := m_near_step (sc := sc) (d := d) (XI := XI) (XA := XA) (XP := XP) (XC := XC) (ML := ML) (D := D) hk hM hS (n := n) (by omega) (by omega) (n0 := (qc : Int)) (k0 := k0) (e0 := e0) (by omega) (by omega) b1 b2 b3 (r := R.length) h6 (by omega)
    have skip : PS l (e * (n : Int) - e0 * (qc : Int)) (e * kk - e0 * k0) → (∀ a r, rest = a :: r → ((n + 1 : Nat) : Int) ≤ a * (qc : Int) + qp ∧ (qc : Int) < a * (qc : Int) + qp) → ∃ MI' MA', b_X12_nearersOf_1 sc (d + 3) 26 (iO (k : Int)) (lO (qc : Int)) (lO k0) (iO e0) (iO (n : Int)) (hp XI XA XP XC MI MA ML D) = some (none, hp XI XA XP XC MI' MA' ML D) ∧ MI' 6 = iO ((R ++ lls2 rest qp (qc : Int)).length : Int) ∧ (∀ (t : Nat) (x : Int), (R ++ lls2 rest qp (qc : Int))[t]? = some x → MA' 12 t = iO x) ∧ (∀ s, s ≠ 6 → MI' s = MI s) ∧ (∀ m, m ≠ 12 → MA' m = MA m) := by
      intro hP hnx'
      obtain ⟨MI', MA', k1, k2⟩ := ih (n + 1) MI MA R rest f x1 y1 x2 y2 qp qc k0 e0 (by omega) hM h6 h12 (by omega) (by omega) (by omega) hC hL hq hf hf1 hf2 hd hp0 b1 b2 b3 hnx'
      refine ⟨MI', MA', ?_, k2⟩
      rw [← k1]
      exact g6 ⟨by omega, hP⟩
    cases rest with
    | nil =>
      refine skip ?_ (fun a r h => by cases h)
      have hcur : PS l (-x2) (-y2) := by
        rcases RL_nil.1 hL with h | h
        · exfalso
          rw [h, fbn_20] at hf2
          omega
        · exact h
      have := hO.1 _ _ _ _ g1.1 (hO.1 _ _ _ _ hp0 hcur)
      rw [show e * (n : Int) + (x2 - e0 * (qc : Int) + -x2) = e * (n : Int) - e0 * (qc : Int) by omega, show e * kk + (y2 - e0 * k0 + -y2) = e * kk - e0 * k0 by omega] at this
      exact this
    | cons a r =>
      obtain ⟨n1, n2⟩ := hnx a r rfl
      have ha : 1 ≤ a := hq a (List.mem_cons_self ..)
      cases f with
      | zero => exact (show False from hL).elim
      | succ f =>
        obtain ⟨l1, l2, l3, l4⟩ := hL
        by_cases hlt : (n : Int) < a * (qc : Int) + qp
        · refine skip (near_not hO hC ha l1 l2 (by omega) hlt g1 hp0) (fun a' r' h => ?_)
          cases h
          exact ⟨by omega, n2⟩
        · have hne : (n : Int) = a * (qc : Int) + qp := by omega
          obtain ⟨m1, m2⟩ := near_yes hO hC ha l1 l2 l3 n2 hne g1 hd
          have hCn := hC.next ha l2
          rw [← hne] at hCn
          have hqp : 0 ≤ qp := hC.2.2.2.2.1
          have hqc1 : 1 ≤ (qc : Int) := hC.2.2.2.2.2
          have hfr : fbn (20 - f) ≤ (n : Int) := by
            rw [show 20 - f = (19 - (f + 1)) + 2 by omega]
            show fbn (19 - (f + 1) + 1) + fbn (19 - (f + 1)) ≤ _
            rw [show 19 - (f + 1) + 1 = 20 - (f + 1) by omega]
            have : (qc : Int) ≤ a * (qc : Int) := by
              have := Int.mul_le_mul_of_nonneg_right ha (show 0 ≤ (qc : Int) by omega)
              rwa [Int.one_mul] at this
            omega
          obtain ⟨MI', MA', k1, k2, k3, k4, k5⟩ := ih (n + 1) (va_up MI 6 (iO ((R.length : Int) + 1))) (va_up MA 12 (upd (MA 12) R.length (iO (n : Int)))) (R ++ [(n : Int)]) r f x2 y2 (x1 - a * x2) (y1 - a * y2) (qc : Int) n kk e (by omega) hM (by rw [List.length_append]; rfl) (by
            intro t x htx
            rw [w_eq rfl]
            rw [List.getElem?_append] at htx
            split at htx
            · rename_i hh
              rw [u_ne (by omega)]
              exact h12 t x htx
            · rename_i hh
              have ht : t = R.length := by
                have := (List.getElem?_eq_some_iff.mp htx).1
                simp at this
                omega
              subst ht
              rw [Nat.sub_self] at htx
              cases htx
              rw [u_eq rfl]) (by rw [List.length_append]; show R.length + 1 < n + 1; omega) (by omega) (by omega) hCn l4 (fun q hq' => hq q (List.mem_cons_of_mem _ hq')) (by omega) (by rw [show 19 - f = 20 - (f + 1) by omega]; exact hf2) hfr g1 m2 g2 g3 g4 (by
            intro a' r' h'
            have ha' : 1 ≤ a' := hq a' (by rw [h']; exact List.mem_cons_of_mem _ (List.mem_cons_self ..))
            have := Int.mul_le_mul_of_nonneg_right ha' (show 0 ≤ (n : Int) by omega)
            rw [Int.one_mul] at this
            omega)
          have hlist : R ++ lls2 (a :: r) qp (qc : Int) = R ++ [(n : Int)] ++ lls2 r (qc : Int) (n : Int) := by
            rw [lls2, ← hne, if_neg (by omega), if_neg (by omega), List.append_assoc]
            rfl
          rw [hlist]
          refine ⟨MI', MA', ?_, k2, k3, fun s hs => by rw [k4 s hs, w_ne hs], fun m hm => by rw [k5 m hm, w_ne hm]⟩
          rw [← k1]
          exact g5 (Or.inr m1)
theorem m_nearersOf (hk : k < 8) (hS : SL l.1 l.2.1 l.2.2.1 l.2.2.2) {MI : Nat → Int32} {MA : Nat → Nat → Int32} (hM : MS MA k l.1 l.2.1 l.2.2.1 l.2.2.2) : ∃ MI' MA', ∃ NL : List Int, f_X12_nearersOf sc (d + 4) 26 (iO (k : Int)) (hp XI XA XP XC MI MA ML D) = some (none, hp XI XA XP XC MI' MA' ML D) ∧ MI' 6 = iO (NL.length : Int) ∧ (∀ (t : Nat) (x : Int), NL[t]? = some x → MA' 12 t = iO x) ∧ (∀ s, s ≠ 6 → MI' s = MI s) ∧ (∀ m, m ≠ 12 → MA' m = MA m) ∧ NL.length ≤ 2001 ∧ (∀ (t : Nat) (x : Int), NL[t]? = some x ↔ (ll (qls l))[t]? = some x ∧ x ≤ 2000) := by
  have hO := PS_ord hS
  obtain ⟨hQB, hlen1, hlen2⟩ := qls_QB hS
  have hRL : RL (PS l) 20 (qls l) 1 0 0 (-1) := ql_RL (P := PS l) hS.dpos 20 l.1 l.2.1 l.2.2.1 1 0 0 (-1) hS.cpos (fun h => by obtain ⟨-, -, -, -, -, -, -, -, h1, -⟩ := hS; exact h1 h) (fun x y => by
    unfold PS
    rw [show x * 1 - y * 0 = x by omega, show x * 0 - y * -1 = y by omega, Int.mul_comm x l.1, Int.mul_comm x l.2.1]) (fun h => by
    have := (hO.2.2 1).mp h
    omega)
  have hll : ll (qls l) = 1 :: lls (qls l).tail 0 1 := rfl
  rw [hll]
  cases hqs : qls l with
  | nil => rw [hqs] at hlen1; simp at hlen1
  | cons a0 rest =>
    rw [hqs] at hRL hQB
    obtain ⟨r1, r2, r3, r4⟩ := hRL
    rw [show (1 : Int) - a0 * 0 = 1 by omega, show (0 : Int) - a0 * -1 = a0 by omega] at r2 r4
    have hq : ∀ q ∈ rest, 1 ≤ q := by
      intro q hq
      obtain ⟨i, hi⟩ := List.mem_iff_getElem?.mp hq
      exact (hQB (i + 1) q (by rw [List.getElem?_cons_succ]; exact hi)).2.2 (by omega)
    obtain ⟨kk, e, g1, g2, g3, g4, g5, -⟩ := m_near_step (sc := sc) (d := d) (XI := XI) (XA := XA) (XP := XP) (XC := XC) (ML := ML) (D := D) (MI := va_up MI 6 (iO 0)) hk hM hS (n := 1) (by omega) (by omega) (n0 := 0) (k0 := 0) (e0 := 0) (by omega) (by omega) (by omega) (by omega) (by omega) (r := 0) rfl (by omega)
    have g5 := g5 (Or.inl rfl)
    have st : f_X12_nearersOf sc (d + 4) 26 (iO (k : Int)) (hp XI XA XP XC MI MA ML D) = b_X12_nearersOf_1 sc (d + 3) 26 (iO (k : Int)) (lO ((1 : Nat) : Int)) (lO kk) (iO e) (iO ((2 : Nat) : Int)) (hp XI XA XP XC (va_up (va_up MI 6 (iO 0)) 6 (iO 1)) (va_up MA 12 (upd (MA 12) 0 (iO 1))) ML D) := by
      refine Eq.trans ?_ g5
      rw [e_X12_nearersOf, hp_p_26_21]
      rfl
    have hc0 : CST (PS l) 0 (-1) 1 a0 0 1 := ⟨(hO.2.2 (-1)).mpr (by omega), r2, Or.inl (by omega), Or.inr ⟨by omega, rfl⟩, by omega, by omega⟩
    have h12 : ∀ (t : Nat) (x : Int), ([1] : List Int)[t]? = some x → va_up MA 12 (upd (MA 12) 0 (iO 1)) 12 t = iO x := by
      intro t x h
      cases t with
      | zero => cases h; rfl
      | succ t => simp at h
    have hiff : ∀ (t : Nat) (x : Int), ((1 : Int) :: lls2 rest 0 1)[t]? = some x ↔ ((1 : Int) :: lls rest 0 1)[t]? = some x ∧ x ≤ 2000 := by
      intro t x
      cases t with
      | zero =>
        simp
        omega
      | succ t =>
        rw [List.getElem?_cons_succ, List.getElem?_cons_succ]
        exact lls2_iff rest 0 1 t x hq (by omega) (by omega)
    have hbd : ∀ (r : List Int) (b c : Int), (lls2 r b c).length ≤ r.length := by
      intro r
      induction r with
      | nil => intro b c; exact Nat.le_refl _
      | cons q r ih =>
        intro b c
        rw [lls2]
        split
        · simp
        · split
          · have := ih c (q * c + b); simp; omega
          · have := ih c (q * c + b); simp; omega
    have hlr : rest.length ≤ 19 := by rw [hqs] at hlen2; simp at hlen2; omega
    show ∃ MI' MA', ∃ NL : List Int, _ ∧ _ ∧ _ ∧ _ ∧ _ ∧ _ ∧ ∀ (t : Nat) (x : Int), NL[t]? = some x ↔ ((1 : Int) :: lls rest 0 1)[t]? = some x ∧ x ≤ 2000
    by_cases hone : ∃ r, rest = 1 :: r
    · obtain ⟨r, rfl⟩ := hone
      obtain ⟨q1, q2, q3, q4⟩ := r4
      have hc1 := hc0.next (a := 1) (by omega) q2
      rw [show (1 : Int) * 1 + 0 = ((1 : Nat) : Int) by omega] at hc1
      obtain ⟨MI', MA', k1, k2, k3, k4, k5⟩ := m_near_loop (sc := sc) (d := d) (XI := XI) (XA := XA) (XP := XP) (XC := XC) (ML := ML) (D := D) hk hS 1999 2 (va_up (va_up MI 6 (iO 0)) 6 (iO 1)) (va_up MA 12 (upd (MA 12) 0 (iO 1))) [1] r 18 1 a0 (0 - 1 * 1) (-1 - 1 * a0) 1 1 kk e (by omega) hM rfl h12 (by simp) (by omega) (by omega) hc1 q4 (fun q h => hq q (List.mem_cons_of_mem _ h)) (by omega) (by show fbn 1 ≤ 1; decide) (by show fbn 2 ≤ 1; decide) g1 (g1.2.2 _ _ (by omega) q2) g2 g3 g4 (by
        intro a r' h
        have := hq a (by rw [h]; exact List.mem_cons_of_mem _ (List.mem_cons_self ..))
        omega)
      have hl2 : lls2 (1 :: r) 0 1 = lls2 r 1 1 := by
        rw [lls2, if_neg (by omega), if_pos (by omega)]
        rfl
      refine ⟨MI', MA', [1] ++ lls2 r 1 ((1 : Nat) : Int), st.trans k1, k2, k3, fun s hs => by rw [k4 s hs, w_ne hs, w_ne hs], fun m hm => by rw [k5 m hm, w_ne hm], ?_, ?_⟩
      · have := hbd r 1 1
        simp at hlr ⊢
        omega
      · intro t x
        rw [← hiff, hl2]
        rfl
    · obtain ⟨MI', MA', k1, k2, k3, k4, k5⟩ := m_near_loop (sc := sc) (d := d) (XI := XI) (XA := XA) (XP := XP) (XC := XC) (ML := ML) (D := D) hk hS 1999 2 (va_up (va_up MI 6 (iO 0)) 6 (iO 1)) (va_up MA 12 (upd (MA 12) 0 (iO 1))) [1] rest 19 0 (-1) 1 a0 0 1 kk e (by omega) hM rfl h12 (by simp) (by omega) (by omega) hc0 r4 hq (by omega) (by show fbn 0 ≤ 0; decide) (by show fbn 1 ≤ 1; decide) g1 (g1.2.2 _ _ (by omega) r2) g2 g3 g4 (by
        intro a r' h
        have h1 := hq a (by rw [h]; exact List.mem_cons_self ..)
        have h2 : a ≠ 1 := fun q => hone ⟨r', by rw [h, q]⟩
        omega)
      refine ⟨MI', MA', [1] ++ lls2 rest 0 ((1 : Nat) : Int), st.trans k1, k2, k3, fun s hs => by rw [k4 s hs, w_ne hs, w_ne hs], fun m hm => by rw [k5 m hm, w_ne hm], ?_, ?_⟩
      · have := hbd rest 0 1
        simp
        omega
      · intro t x
        rw [← hiff]
        rfl
end NRL
section NRC
variable {sc : en_S} {n : Nat} {S : ST5}
theorem mc_nearer (hS : OK5 S) {s i : Int} (hs : i32 s) (hi : i32 i) : MC S S (p_nearer S s i) (fun z => f_X12_nearer sc (n + 40) 26 (iO s) (iO i) z) := by
  obtain ⟨i1, i2⟩ := id hi
  have h8 := hS.1
  cases hq : slq S s with
  | none =>
    have hpv : p_nearer S s i = -1 := by
      unfold p_nearer p_line
      rw [hq]
      rfl
    rw [hpv]
    apply mc_ask
    intro XI XA XP XC MI MA ML D hV
    have := slq_none hq
    show f_X12_nearer sc (n + 40) 26 (iO s) (iO i) _ = _
    rw [e_X12_nearer, hp_cc_26, if_pos rfl, e_misSlope hV hS hs, if_neg (by omega)]
    rfl
  | some l =>
    obtain ⟨k, rfl, hk, hq1'⟩ := slq_some hq
    have hSl := hS.2.2.1 l (List.mem_of_getElem? hq1')
    have hpv : ∀ v : Int, (if 0 ≤ i ∧ i < ((ll (qls l)).length : Nat) then (ll (qls l)).getD i.toNat 0 else -1) = v → p_nearer S (k : Int) i = if v ≤ 2000 then v else -1 := by
      intro v hv
      have h : p_line S (k : Int) i = v := by
        rw [← hv]
        unfold p_line
        rw [hq]
      unfold p_nearer
      dsimp only
      rw [h]
    by_cases gi : 0 ≤ i
    · intro XI XA XP XC MI MA ML D hV hP
      have hM := hV.2.2.2.2.1 k l hq1'
      obtain ⟨MI', MA', NL, f1, f2, f3, f4, f5, f6, f7⟩ := m_nearersOf (sc := sc) (d := n + 35) (XI := XI) (XA := XA) (XP := XP) (XC := XC) (ML := ML) (D := D) (MI := MI) (k := k) (by omega) hSl hM
      refine ⟨MI', MA', ML, ?_, hV.scr (fun i hi => f4 i (by omega)) (fun i hi => f5 i (by omega)), pv_of hP (f4 8 (by decide)) (f5 21 (by decide))⟩
      show f_X12_nearer sc (n + 40) 26 (iO (k : Int)) (iO i) _ = _
      obtain ⟨v, rfl⟩ : ∃ v : Nat, i = v := ⟨i.toNat, by omega⟩
      rw [e_X12_nearer, hp_cc_26, if_pos rfl, e_misSlope hV hS hs, if_pos (by omega), bI_s, if_neg (show ¬ iO 1 = 0 by decide), if_pos (show 0 ≤ iO (v : Int) from ple (a := 0) (b := (v : Int)) (by unfold i32; omega) hi (by omega)), hp_cc_26, if_pos rfl, f1, bV_s, hp_g_26_21, f2]
      by_cases hv : v < NL.length
      · obtain ⟨x, hx⟩ : ∃ x, NL[v]? = some x := ⟨_, List.getElem?_eq_getElem hv⟩
        obtain ⟨x1, x2⟩ := (f7 v x).mp hx
        have x3 := f3 v x hx
        have hlen : v < (ll (qls l)).length := (List.getElem?_eq_some_iff.mp x1).1
        rw [if_neg (nle (a := (NL.length : Int)) (b := (v : Int)) (by unfold i32; omega) hi (by omega)), hp_g_26_20, hp_a_41, if_pos ((iO_ix hi).mpr (by omega)), iO_nat (by omega) hi, Int.toNat_natCast, x3, hpv x (by rw [if_pos (show 0 ≤ (v : Int) ∧ (v : Int) < ((ll (qls l)).length : Nat) by omega), Int.toNat_natCast, List.getD_eq_getElem?_getD, x1]; rfl), if_pos x2]
      · rw [if_pos (ple (a := (NL.length : Int)) (b := (v : Int)) (by unfold i32; omega) hi (by omega))]
        by_cases hlen : v < (ll (qls l)).length
        · obtain ⟨x, hx⟩ : ∃ x, (ll (qls l))[v]? = some x := ⟨_, List.getElem?_eq_getElem hlen⟩
          have hgt : ¬ x ≤ 2000 := fun h => by
            have := (f7 v x).mpr ⟨hx, h⟩
            exact hv (List.getElem?_eq_some_iff.mp this).1
          rw [hpv x (by rw [if_pos (show 0 ≤ (v : Int) ∧ (v : Int) < ((ll (qls l)).length : Nat) by omega), Int.toNat_natCast, List.getD_eq_getElem?_getD, hx]; rfl), if_neg hgt]
          rfl
        · rw [hpv (-1) (if_neg (by omega)), if_pos (show (-1 : Int) ≤ 2000 by decide)]
          rfl
    · rw [hpv (-1) (if_neg (by omega)), if_pos (show (-1 : Int) ≤ 2000 by decide)]
      apply mc_ask
      intro XI XA XP XC MI MA ML D hV
      show f_X12_nearer sc (n + 40) 26 (iO (k : Int)) (iO i) _ = _
      rw [e_X12_nearer, hp_cc_26, if_pos rfl, e_misSlope hV hS hs, if_pos (by omega), bI_s, if_neg (show ¬ iO 1 = 0 by decide), if_neg (show ¬ 0 ≤ iO i from nle (a := 0) (b := i) (by unfold i32; omega) hi (by omega))]
      rfl
end NRC
-- FILE 99i
/-! row: the class -/
section CRW
variable {sc : en_S} {n : Nat} {S : ST5}
theorem x_tells {XI : Nat → Int32} {XA : Nat → Nat → Int32} {XP : Nat → Nat → Option Nat} {XC : Value} {MI : Nat → Int32} {MA : Nat → Nat → Int32} {ML : Nat → Nat → Int64} {D : en_H} {k N : Nat} (hk : k < 4) (hN : N ≤ 40) {f : Nat → Int} (hf : ∀ t, t < 40 → -100 ≤ f t ∧ f t ≤ 100) (hc : ∀ t, t < 40 → XA (10 + k) t = iO (f t)) : ∀ (j i : Nat), i + j = N → b_X6_tellsSteps_1 sc n (18 + 2 * k) (iO (N : Nat)) (iO (i : Nat)) (hp XI XA XP XC MI MA ML D) = some (some (.int (iO (if chk f j i = true then 1 else 0))), hp XI XA XP XC MI MA ML D) := by
  intro j
  induction j with
  | zero =>
    intro i hi
    rw [eb_X6_tellsSteps_1, chk, if_pos rfl]
    simp (disch := (first | assumption | (unfold i32; omega) | (unfold i64; omega) | omega)) only [↓reduceIte, ki_0, ki_1, ki_2, ki_3, ki_4, ki_5, ki_6, ki_7, ki_8, ki_9, ki_10, ki_11, ki_12, ki_13, ki_14, ki_15, ki_20, ki_21, ki_30, ki_31, ki_40, ki_41, ki_50, ki_51, ki_60, ki_63, ki_64, ki_65, ki_100, ki_158, ki_160, ki_200, ki_212, ki_1000, ki_2000, ki_2001, ki_5000, ki_10000, ki_10001, ki_100000, ki_200000, ki_1000000, ki_2000000, ki_3000000, iO_neg, iO_add, iO_sub, iO_mul, kn_4, kn_8, kn_10, kn_20, kn_24, kn_40, kn_41, kn_50, kn_60, kn_158, kn_160, kn_200, kn_212, kn_2001, tn_lt, fn_lt, tn_le, fn_le, tn_eq, fn_eq, x_lt, x_le, x_eq, x_ix, x_nat, t_lt, f_lt, t_le, f_le, t_eq, f_eq, eq_self, and_self, true_and, and_true, false_and, and_false, if_true, if_false, Int.toNat_natCast, bI_s, bL_s, bA_s, bA_n, bV_s, mq_s, mq_n, en_le, bl_0, bl_1, u_eq, u_ne, w_eq, w_ne, v_eq, v_ne]
  | succ j ih =>
    intro i hi
    have hci := hc i (by omega)
    obtain ⟨b1, b2⟩ := hf i (by omega)
    rw [eb_X6_tellsSteps_1, chk]
    by_cases g : 0 ≤ f i ∧ f i ≤ 100
    · rw [if_pos g, ← ih (i + 1) (by omega)]
      obtain ⟨g1, g2⟩ := g
      simp (disch := (first | assumption | (unfold i32; omega) | (unfold i64; omega) | omega)) only [↓reduceIte, ki_0, ki_1, ki_2, ki_3, ki_4, ki_5, ki_6, ki_7, ki_8, ki_9, ki_10, ki_11, ki_12, ki_13, ki_14, ki_15, ki_20, ki_21, ki_30, ki_31, ki_40, ki_41, ki_50, ki_51, ki_60, ki_63, ki_64, ki_65, ki_100, ki_158, ki_160, ki_200, ki_212, ki_1000, ki_2000, ki_2001, ki_5000, ki_10000, ki_10001, ki_100000, ki_200000, ki_1000000, ki_2000000, ki_3000000, iO_neg, iO_add, iO_sub, iO_mul, kn_4, kn_8, kn_10, kn_20, kn_24, kn_40, kn_41, kn_50, kn_60, kn_158, kn_160, kn_200, kn_212, kn_2001, tn_lt, fn_lt, tn_le, fn_le, tn_eq, fn_eq, x_lt, x_le, x_eq, x_ix, x_nat, t_lt, f_lt, t_le, f_le, t_eq, f_eq, eq_self, and_self, true_and, and_true, false_and, and_false, if_true, if_false, Int.toNat_natCast, bI_s, bL_s, bA_s, bA_n, bV_s, mq_s, mq_n, en_le, bl_0, bl_1, u_eq, u_ne, w_eq, w_ne, v_eq, v_ne, sh_0 hk, sh_l hk, sh_a hk, hci]
      try rfl
    · rw [if_neg g, if_neg (show ¬ (false = true) from Bool.false_ne_true)]
      have g1 : f i < 0 := by omega
      simp (disch := (first | assumption | (unfold i32; omega) | (unfold i64; omega) | omega)) only [↓reduceIte, ki_0, ki_1, ki_2, ki_3, ki_4, ki_5, ki_6, ki_7, ki_8, ki_9, ki_10, ki_11, ki_12, ki_13, ki_14, ki_15, ki_20, ki_21, ki_30, ki_31, ki_40, ki_41, ki_50, ki_51, ki_60, ki_63, ki_64, ki_65, ki_100, ki_158, ki_160, ki_200, ki_212, ki_1000, ki_2000, ki_2001, ki_5000, ki_10000, ki_10001, ki_100000, ki_200000, ki_1000000, ki_2000000, ki_3000000, iO_neg, iO_add, iO_sub, iO_mul, kn_4, kn_8, kn_10, kn_20, kn_24, kn_40, kn_41, kn_50, kn_60, kn_158, kn_160, kn_200, kn_212, kn_2001, tn_lt, fn_lt, tn_le, fn_le, tn_eq, fn_eq, x_lt, x_le, x_eq, x_ix, x_nat, t_lt, f_lt, t_le, f_le, t_eq, f_eq, eq_self, and_self, true_and, and_true, false_and, and_false, if_true, if_false, Int.toNat_natCast, bI_s, bL_s, bA_s, bA_n, bV_s, mq_s, mq_n, en_le, bl_0, bl_1, u_eq, u_ne, w_eq, w_ne, v_eq, v_ne, sh_0 hk, sh_l hk, sh_a hk, hci]
theorem x_copy_loop {XI : Nat → Int32} {XA : Nat → Nat → Int32} {XP : Nat → Nat → Option Nat} {XC : Value} {MI : Nat → Int32} {MA : Nat → Nat → Int32} {ML : Nat → Nat → Int64} {D : en_H} {k N q : Nat} {e : va_E} (he : en_nt D q = some e) (hk : k < 4) (hN : N ≤ 40) : ∀ (j i : Nat) (g : Nat → Int32), i + j = N → ∃ g', b_X6_copyOf_1 sc n (18 + 2 * k) (iO (N : Nat)) (q + 51) (iO (i : Nat)) (hp XI XA XP XC MI MA ML (D.set q (.inl (0, N, .inl g)))) = some (some (.ref (q + 51)), hp XI XA XP XC MI MA ML (D.set q (.inl (0, N, .inl g')))) ∧ (∀ t, t < i → g' t = g t) ∧ (∀ t, i ≤ t → t < N → g' t = XA (10 + k) t) := by
  intro j
  induction j with
  | zero =>
    intro i g hi
    obtain rfl : i = N := by omega
    refine ⟨g, ?_, fun _ _ => rfl, fun t h1 h2 => by omega⟩
    rw [eb_X6_copyOf_1]
    simp (disch := (first | assumption | (unfold i32; omega) | (unfold i64; omega) | omega)) only [↓reduceIte, ki_0, ki_1, ki_2, ki_3, ki_4, ki_5, ki_6, ki_7, ki_8, ki_9, ki_10, ki_11, ki_12, ki_13, ki_14, ki_15, ki_20, ki_21, ki_30, ki_31, ki_40, ki_41, ki_50, ki_51, ki_60, ki_63, ki_64, ki_65, ki_100, ki_158, ki_160, ki_200, ki_212, ki_1000, ki_2000, ki_2001, ki_5000, ki_10000, ki_10001, ki_100000, ki_200000, ki_1000000, ki_2000000, ki_3000000, iO_neg, iO_add, iO_sub, iO_mul, kn_4, kn_8, kn_10, kn_20, kn_24, kn_40, kn_41, kn_50, kn_60, kn_158, kn_160, kn_200, kn_212, kn_2001, tn_lt, fn_lt, tn_le, fn_le, tn_eq, fn_eq, x_lt, x_le, x_eq, x_ix, x_nat, t_lt, f_lt, t_le, f_le, t_eq, f_eq, eq_self, and_self, true_and, and_true, false_and, and_false, if_true, if_false, Int.toNat_natCast, bI_s, bL_s, bA_s, bA_n, bV_s, mq_s, mq_n, en_le, bl_0, bl_1, u_eq, u_ne, w_eq, w_ne, v_eq, v_ne]
  | succ j ih =>
    intro i g hi
    obtain ⟨g', f1, f2, f3⟩ := ih (i + 1) (upd g i (XA (10 + k) i)) (by omega)
    refine ⟨g', ?_, fun t ht => by rw [f2 t (by omega), u_ne (by omega)], fun t h1 h2 => ?_⟩
    · have hs : ∀ (i v : Int32) (f : en_H → Option en_R), en_sI (hp XI XA XP XC MI MA ML (D.set q (.inl (0, N, .inl g)))) (q + 51) i v f = if en_ix i N then f (hp XI XA XP XC MI MA ML (D.set q (.inl (0, N, .inl (upd g i.toNatClampNeg v))))) else none := by
        intro i v f
        rw [d_sI (nt_set_eq he), List.set_set]
      rw [eb_X6_copyOf_1]
      simp (disch := (first | assumption | (unfold i32; omega) | (unfold i64; omega) | omega)) only [↓reduceIte, ki_0, ki_1, ki_2, ki_3, ki_4, ki_5, ki_6, ki_7, ki_8, ki_9, ki_10, ki_11, ki_12, ki_13, ki_14, ki_15, ki_20, ki_21, ki_30, ki_31, ki_40, ki_41, ki_50, ki_51, ki_60, ki_63, ki_64, ki_65, ki_100, ki_158, ki_160, ki_200, ki_212, ki_1000, ki_2000, ki_2001, ki_5000, ki_10000, ki_10001, ki_100000, ki_200000, ki_1000000, ki_2000000, ki_3000000, iO_neg, iO_add, iO_sub, iO_mul, kn_4, kn_8, kn_10, kn_20, kn_24, kn_40, kn_41, kn_50, kn_60, kn_158, kn_160, kn_200, kn_212, kn_2001, tn_lt, fn_lt, tn_le, fn_le, tn_eq, fn_eq, x_lt, x_le, x_eq, x_ix, x_nat, t_lt, f_lt, t_le, f_le, t_eq, f_eq, eq_self, and_self, true_and, and_true, false_and, and_false, if_true, if_false, Int.toNat_natCast, bI_s, bL_s, bA_s, bA_n, bV_s, mq_s, mq_n, en_le, bl_0, bl_1, u_eq, u_ne, w_eq, w_ne, v_eq, v_ne, sh_0 hk, sh_l hk, sh_a hk, hs]
      exact f1
    · by_cases e : t = i
      · subst e; rw [f2 t (by omega), u_eq rfl]
      · exact f3 t (by omega) h2
set_option maxHeartbeats 3000000 in
theorem cs_row (hS : OK5 S) {sh so N : Int} (h1 : i32 sh) (h2 : i32 so) (h3 : i32 N) : CS S (p_row S sh so N).2 (p_row S sh so N).1 (fun z => f_X11_row sc (n + 40) 1 (iO sh) (iO so) (iO N) z) := by
  obtain ⟨a1, a2⟩ := id h1
  obtain ⟨b1, b2⟩ := id h2
  obtain ⟨c1, c2⟩ := id h3
  have h10 := hS.2.1
  unfold p_row
  by_cases g : 0 ≤ sh ∧ sh ≤ 3 ∧ 0 ≤ so ∧ so ≤ 2 ∧ 1 ≤ N ∧ N ≤ 40
  · rw [if_pos g]
    obtain ⟨g1, g2, g3, g4, g5, g6⟩ := g
    obtain ⟨x, rfl⟩ : ∃ x : Nat, sh = x := ⟨sh.toNat, by omega⟩
    obtain ⟨y, rfl⟩ : ∃ y : Nat, N = y := ⟨N.toNat, by omega⟩
    have hx : x < 4 := by omega
    have hsh : ∀ (XI : Nat → Int32) (XA : Nat → Nat → Int32) (XP : Nat → Nat → Option Nat) (XC : Value) (MI : Nat → Int32) (MA : Nat → Nat → Int32) (ML : Nat → Nat → Int64) (D : en_H) (f0 : Option en_R) (f : Nat → Option en_R), en_aA (hp XI XA XP XC MI MA ML D) 4 (iO (x : Int)) f0 f = f (18 + 2 * x) := by
      intro XI XA XP XC MI MA ML D f0 f
      rw [hp_a_4, if_pos ((iO_ix (by unfold i32; omega)).mpr (by omega)), iO_nat (by omega) (by unfold i32; omega), Int.toNat_natCast, sh_q hx]
      rfl
    have hms : ∀ (XI : Nat → Int32) (XA : Nat → Nat → Int32) (XP : Nat → Nat → Option Nat) (XC : Value) (MI : Nat → Int32) (MA : Nat → Nat → Int32) (ML : Nat → Nat → Int64) (D : en_H) (so : Int), XI (15 + 2 * x) = iO so → -1 ≤ so → so ≤ 2 → f_X6_isMissing sc (n + 39) (18 + 2 * x) (hp XI XA XP XC MI MA ML D) = some (some (.int (iO (if 0 ≤ so then 0 else 1))), hp XI XA XP XC MI MA ML D) := by
      intro XI XA XP XC MI MA ML D so h1 h2 h3
      rw [e_X6_isMissing, sh_1 hx, h1]
      by_cases g : 0 ≤ so
      · rw [if_pos g, if_pos (show 0 ≤ iO so from ple (a := 0) (b := so) (by unfold i32; omega) (by unfold i32; omega) g)]; rfl
      · rw [if_neg g, if_neg (show ¬ 0 ≤ iO so from nle (a := 0) (b := so) (by unfold i32; omega) (by unfold i32; omega) (by omega))]; rfl
    rw [Int.toNat_natCast, Int.toNat_natCast]
    obtain ⟨s1, s2, s3, s4, -, s6⟩ := hS.2.2.2.2.1 x (by omega)
    by_cases gl : 10 ≤ S.2.1.length
    · rw [if_pos gl]
      apply cs_ref
      intro XI XA XP XC MI MA ML D Γ hV
      have w2 := hV.2.1
      show f_X11_row sc (n + 40) 1 (iO (x : Int)) (iO so) (iO (y : Int)) _ = _
      rw [e_X11_row, if_neg (show ¬ (iO (x : Int) < 0) from nlt (a := (x : Int)) (b := 0) (by unfold i32; omega) (by unfold i32; omega) (by omega)), if_neg (show ¬ (4 ≤ iO (x : Int)) from nle (a := 4) (b := (x : Int)) (by unfold i32; omega) (by unfold i32; omega) (by omega)), if_neg (show ¬ (iO so < 0) from nlt (a := so) (b := 0) (by unfold i32; omega) (by unfold i32; omega) (by omega)), if_neg (show ¬ (2 < iO so) from nlt (a := 2) (b := so) (by unfold i32; omega) (by unfold i32; omega) (by omega)), if_neg (show ¬ (iO (y : Int) < 1) from nlt (a := (y : Int)) (b := 1) (by unfold i32; omega) (by unfold i32; omega) (by omega)), if_pos (show iO (y : Int) ≤ 40 from ple (a := (y : Int)) (b := 40) (by unfold i32; omega) (by unfold i32; omega) (by omega)), hp_g_1_9, w2, if_neg (show ¬ iO (S.2.1.length : Int) < 10 from nlt (a := (S.2.1.length : Int)) (b := 10) (by unfold i32; omega) (by unfold i32; omega) (by omega)), hp_cc_1, if_pos rfl, x_refuse]; rfl
    rw [if_neg gl]
    by_cases g7 : (S.2.2.1 x).1 = -1
    · rw [if_pos g7]
      apply cs_ref
      intro XI XA XP XC MI MA ML D Γ hV
      have w2 := hV.2.1
      obtain ⟨t1, t2, t3⟩ := hV.2.2.2.2.2.2.1 x (by omega)
      show f_X11_row sc (n + 40) 1 (iO (x : Int)) (iO so) (iO (y : Int)) _ = _
      rw [e_X11_row, if_neg (show ¬ (iO (x : Int) < 0) from nlt (a := (x : Int)) (b := 0) (by unfold i32; omega) (by unfold i32; omega) (by omega)), if_neg (show ¬ (4 ≤ iO (x : Int)) from nle (a := 4) (b := (x : Int)) (by unfold i32; omega) (by unfold i32; omega) (by omega)), if_neg (show ¬ (iO so < 0) from nlt (a := so) (b := 0) (by unfold i32; omega) (by unfold i32; omega) (by omega)), if_neg (show ¬ (2 < iO so) from nlt (a := 2) (b := so) (by unfold i32; omega) (by unfold i32; omega) (by omega)), if_neg (show ¬ (iO (y : Int) < 1) from nlt (a := (y : Int)) (b := 1) (by unfold i32; omega) (by unfold i32; omega) (by omega)), if_pos (show iO (y : Int) ≤ 40 from ple (a := (y : Int)) (b := 40) (by unfold i32; omega) (by unfold i32; omega) (by omega)), hp_g_1_9, w2, if_pos (show iO (S.2.1.length : Int) < 10 from plt (a := (S.2.1.length : Int)) (b := 10) (by unfold i32; omega) (by unfold i32; omega) (by omega)), hp_g_1_2, hsh, sh_cc hx, if_pos rfl, hms XI XA XP XC MI MA ML D _ t1 s1 s2, if_neg (show ¬ 0 ≤ (S.2.2.1 x).1 by omega), bI_s, if_neg (show ¬ iO 1 = 0 by decide), hp_cc_1, if_pos rfl, x_refuse]; rfl
    rw [if_neg g7]
    by_cases g8 : (S.2.2.1 x).1 ≠ so
    · rw [if_pos g8]
      apply cs_ref
      intro XI XA XP XC MI MA ML D Γ hV
      have w2 := hV.2.1
      obtain ⟨t1, t2, t3⟩ := hV.2.2.2.2.2.2.1 x (by omega)
      show f_X11_row sc (n + 40) 1 (iO (x : Int)) (iO so) (iO (y : Int)) _ = _
      rw [e_X11_row, if_neg (show ¬ (iO (x : Int) < 0) from nlt (a := (x : Int)) (b := 0) (by unfold i32; omega) (by unfold i32; omega) (by omega)), if_neg (show ¬ (4 ≤ iO (x : Int)) from nle (a := 4) (b := (x : Int)) (by unfold i32; omega) (by unfold i32; omega) (by omega)), if_neg (show ¬ (iO so < 0) from nlt (a := so) (b := 0) (by unfold i32; omega) (by unfold i32; omega) (by omega)), if_neg (show ¬ (2 < iO so) from nlt (a := 2) (b := so) (by unfold i32; omega) (by unfold i32; omega) (by omega)), if_neg (show ¬ (iO (y : Int) < 1) from nlt (a := (y : Int)) (b := 1) (by unfold i32; omega) (by unfold i32; omega) (by omega)), if_pos (show iO (y : Int) ≤ 40 from ple (a := (y : Int)) (b := 40) (by unfold i32; omega) (by unfold i32; omega) (by omega)), hp_g_1_9, w2, if_pos (show iO (S.2.1.length : Int) < 10 from plt (a := (S.2.1.length : Int)) (b := 10) (by unfold i32; omega) (by unfold i32; omega) (by omega)), hp_g_1_2, hsh, sh_cc hx, if_pos rfl, hms XI XA XP XC MI MA ML D _ t1 s1 s2, if_pos (show 0 ≤ (S.2.2.1 x).1 by omega), bI_s, if_pos (show iO 0 = 0 from rfl), sh_1 hx, t1, if_neg (fun q => g8 ((iO_eq (by unfold i32; omega) (by unfold i32; omega)).mp q)), hp_cc_1, if_pos rfl, x_refuse]; rfl
    rw [if_neg g8]
    have g8 : (S.2.2.1 x).1 = so := by omega
    by_cases g9 : (S.2.2.1 x).2.1 < (y : Int)
    · rw [if_pos g9]
      apply cs_ref
      intro XI XA XP XC MI MA ML D Γ hV
      have w2 := hV.2.1
      obtain ⟨t1, t2, t3⟩ := hV.2.2.2.2.2.2.1 x (by omega)
      show f_X11_row sc (n + 40) 1 (iO (x : Int)) (iO so) (iO (y : Int)) _ = _
      rw [e_X11_row, if_neg (show ¬ (iO (x : Int) < 0) from nlt (a := (x : Int)) (b := 0) (by unfold i32; omega) (by unfold i32; omega) (by omega)), if_neg (show ¬ (4 ≤ iO (x : Int)) from nle (a := 4) (b := (x : Int)) (by unfold i32; omega) (by unfold i32; omega) (by omega)), if_neg (show ¬ (iO so < 0) from nlt (a := so) (b := 0) (by unfold i32; omega) (by unfold i32; omega) (by omega)), if_neg (show ¬ (2 < iO so) from nlt (a := 2) (b := so) (by unfold i32; omega) (by unfold i32; omega) (by omega)), if_neg (show ¬ (iO (y : Int) < 1) from nlt (a := (y : Int)) (b := 1) (by unfold i32; omega) (by unfold i32; omega) (by omega)), if_pos (show iO (y : Int) ≤ 40 from ple (a := (y : Int)) (b := 40) (by unfold i32; omega) (by unfold i32; omega) (by omega)), hp_g_1_9, w2, if_pos (show iO (S.2.1.length : Int) < 10 from plt (a := (S.2.1.length : Int)) (b := 10) (by unfold i32; omega) (by unfold i32; omega) (by omega)), hp_g_1_2, hsh, sh_cc hx, if_pos rfl, hms XI XA XP XC MI MA ML D _ t1 s1 s2, if_pos (show 0 ≤ (S.2.2.1 x).1 by omega), bI_s, if_pos (show iO 0 = 0 from rfl), sh_1 hx, t1, if_pos (show iO (S.2.2.1 x).1 = iO so by rw [g8]), sh_2 hx, t2, if_neg (nle (a := (y : Int)) (b := (S.2.2.1 x).2.1) (by unfold i32; omega) (by unfold i32; omega) (by omega)), hp_cc_1, if_pos rfl, x_refuse]; rfl
    rw [if_neg g9]
    have tell : ∀ (XI : Nat → Int32) (XA : Nat → Nat → Int32) (XP : Nat → Nat → Option Nat) (XC : Value) (MI : Nat → Int32) (MA : Nat → Nat → Int32) (ML : Nat → Nat → Int64) (D : en_H) (Γ : Nat → Option GD), CV S Γ XI XA XP D → f_X6_tellsSteps sc (n + 39) (18 + 2 * x) (iO (y : Int)) (hp XI XA XP XC MI MA ML D) = some (some (.int (iO (if chk (S.2.2.1 x).2.2 y 0 = true then 1 else 0))), hp XI XA XP XC MI MA ML D) := by
      intro XI XA XP XC MI MA ML D Γ hV
      obtain ⟨t1, t2, t3⟩ := hV.2.2.2.2.2.2.1 x (by omega)
      rw [e_X6_tellsSteps]
      exact x_tells hx (by omega) s6 t3 y 0 (by omega)
    by_cases g11 : chk (S.2.2.1 x).2.2 y 0 = true
    · rw [if_pos g11]
      intro XI XA XP XC MI MA ML D Γ hV
      obtain ⟨t1, t2, t3⟩ := hV.2.2.2.2.2.2.1 x (by omega)
      have w2 := hV.2.1
      have hH := hV.2.2.2.2.2.2.2.2
      have ht := tell XI XA XP XC MI MA ML D Γ hV
      rw [if_pos g11] at ht
      have hΓ : Γ D.length = none := by
        cases hc : Γ D.length with
        | none => rfl
        | some y =>
          obtain ⟨-, fs, y2⟩ := rc_cls (hH D.length y hc).2.2.2
          have := nt_lt y2
          omega
      -- the copy
      obtain ⟨g', f1, f2, f3⟩ := x_copy_loop (sc := sc) (n := n + 38) (XI := XI) (XA := XA) (XP := XP) (XC := XC) (MI := MI) (MA := MA) (ML := ML) (k := x) (N := y) (a2n1 D (.inr (8, en_df 8)) (.inl (0, y, .inl (fun _ => 0)))) hx (by omega) y 0 (fun _ => 0) (by omega)
      rw [a2s1, a2s1] at f1
      have hfa : FA D (D ++ [.inr (8, [.int (iO (S.2.1.length : Nat)), .int (iO 0), .ref (D.length + 52)]), .inl (0, y, .inl g')]) := FA.app D _
      have hnew : HV (va_up Γ D.length (some (0, S.2.1.length, 0, -1, y, (S.2.2.1 x).2.2, (0, 0, 0, 0)))) (D ++ [.inr (8, [.int (iO (S.2.1.length : Nat)), .int (iO 0), .ref (D.length + 52)]), .inl (0, y, .inl g')]) := by
        refine HV_new hH hfa hΓ (by show S.2.1.length ≤ 9; omega) (by show y ≤ 10001; omega) (fun i hi => chk_ok g11 i (by omega) (by have : i < y := hi; omega)) ?_
        refine Or.inl ⟨rfl, g', a2n0 D _ _, a2n1 D _ _, fun i hi => ?_, by show y ≤ 40; omega⟩
        have hi : i < y := hi
        rw [f3 i (by omega) hi]
        exact t3 i (by omega)
      obtain ⟨XI', XP', D', Γ', k1, k2, k3, k4⟩ := x_keep (sc := sc) (n := n + 1) (XC := XC) (MI := MI) (MA := MA) (ML := ML) hV hS (by omega) hfa hnew (fun x y h => by rw [w_ne (fun e => by rw [e, hΓ] at h; cases h)]; exact h) hΓ (w_eq rfl) rfl (fun h => by rcases h with h | h <;> exact absurd (show (0 : Int) = _ from h) (by decide))
      refine ⟨XI', XA, XP', XC, D', Γ', ?_, k2, gr_app k3 k4 (by simp) ?_⟩
      · show f_X11_row sc (n + 40) 1 (iO (x : Int)) (iO so) (iO (y : Int)) _ = _
        have hcopy : f_X6_copyOf sc (n + 39) (18 + 2 * x) (iO (y : Int)) (hp XI XA XP XC MI MA ML (D ++ [.inr (8, en_df 8)])) = some (some (.ref (D.length + 52)), hp XI XA XP XC MI MA ML (D ++ [.inr (8, en_df 8), .inl (0, y, .inl g')])) := by
          have hmx := e_maxI (sc := sc) (n := n + 37) (a := 0) (b := (y : Int)) (z := hp XI XA XP XC MI MA ML (D ++ [.inr (8, en_df 8)])) (by unfold i32; omega) (by unfold i32; omega)
          rw [show max (0 : Int) (y : Int) = (y : Int) by omega] at hmx
          have hmx : f_J9_max_7cf53 sc (n + 38) 0 (iO (y : Int)) (hp XI XA XP XC MI MA ML (D ++ [.inr (8, en_df 8)])) = _ := hmx
          rw [e_X6_copyOf, hmx, bI_s, if_pos ((iO_ix (by unfold i32; omega)).mpr (by omega)), hp_nw, iO_nat (by omega) (by unfold i32; omega), Int.toNat_natCast, show (D ++ [.inr (8, en_df 8)]) ++ [.inl (0, y, .inl (fun _ => 0))] = (D ++ [.inr (8, en_df 8), .inl (0, y, .inl (fun _ => 0))] : en_H) by simp, show (D ++ [(.inr (8, en_df 8) : va_E)]).length + 51 = D.length + 52 by simp]
          exact f1
        have hinit : f_X9_init sc (n + 39) (D.length + 51) (iO (S.2.1.length : Nat)) (D.length + 52) (hp XI XA XP XC MI MA ML (D ++ [.inr (8, en_df 8), .inl (0, y, .inl g')])) = some (none, hp XI XA XP XC MI MA ML (D ++ [.inr (8, [.int (iO (S.2.1.length : Nat)), .int (iO 0), .ref (D.length + 52)]), .inl (0, y, .inl g')])) := by
          rw [e_X9_init, d_vt (a2n0 D _ _)]
          show en_bV (f_X5_init sc (n + 38) (D.length + 51) (iO (S.2.1.length : Nat)) (hp XI XA XP XC MI MA ML (D ++ [.inr (8, en_df 8), .inl (0, y, .inl g')]))) _ = _
          rw [e_X5_init, d_pf (a2n0 D _ _) (x := 0) rfl rfl, a2s0, bV_s, d_pf (a2n0 D _ _) (x := 0) rfl rfl, a2s0]
          rfl
        have hcc : ∀ (D1 : en_H) (fs : List Value), en_nt D1 D.length = some (.inr (8, fs)) → ∀ (g : Nat → Option en_R), en_cc (hp XI XA XP XC MI MA ML D1) (D.length + 51) g = g 8 := fun D1 fs h g => d_cc h g
        have hcc2 := hcc _ _ (a2n0 D (.inr (8, en_df 8)) (.inl (0, y, .inl g')))
        rw [e_X11_row, if_neg (show ¬ (iO (x : Int) < 0) from nlt (a := (x : Int)) (b := 0) (by unfold i32; omega) (by unfold i32; omega) (by omega)), if_neg (show ¬ (4 ≤ iO (x : Int)) from nle (a := 4) (b := (x : Int)) (by unfold i32; omega) (by unfold i32; omega) (by omega)), if_neg (show ¬ (iO so < 0) from nlt (a := so) (b := 0) (by unfold i32; omega) (by unfold i32; omega) (by omega)), if_neg (show ¬ (2 < iO so) from nlt (a := 2) (b := so) (by unfold i32; omega) (by unfold i32; omega) (by omega)), if_neg (show ¬ (iO (y : Int) < 1) from nlt (a := (y : Int)) (b := 1) (by unfold i32; omega) (by unfold i32; omega) (by omega)), if_pos (show iO (y : Int) ≤ 40 from ple (a := (y : Int)) (b := 40) (by unfold i32; omega) (by unfold i32; omega) (by omega)), hp_g_1_9, w2, if_pos (show iO (S.2.1.length : Int) < 10 from plt (a := (S.2.1.length : Int)) (b := 10) (by unfold i32; omega) (by unfold i32; omega) (by omega)), hp_g_1_2, hsh, sh_cc hx, if_pos rfl, hms XI XA XP XC MI MA ML D _ t1 s1 s2, if_pos (show 0 ≤ (S.2.2.1 x).1 by omega), bI_s, if_pos (show iO 0 = 0 from rfl), sh_1 hx, t1, if_pos (show iO (S.2.2.1 x).1 = iO so by rw [g8]), sh_2 hx, t2, if_pos (ple (a := (y : Int)) (b := (S.2.2.1 x).2.1) (by unfold i32; omega) (by unfold i32; omega) (by omega)), sh_cc hx, if_pos rfl, ht, bI_s, if_neg (show ¬ iO 1 = 0 by decide), hp_nw, hp_g_1_9, w2, sh_cc hx, if_pos rfl, hcopy, bA_s, hcc2, if_pos rfl, hinit, bV_s, hp_cc_1, if_pos rfl, k1]; rfl
      · have : en_sz [.inr (8, [.int (iO (S.2.1.length : Nat)), .int (iO 0), .ref (D.length + 52)]), .inl (0, y, .inl g')] = 3 + y := by simp [en_sz, en_s0]
        rw [this]; omega
    · rw [if_neg g11]
      apply cs_ref
      intro XI XA XP XC MI MA ML D Γ hV
      have w2 := hV.2.1
      obtain ⟨t1, t2, t3⟩ := hV.2.2.2.2.2.2.1 x (by omega)
      have ht := tell XI XA XP XC MI MA ML D Γ hV
      rw [if_neg g11] at ht
      show f_X11_row sc (n + 40) 1 (iO (x : Int)) (iO so) (iO (y : Int)) _ = _
      rw [e_X11_row, if_neg (show ¬ (iO (x : Int) < 0) from nlt (a := (x : Int)) (b := 0) (by unfold i32; omega) (by unfold i32; omega) (by omega)), if_neg (show ¬ (4 ≤ iO (x : Int)) from nle (a := 4) (b := (x : Int)) (by unfold i32; omega) (by unfold i32; omega) (by omega)), if_neg (show ¬ (iO so < 0) from nlt (a := so) (b := 0) (by unfold i32; omega) (by unfold i32; omega) (by omega)), if_neg (show ¬ (2 < iO so) from nlt (a := 2) (b := so) (by unfold i32; omega) (by unfold i32; omega) (by omega)), if_neg (show ¬ (iO (y : Int) < 1) from nlt (a := (y : Int)) (b := 1) (by unfold i32; omega) (by unfold i32; omega) (by omega)), if_pos (show iO (y : Int) ≤ 40 from ple (a := (y : Int)) (b := 40) (by unfold i32; omega) (by unfold i32; omega) (by omega)), hp_g_1_9, w2, if_pos (show iO (S.2.1.length : Int) < 10 from plt (a := (S.2.1.length : Int)) (b := 10) (by unfold i32; omega) (by unfold i32; omega) (by omega)), hp_g_1_2, hsh, sh_cc hx, if_pos rfl, hms XI XA XP XC MI MA ML D _ t1 s1 s2, if_pos (show 0 ≤ (S.2.2.1 x).1 by omega), bI_s, if_pos (show iO 0 = 0 from rfl), sh_1 hx, t1, if_pos (show iO (S.2.2.1 x).1 = iO so by rw [g8]), sh_2 hx, t2, if_pos (ple (a := (y : Int)) (b := (S.2.2.1 x).2.1) (by unfold i32; omega) (by unfold i32; omega) (by omega)), sh_cc hx, if_pos rfl, ht, bI_s, if_pos (show iO 0 = 0 from rfl), hp_cc_1, if_pos rfl, x_refuse]; rfl
  · rw [if_neg g]
    apply cs_ref
    intro XI XA XP XC MI MA ML D Γ hV
    show f_X11_row sc (n + 40) 1 (iO sh) (iO so) (iO N) _ = _
    rw [e_X11_row]
    by_cases t1 : sh < 0
    · clear g; rw [if_pos (show iO sh < 0 from plt (a := sh) (b := 0) (by unfold i32; omega) (by unfold i32; omega) (by omega)), hp_cc_1, if_pos rfl, x_refuse]; rfl
    rw [if_neg (show ¬ (iO sh < 0) from nlt (a := sh) (b := 0) (by unfold i32; omega) (by unfold i32; omega) (by omega))]
    by_cases t2 : 3 < sh
    · clear g; rw [if_pos (show 4 ≤ iO sh from ple (a := 4) (b := sh) (by unfold i32; omega) (by unfold i32; omega) (by omega)), hp_cc_1, if_pos rfl, x_refuse]; rfl
    rw [if_neg (show ¬ (4 ≤ iO sh) from nle (a := 4) (b := sh) (by unfold i32; omega) (by unfold i32; omega) (by omega))]
    by_cases t3 : so < 0
    · clear g; rw [if_pos (show iO so < 0 from plt (a := so) (b := 0) (by unfold i32; omega) (by unfold i32; omega) (by omega)), hp_cc_1, if_pos rfl, x_refuse]; rfl
    rw [if_neg (show ¬ (iO so < 0) from nlt (a := so) (b := 0) (by unfold i32; omega) (by unfold i32; omega) (by omega))]
    by_cases t4 : 2 < so
    · clear g; rw [if_pos (show 2 < iO so from plt (a := 2) (b := so) (by unfold i32; omega) (by unfold i32; omega) (by omega)), hp_cc_1, if_pos rfl, x_refuse]; rfl
    rw [if_neg (show ¬ (2 < iO so) from nlt (a := 2) (b := so) (by unfold i32; omega) (by unfold i32; omega) (by omega))]
    by_cases t5 : N < 1
    · clear g; rw [if_pos (show iO N < 1 from plt (a := N) (b := 1) (by unfold i32; omega) (by unfold i32; omega) (by omega)), hp_cc_1, if_pos rfl, x_refuse]; rfl
    rw [if_neg (show ¬ (iO N < 1) from nlt (a := N) (b := 1) (by unfold i32; omega) (by unfold i32; omega) (by omega))]
    have t6 : 40 < N := by omega
    clear g
    rw [if_neg (show ¬ (iO N ≤ 40) from nle (a := N) (b := 40) (by unfold i32; omega) (by unfold i32; omega) (by omega)), hp_cc_1, if_pos rfl, x_refuse]; rfl
end CRW
