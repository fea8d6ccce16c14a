/-! NEARERS: the model's loop, the call -/
def fbn : Nat → Int
  | 0 => 0
  | 1 => 1
  | n + 2 => fbn (n + 1) + fbn n
theorem fbn_20 : fbn 20 = 6765 := by decide
section NRL
variable {sc : en_S} {d : Nat} {XI : Nat → Int32} {XA : Nat → Nat → Int32} {XP : Nat → Nat → Option Nat} {XC : Value} {ML : Nat → Nat → Int64} {D : en_H} {k : Nat} {l : SL4}
theorem m_near_loop (hk : k < 8) (hS : SL l.1 l.2.1 l.2.2.1 l.2.2.2) : ∀ (j n : Nat) (MI : Nat → Int32) (MA : Nat → Nat → Int32) (R rest : List Int) (f : Nat) (x1 y1 x2 y2 qp : Int) (qc : Nat) (k0 e0 : Int), n + j = 2001 → MS MA k l.1 l.2.1 l.2.2.1 l.2.2.2 → MI 6 = iO (R.length : Int) → (∀ (t : Nat) (x : Int), R[t]? = some x → MA 12 t = iO x) → R.length < n → qc < n → 2 ≤ n → CST (PS l) x1 y1 x2 y2 qp qc → RL (PS l) f rest x1 y1 x2 y2 → (∀ q ∈ rest, 1 ≤ q) → f ≤ 19 → fbn (19 - f) ≤ qp → fbn (20 - f) ≤ (qc : Int) → DIST (PS l) qc (e0 * (qc : Int)) (e0 * k0) → PS l (x2 - e0 * (qc : Int)) (y2 - e0 * k0) → 0 ≤ k0 → k0 ≤ 40001 → (e0 = -1 ∨ e0 = 0 ∨ e0 = 1) → (∀ a r, rest = a :: r → (n : Int) ≤ a * (qc : Int) + qp ∧ (qc : Int) < a * (qc : Int) + qp) →
    ∃ MI' MA', b_X12_nearersOf_1 sc (d + 3) 26 (iO (k : Int)) (lO (qc : Int)) (lO k0) (iO e0) (iO (n : Int)) (hp XI XA XP XC MI MA ML D) = some (none, hp XI XA XP XC MI' MA' ML D) ∧ MI' 6 = iO ((R ++ lls2 rest qp (qc : Int)).length : Int) ∧ (∀ (t : Nat) (x : Int), (R ++ lls2 rest qp (qc : Int))[t]? = some x → MA' 12 t = iO x) ∧ (∀ s, s ≠ 6 → MI' s = MI s) ∧ (∀ m, m ≠ 12 → MA' m = MA m) := by
  have hO := PS_ord hS
  intro j
  induction j with
  | zero =>
    intro n MI MA R rest f x1 y1 x2 y2 qp qc k0 e0 hn hM h6 h12 hR hqc hn2 hC hL hq hf hf1 hf2 hd hp0 b1 b2 b3 hnx
    have hnil : lls2 rest qp (qc : Int) = [] := by
      cases rest with
      | nil => rfl
      | cons a r =>
        have := (hnx a r rfl).1
        rw [lls2, if_pos (by omega)]
    rw [hnil, List.append_nil]
    refine ⟨MI, MA, ?_, h6, h12, fun _ _ => rfl, fun _ _ => rfl⟩
    rw [eb_X12_nearersOf_1, if_pos (show 2000 < iO (n : Int) from plt (a := 2000) (b := (n : Int)) (by unfold i32; omega) (by unfold i32; omega) (by omega))]
  | succ j ih =>
    intro n MI MA R rest f x1 y1 x2 y2 qp qc k0 e0 hn hM h6 h12 hR hqc hn2 hC hL hq hf hf1 hf2 hd hp0 b1 b2 b3 hnx
    obtain ⟨kk, e, g1, g2, g3, g4, g5, g6⟩ := m_near_step (sc := sc) (d := d) (XI := XI) (XA := XA) (XP := XP) (XC := XC) (ML := ML) (D := D) hk hM hS (n := n) (by omega) (by omega) (n0 := (qc : Int)) (k0 := k0) (e0 := e0) (by omega) (by omega) b1 b2 b3 (r := R.length) h6 (by omega)
    have skip : PS l (e * (n : Int) - e0 * (qc : Int)) (e * kk - e0 * k0) → (∀ a r, rest = a :: r → ((n + 1 : Nat) : Int) ≤ a * (qc : Int) + qp ∧ (qc : Int) < a * (qc : Int) + qp) → ∃ MI' MA', b_X12_nearersOf_1 sc (d + 3) 26 (iO (k : Int)) (lO (qc : Int)) (lO k0) (iO e0) (iO (n : Int)) (hp XI XA XP XC MI MA ML D) = some (none, hp XI XA XP XC MI' MA' ML D) ∧ MI' 6 = iO ((R ++ lls2 rest qp (qc : Int)).length : Int) ∧ (∀ (t : Nat) (x : Int), (R ++ lls2 rest qp (qc : Int))[t]? = some x → MA' 12 t = iO x) ∧ (∀ s, s ≠ 6 → MI' s = MI s) ∧ (∀ m, m ≠ 12 → MA' m = MA m) := by
      intro hP hnx'
      obtain ⟨MI', MA', k1, k2⟩ := ih (n + 1) MI MA R rest f x1 y1 x2 y2 qp qc k0 e0 (by omega) hM h6 h12 (by omega) (by omega) (by omega) hC hL hq hf hf1 hf2 hd hp0 b1 b2 b3 hnx'
      refine ⟨MI', MA', ?_, k2⟩
      rw [← k1]
      exact g6 ⟨by omega, hP⟩
    cases rest with
    | nil =>
      refine skip ?_ (fun a r h => by cases h)
      have hcur : PS l (-x2) (-y2) := by
        rcases RL_nil.1 hL with h | h
        · exfalso
          rw [h, fbn_20] at hf2
          omega
        · exact h
      have := hO.1 _ _ _ _ g1.1 (hO.1 _ _ _ _ hp0 hcur)
      rw [show e * (n : Int) + (x2 - e0 * (qc : Int) + -x2) = e * (n : Int) - e0 * (qc : Int) by omega, show e * kk + (y2 - e0 * k0 + -y2) = e * kk - e0 * k0 by omega] at this
      exact this
    | cons a r =>
      obtain ⟨n1, n2⟩ := hnx a r rfl
      have ha : 1 ≤ a := hq a (List.mem_cons_self ..)
      cases f with
      | zero => exact (show False from hL).elim
      | succ f =>
        obtain ⟨l1, l2, l3, l4⟩ := hL
        by_cases hlt : (n : Int) < a * (qc : Int) + qp
        · refine skip (near_not hO hC ha l1 l2 (by omega) hlt g1 hp0) (fun a' r' h => ?_)
          cases h
          exact ⟨by omega, n2⟩
        · have hne : (n : Int) = a * (qc : Int) + qp := by omega
          obtain ⟨m1, m2⟩ := near_yes hO hC ha l1 l2 l3 n2 hne g1 hd
          have hCn := hC.next ha l2
          rw [← hne] at hCn
          have hqp : 0 ≤ qp := hC.2.2.2.2.1
          have hqc1 : 1 ≤ (qc : Int) := hC.2.2.2.2.2
          have hfr : fbn (20 - f) ≤ (n : Int) := by
            rw [show 20 - f = (19 - (f + 1)) + 2 by omega]
            show fbn (19 - (f + 1) + 1) + fbn (19 - (f + 1)) ≤ _
            rw [show 19 - (f + 1) + 1 = 20 - (f + 1) by omega]
            have : (qc : Int) ≤ a * (qc : Int) := by
              have := Int.mul_le_mul_of_nonneg_right ha (show 0 ≤ (qc : Int) by omega)
              rwa [Int.one_mul] at this
            omega
          obtain ⟨MI', MA', k1, k2, k3, k4, k5⟩ := ih (n + 1) (va_up MI 6 (iO ((R.length : Int) + 1))) (va_up MA 12 (upd (MA 12) R.length (iO (n : Int)))) (R ++ [(n : Int)]) r f x2 y2 (x1 - a * x2) (y1 - a * y2) (qc : Int) n kk e (by omega) hM (by rw [List.length_append]; rfl) (by
            intro t x htx
            rw [w_eq rfl]
            rw [List.getElem?_append] at htx
            split at htx
            · rename_i hh
              rw [u_ne (by omega)]
              exact h12 t x htx
            · rename_i hh
              have ht : t = R.length := by
                have := (List.getElem?_eq_some_iff.mp htx).1
                simp at this
                omega
              subst ht
              rw [Nat.sub_self] at htx
              cases htx
              rw [u_eq rfl]) (by rw [List.length_append]; show R.length + 1 < n + 1; omega) (by omega) (by omega) hCn l4 (fun q hq' => hq q (List.mem_cons_of_mem _ hq')) (by omega) (by rw [show 19 - f = 20 - (f + 1) by omega]; exact hf2) hfr g1 m2 g2 g3 g4 (by
            intro a' r' h'
            have ha' : 1 ≤ a' := hq a' (by rw [h']; exact List.mem_cons_of_mem _ (List.mem_cons_self ..))
            have := Int.mul_le_mul_of_nonneg_right ha' (show 0 ≤ (n : Int) by omega)
            rw [Int.one_mul] at this
            omega)
          have hlist : R ++ lls2 (a :: r) qp (qc : Int) = R ++ [(n : Int)] ++ lls2 r (qc : Int) (n : Int) := by
            rw [lls2, ← hne, if_neg (by omega), if_neg (by omega), List.append_assoc]
            rfl
          rw [hlist]
          refine ⟨MI', MA', ?_, k2, k3, fun s hs => by rw [k4 s hs, w_ne hs], fun m hm => by rw [k5 m hm, w_ne hm]⟩
          rw [← k1]
          exact g5 (Or.inr m1)
theorem m_nearersOf (hk : k < 8) (hS : SL l.1 l.2.1 l.2.2.1 l.2.2.2) {MI : Nat → Int32} {MA : Nat → Nat → Int32} (hM : MS MA k l.1 l.2.1 l.2.2.1 l.2.2.2) : ∃ MI' MA', ∃ NL : List Int, f_X12_nearersOf sc (d + 4) 26 (iO (k : Int)) (hp XI XA XP XC MI MA ML D) = some (none, hp XI XA XP XC MI' MA' ML D) ∧ MI' 6 = iO (NL.length : Int) ∧ (∀ (t : Nat) (x : Int), NL[t]? = some x → MA' 12 t = iO x) ∧ (∀ s, s ≠ 6 → MI' s = MI s) ∧ (∀ m, m ≠ 12 → MA' m = MA m) ∧ NL.length ≤ 2001 ∧ (∀ (t : Nat) (x : Int), NL[t]? = some x ↔ (ll (qls l))[t]? = some x ∧ x ≤ 2000) := by
  have hO := PS_ord hS
  obtain ⟨hQB, hlen1, hlen2⟩ := qls_QB hS
  have hRL : RL (PS l) 20 (qls l) 1 0 0 (-1) := ql_RL (P := PS l) hS.dpos 20 l.1 l.2.1 l.2.2.1 1 0 0 (-1) hS.cpos (fun h => by obtain ⟨-, -, -, -, -, -, -, -, h1, -⟩ := hS; exact h1 h) (fun x y => by
    unfold PS
    rw [show x * 1 - y * 0 = x by omega, show x * 0 - y * -1 = y by omega, Int.mul_comm x l.1, Int.mul_comm x l.2.1]) (fun h => by
    have := (hO.2.2 1).mp h
    omega)
  have hll : ll (qls l) = 1 :: lls (qls l).tail 0 1 := rfl
  rw [hll]
  cases hqs : qls l with
  | nil => rw [hqs] at hlen1; simp at hlen1
  | cons a0 rest =>
    rw [hqs] at hRL hQB
    obtain ⟨r1, r2, r3, r4⟩ := hRL
    rw [show (1 : Int) - a0 * 0 = 1 by omega, show (0 : Int) - a0 * -1 = a0 by omega] at r2 r4
    have hq : ∀ q ∈ rest, 1 ≤ q := by
      intro q hq
      obtain ⟨i, hi⟩ := List.mem_iff_getElem?.mp hq
      exact (hQB (i + 1) q (by rw [List.getElem?_cons_succ]; exact hi)).2.2 (by omega)
    obtain ⟨kk, e, g1, g2, g3, g4, g5, -⟩ := m_near_step (sc := sc) (d := d) (XI := XI) (XA := XA) (XP := XP) (XC := XC) (ML := ML) (D := D) (MI := va_up MI 6 (iO 0)) hk hM hS (n := 1) (by omega) (by omega) (n0 := 0) (k0 := 0) (e0 := 0) (by omega) (by omega) (by omega) (by omega) (by omega) (r := 0) rfl (by omega)
    have g5 := g5 (Or.inl rfl)
    have st : f_X12_nearersOf sc (d + 4) 26 (iO (k : Int)) (hp XI XA XP XC MI MA ML D) = b_X12_nearersOf_1 sc (d + 3) 26 (iO (k : Int)) (lO ((1 : Nat) : Int)) (lO kk) (iO e) (iO ((2 : Nat) : Int)) (hp XI XA XP XC (va_up (va_up MI 6 (iO 0)) 6 (iO 1)) (va_up MA 12 (upd (MA 12) 0 (iO 1))) ML D) := by
      refine Eq.trans ?_ g5
      rw [e_X12_nearersOf, hp_p_26_21]
      rfl
    have hc0 : CST (PS l) 0 (-1) 1 a0 0 1 := ⟨(hO.2.2 (-1)).mpr (by omega), r2, Or.inl (by omega), Or.inr ⟨by omega, rfl⟩, by omega, by omega⟩
    have h12 : ∀ (t : Nat) (x : Int), ([1] : List Int)[t]? = some x → va_up MA 12 (upd (MA 12) 0 (iO 1)) 12 t = iO x := by
      intro t x h
      cases t with
      | zero => cases h; rfl
      | succ t => simp at h
    have hiff : ∀ (t : Nat) (x : Int), ((1 : Int) :: lls2 rest 0 1)[t]? = some x ↔ ((1 : Int) :: lls rest 0 1)[t]? = some x ∧ x ≤ 2000 := by
      intro t x
      cases t with
      | zero =>
        simp
        omega
      | succ t =>
        rw [List.getElem?_cons_succ, List.getElem?_cons_succ]
        exact lls2_iff rest 0 1 t x hq (by omega) (by omega)
    have hbd : ∀ (r : List Int) (b c : Int), (lls2 r b c).length ≤ r.length := by
      intro r
      induction r with
      | nil => intro b c; exact Nat.le_refl _
      | cons q r ih =>
        intro b c
        rw [lls2]
        split
        · simp
        · split
          · have := ih c (q * c + b); simp; omega
          · have := ih c (q * c + b); simp; omega
    have hlr : rest.length ≤ 19 := by rw [hqs] at hlen2; simp at hlen2; omega
    show ∃ MI' MA', ∃ NL : List Int, _ ∧ _ ∧ _ ∧ _ ∧ _ ∧ _ ∧ ∀ (t : Nat) (x : Int), NL[t]? = some x ↔ ((1 : Int) :: lls rest 0 1)[t]? = some x ∧ x ≤ 2000
    by_cases hone : ∃ r, rest = 1 :: r
    · obtain ⟨r, rfl⟩ := hone
      obtain ⟨q1, q2, q3, q4⟩ := r4
      have hc1 := hc0.next (a := 1) (by omega) q2
      rw [show (1 : Int) * 1 + 0 = ((1 : Nat) : Int) by omega] at hc1
      obtain ⟨MI', MA', k1, k2, k3, k4, k5⟩ := m_near_loop (sc := sc) (d := d) (XI := XI) (XA := XA) (XP := XP) (XC := XC) (ML := ML) (D := D) hk hS 1999 2 (va_up (va_up MI 6 (iO 0)) 6 (iO 1)) (va_up MA 12 (upd (MA 12) 0 (iO 1))) [1] r 18 1 a0 (0 - 1 * 1) (-1 - 1 * a0) 1 1 kk e (by omega) hM rfl h12 (by simp) (by omega) (by omega) hc1 q4 (fun q h => hq q (List.mem_cons_of_mem _ h)) (by omega) (by show fbn 1 ≤ 1; decide) (by show fbn 2 ≤ 1; decide) g1 (g1.2.2 _ _ (by omega) q2) g2 g3 g4 (by
        intro a r' h
        have := hq a (by rw [h]; exact List.mem_cons_of_mem _ (List.mem_cons_self ..))
        omega)
      have hl2 : lls2 (1 :: r) 0 1 = lls2 r 1 1 := by
        rw [lls2, if_neg (by omega), if_pos (by omega)]
        rfl
      refine ⟨MI', MA', [1] ++ lls2 r 1 ((1 : Nat) : Int), st.trans k1, k2, k3, fun s hs => by rw [k4 s hs, w_ne hs, w_ne hs], fun m hm => by rw [k5 m hm, w_ne hm], ?_, ?_⟩
      · have := hbd r 1 1
        simp at hlr ⊢
        omega
      · intro t x
        rw [← hiff, hl2]
        rfl
    · obtain ⟨MI', MA', k1, k2, k3, k4, k5⟩ := m_near_loop (sc := sc) (d := d) (XI := XI) (XA := XA) (XP := XP) (XC := XC) (ML := ML) (D := D) hk hS 1999 2 (va_up (va_up MI 6 (iO 0)) 6 (iO 1)) (va_up MA 12 (upd (MA 12) 0 (iO 1))) [1] rest 19 0 (-1) 1 a0 0 1 kk e (by omega) hM rfl h12 (by simp) (by omega) (by omega) hc0 r4 hq (by omega) (by show fbn 0 ≤ 0; decide) (by show fbn 1 ≤ 1; decide) g1 (g1.2.2 _ _ (by omega) r2) g2 g3 g4 (by
        intro a r' h
        have h1 := hq a (by rw [h]; exact List.mem_cons_self ..)
        have h2 : a ≠ 1 := fun q => hone ⟨r', by rw [h, q]⟩
        omega)
      refine ⟨MI', MA', [1] ++ lls2 rest 0 ((1 : Nat) : Int), st.trans k1, k2, k3, fun s hs => by rw [k4 s hs, w_ne hs, w_ne hs], fun m hm => by rw [k5 m hm, w_ne hm], ?_, ?_⟩
      · have := hbd rest 0 1
        simp
        omega
      · intro t x
        rw [← hiff]
        rfl
end NRL
section NRC
variable {sc : en_S} {n : Nat} {S : ST5}
theorem mc_nearer (hS : OK5 S) {s i : Int} (hs : i32 s) (hi : i32 i) : MC S S (p_nearer S s i) (fun z => f_X12_nearer sc (n + 40) 26 (iO s) (iO i) z) := by
  obtain ⟨i1, i2⟩ := id hi
  have h8 := hS.1
  cases hq : slq S s with
  | none =>
    have hpv : p_nearer S s i = -1 := by
      unfold p_nearer p_line
      rw [hq]
      rfl
    rw [hpv]
    apply mc_ask
    intro XI XA XP XC MI MA ML D hV
    have := slq_none hq
    show f_X12_nearer sc (n + 40) 26 (iO s) (iO i) _ = _
    rw [e_X12_nearer, hp_cc_26, if_pos rfl, e_misSlope hV hS hs, if_neg (by omega)]
    rfl
  | some l =>
    obtain ⟨k, rfl, hk, hq1'⟩ := slq_some hq
    have hSl := hS.2.2.1 l (List.mem_of_getElem? hq1')
    have hpv : ∀ v : Int, (if 0 ≤ i ∧ i < ((ll (qls l)).length : Nat) then (ll (qls l)).getD i.toNat 0 else -1) = v → p_nearer S (k : Int) i = if v ≤ 2000 then v else -1 := by
      intro v hv
      have h : p_line S (k : Int) i = v := by
        rw [← hv]
        unfold p_line
        rw [hq]
      unfold p_nearer
      rw [h]
    by_cases gi : 0 ≤ i
    · intro XI XA XP XC MI MA ML D hV hP
      have hM := hV.2.2.2.2.1 k l hq1'
      obtain ⟨MI', MA', NL, f1, f2, f3, f4, f5, f6, f7⟩ := m_nearersOf (sc := sc) (d := n + 35) (XI := XI) (XA := XA) (XP := XP) (XC := XC) (ML := ML) (D := D) (MI := MI) (k := k) (by omega) hSl hM
      refine ⟨MI', MA', ML, ?_, hV.scr (fun i hi => f4 i (by omega)) (fun i hi => f5 i (by omega)), pv_of hP (f4 8 (by decide)) (f5 21 (by decide))⟩
      show f_X12_nearer sc (n + 40) 26 (iO (k : Int)) (iO i) _ = _
      obtain ⟨v, rfl⟩ : ∃ v : Nat, i = v := ⟨i.toNat, by omega⟩
      rw [e_X12_nearer, hp_cc_26, if_pos rfl, e_misSlope hV hS hs, if_pos (by omega), bI_s, if_neg (show ¬ iO 1 = 0 by decide), if_pos (show 0 ≤ iO (v : Int) from ple (a := 0) (b := (v : Int)) (by unfold i32; omega) hi (by omega)), hp_cc_26, if_pos rfl, f1, bV_s, hp_g_26_21, f2]
      by_cases hv : v < NL.length
      · obtain ⟨x, hx⟩ : ∃ x, NL[v]? = some x := ⟨_, List.getElem?_eq_getElem hv⟩
        obtain ⟨x1, x2⟩ := (f7 v x).mp hx
        have x3 := f3 v x hx
        have hlen : v < (ll (qls l)).length := (List.getElem?_eq_some_iff.mp x1).1
        rw [if_neg (nle (a := (NL.length : Int)) (b := (v : Int)) (by unfold i32; omega) hi (by omega)), hp_g_26_20, hp_a_41, if_pos ((iO_ix hi).mpr (by omega)), iO_nat (by omega) hi, Int.toNat_natCast, x3, hpv x (by rw [if_pos (show 0 ≤ (v : Int) ∧ (v : Int) < ((ll (qls l)).length : Nat) by omega), Int.toNat_natCast, List.getD_eq_getElem?_getD, x1]; rfl), if_pos x2]
      · rw [if_pos (ple (a := (NL.length : Int)) (b := (v : Int)) (by unfold i32; omega) hi (by omega))]
        by_cases hlen : v < (ll (qls l)).length
        · obtain ⟨x, hx⟩ : ∃ x, (ll (qls l))[v]? = some x := ⟨_, List.getElem?_eq_getElem hlen⟩
          have hgt : ¬ x ≤ 2000 := fun h => by
            have := (f7 v x).mpr ⟨hx, h⟩
            exact hv (List.getElem?_eq_some_iff.mp this).1
          rw [hpv x (by rw [if_pos (show 0 ≤ (v : Int) ∧ (v : Int) < ((ll (qls l)).length : Nat) by omega), Int.toNat_natCast, List.getD_eq_getElem?_getD, hx]; rfl), if_neg hgt]
          rfl
        · rw [hpv (-1) (if_neg (by omega)), if_pos (show (-1 : Int) ≤ 2000 by decide)]
          rfl
    · rw [hpv (-1) (if_neg (by omega)), if_pos (show (-1 : Int) ≤ 2000 by decide)]
      apply mc_ask
      intro XI XA XP XC MI MA ML D hV
      show f_X12_nearer sc (n + 40) 26 (iO (k : Int)) (iO i) _ = _
      rw [e_X12_nearer, hp_cc_26, if_pos rfl, e_misSlope hV hS hs, if_pos (by omega), bI_s, if_neg (show ¬ iO 1 = 0 by decide), if_neg (show ¬ 0 ≤ iO i from nle (a := 0) (b := i) (by unfold i32; omega) hi (by omega))]
      rfl
end NRC
