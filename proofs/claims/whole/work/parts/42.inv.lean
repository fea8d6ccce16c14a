/-! THE CLASS'S STATE, told purely -/
/-- a row's object: kind, number, second step, number of its slope or -1, size, steps, its slope -/
abbrev GD : Type := Int × Nat × Int × Int × Nat × (Nat → Int) × SL4
def sqfl : List Int := [2, 3, 5, 6, 7, 10, 11, 13, 14, 15, 17, 19, 21, 22, 23, 26, 29, 30, 31, 33, 34, 35, 37, 38, 39, 41, 42, 43, 46, 47]
/-- lines: the further ones -/
def lls : List Int → Int → Int → List Int
  | [], _, _ => []
  | q :: r, b, l => if 10000 < q * l + b then [] else if q * l + b ≤ 1 then lls r l (q * l + b) else (q * l + b) :: lls r l (q * l + b)
def ll (qs : List Int) : List Int := 1 :: lls qs.tail 0 1
/-- a slope's quotients -/
noncomputable def qls (s : SL4) : List Int := ql 20 s.1 s.2.1 s.2.2.1 s.2.2.2
/-- a slope's object -/
def SlO (D : en_H) (q : Nat) (s : SL4) : Prop := ∃ (a b c d t : Int) (qs ls : Nat → Int32),
  en_nt D q = some (.inr (6, CSf (.ref (q + 52)) (.int (iO ((qls s).length : Nat))) (.int (iO ((ll (qls s)).length : Nat))) (.ref (q + 53)) a b c d))
  ∧ en_nt D (q + 1) = some (.inl (0, 20, .inl qs)) ∧ en_nt D (q + 2) = some (.inl (0, 20, .inl ls))
  ∧ CL a b c d ∧ EQN s.1 s.2.1 s.2.2.1 t a b c ∧ s.2.2.2 = d * (t * t) ∧ (b ≠ 0 → d ∈ sqfl) ∧ (b = 0 → c = s.2.2.1 / (Int.gcd s.1 s.2.2.1 : Nat))
  ∧ (∀ (i : Nat) (x : Int), (qls s)[i]? = some x → qs i = iO x) ∧ (∀ (i : Nat) (x : Int), (ll (qls s))[i]? = some x → ls i = iO x)
/-- the whole of s N + u / v -/
noncomputable def EW (s : SL4) (u v N : Int) : Int := whl (v * N * s.1 + u * s.2.2.1) (v * N * s.2.1) s.2.2.2 (s.2.2.1 * v)
/-- the steps of an even row -/
noncomputable def evs (s : SL4) (u v : Int) (i : Nat) : Int := EW s u v (i + 1 : Nat) - EW s u v i
def evc (k : Int) : Nat := if k = 1 then 2 else if k = 2 then 4 else 3
def cbits (x : Int) (n : Nat) : List Int := (List.range n).map (fun i => (x / 2 ^ i) % 2)
/-- what a cut makes of the first steps -/
def cutL (fs : Nat → Int) (z : Int) (zs : Nat) (o : Int) (os : Nat) : Nat → List Int
  | 0 => []
  | k + 1 => cutL fs z zs o os k ++ (if fs k = 0 then cbits z zs else cbits o os)
def okc (ns : Nat) (fs : Nat → Int) (i : Nat) : Prop := i < ns ∧ (fs i = 0 ∨ fs i = 1)
/-- size and steps of a cut, by those of its source -/
def CutOf (ns : Nat) (fs : Nat → Int) (z : Int) (zs : Nat) (o : Int) (os : Nat) (n : Nat) (f : Nat → Int) : Prop :=
  ∃ K, (∀ i, i < K → okc ns fs i) ∧ ((10001 ≤ (cutL fs z zs o os K).length ∧ n = 10001) ∨ (¬ okc ns fs K ∧ n = min (cutL fs z zs o os K).length 10001)) ∧ ∀ i, i < n → (cutL fs z zs o os K)[i]? = some (f i)
/-- the bits as far as they are known -/
def CBits (arr : Nat → Int64) (l : List Int) : Prop := ∀ j, j < 10112 → (arr (j / 64)).toBitVec.getLsbD (j % 64) = (match l[j]? with
  | some x => decide (x = 1)
  | none => false)
/-- a row's object in the heap -/
def RC (Γ : Nat → Option GD) (D : en_H) (p : Nat) (g : GD) : Prop :=
  (g.1 = 0 ∧ ∃ arr : Nat → Int32, en_nt D p = some (.inr (8, [.int (iO (g.2.1 : Nat)), .int (iO g.2.2.1), .ref (p + 52)])) ∧ en_nt D (p + 1) = some (.inl (0, g.2.2.2.2.1, .inl arr)) ∧ (∀ i, i < g.2.2.2.2.1 → arr i = iO (g.2.2.2.2.2.1 i)) ∧ g.2.2.2.2.1 ≤ 40)
  ∨ ((g.1 = 1 ∨ g.1 = 2 ∨ g.1 = 4) ∧ ∃ (sp : Nat) (u v : Int), en_nt D p = some (.inr (evc g.1, [.int (iO (g.2.1 : Nat)), .int (iO g.2.2.1), .ref (sp + 51), .int (iO g.2.2.2.1), .int (iO u), .int (iO v)])) ∧ SlO D sp g.2.2.2.2.2.2 ∧ SL g.2.2.2.2.2.2.1 g.2.2.2.2.2.2.2.1 g.2.2.2.2.2.2.2.2.1 g.2.2.2.2.2.2.2.2.2 ∧ 1 ≤ v ∧ v ≤ 100 ∧ 0 ≤ u ∧ u < v ∧ g.2.2.2.2.1 = 10001 ∧ g.2.2.2.2.2.1 = evs g.2.2.2.2.2.2 u v ∧ (g.1 = 4 → u = 0 ∧ v = 1))
  ∨ (g.1 = 3 ∧ ∃ (q : Nat) (gq : GD) (kn tk : Nat) (en : Int) (arr : Nat → Int64) (z : Int) (zs : Nat) (o : Int) (os : Nat), Γ q = some gq ∧ gq.2.1 < g.2.1
      ∧ en_nt D p = some (.inr (1, [.int (iO (g.2.1 : Nat)), .int (iO g.2.2.1), .ref (q + 51), .int (iO z), .int (iO (zs : Nat)), .int (iO o), .int (iO (os : Nat)), .ref (p + 52), .int (iO (kn : Nat)), .int (iO (tk : Nat)), .int (iO en)]))
      ∧ en_nt D (p + 1) = some (.inl (1, 158, .inr (.inl arr)))
      ∧ 1 ≤ zs ∧ zs ≤ 6 ∧ 1 ≤ os ∧ os ≤ 6 ∧ 0 ≤ z ∧ z < 64 ∧ 0 ≤ o ∧ o < 64
      ∧ CutOf gq.2.2.2.2.1 gq.2.2.2.2.2.1 z zs o os g.2.2.2.2.1 g.2.2.2.2.2.1
      ∧ ∃ k : Nat, ((en = 0 ∧ tk = k) ∨ (en = 1 ∧ tk = k + 1 ∧ ¬ okc gq.2.2.2.2.1 gq.2.2.2.2.2.1 k)) ∧ (∀ i, i < k → okc gq.2.2.2.2.1 gq.2.2.2.2.2.1 i) ∧ kn = (cutL gq.2.2.2.2.2.1 z zs o os k).length ∧ kn ≤ 10006 ∧ CBits arr (cutL gq.2.2.2.2.2.1 z zs o os k))
/-- all rows' objects -/
def HV (Γ : Nat → Option GD) (D : en_H) : Prop := ∀ (p : Nat) (g : GD), Γ p = some g → g.2.1 ≤ 9 ∧ g.2.2.2.2.1 ≤ 10001 ∧ (∀ i, i < g.2.2.2.2.1 → 0 ≤ g.2.2.2.2.2.1 i ∧ g.2.2.2.2.2.1 i ≤ 100) ∧ RC Γ D p g
/-- the class holds a state -/
def CV (S : ST5) (Γ : Nat → Option GD) (XI : Nat → Int32) (XA : Nat → Nat → Int32) (XP : Nat → Nat → Option Nat) (D : en_H) : Prop :=
  XI 0 = iO (S.1.length : Nat) ∧ XI 1 = iO (S.2.1.length : Nat) ∧ XI 2 = iO S.2.2.2.1 ∧ XI 3 = iO (S.2.2.2.2.length : Nat)
  ∧ (∀ (s : Nat) (q : SL4), S.1[s]? = some q → ∃ p, XP 0 s = some (p + 51) ∧ SlO D p q)
  ∧ (∀ (r : Nat) (q : RW4), S.2.1[r]? = some q → ∃ (p : Nat) (g : GD), XP 1 r = some (p + 51) ∧ Γ p = some g ∧ g.1 = q.1 ∧ g.2.1 = r ∧ g.2.2.1 = (if 1 < q.2.2.1 then q.2.2.2 1 else 0) ∧ g.2.2.2.1 = q.2.1 ∧ g.2.2.2.2.1 = q.2.2.1 ∧ g.2.2.2.2.2.1 = q.2.2.2 ∧ ((q.1 = 1 ∨ q.1 = 4) → S.1[q.2.1.toNat]? = some g.2.2.2.2.2.2))
  ∧ (∀ k, k < 4 → XI (15 + 2 * k) = iO (S.2.2.1 k).1 ∧ XI (16 + 2 * k) = iO (S.2.2.1 k).2.1 ∧ ∀ i, i < 40 → XA (10 + k) i = iO ((S.2.2.1 k).2.2 i))
  ∧ (∀ (i : Nat) (x : Int), S.2.2.2.2[i]? = some x → XA 0 i = iO x)
  ∧ HV Γ D
/-- room that a call may take -/
def GR (D D' : en_H) : Prop := D'.length ≤ D.length + 6 ∧ en_sz D' ≤ en_sz D + 400
theorem GR.rfl' {D : en_H} : GR D D := ⟨by omega, by omega⟩
/-- the class's side of a call: what it answers, what it leaves -/
def CS (S S' : ST5) (a : Int) (F : en_H → Option en_R) : Prop := ∀ (XI : Nat → Int32) (XA : Nat → Nat → Int32) (XP : Nat → Nat → Option Nat) (XC : Value) (MI : Nat → Int32) (MA : Nat → Nat → Int32) (ML : Nat → Nat → Int64) (D : en_H) (Γ : Nat → Option GD), CV S Γ XI XA XP D →
  ∃ (XI' : Nat → Int32) (XA' : Nat → Nat → Int32) (XP' : Nat → Nat → Option Nat) (XC' : Value) (D' : en_H) (Γ' : Nat → Option GD), F (hp XI XA XP XC MI MA ML D) = some (some (.int (iO a)), hp XI' XA' XP' XC' MI MA ML D') ∧ CV S' Γ' XI' XA' XP' D' ∧ GR D D'
/-- what holds of the model's table of pairs -/
def PV (MI : Nat → Int32) (MA : Nat → Nat → Int32) : Prop := MI 8 = 0 ∨ (MI 8 = 1 ∧ ∀ i : Nat, i < 2001 → MA 21 i = iO (lb i))
/-- the model's side of a call -/
def MC (S S' : ST5) (a : Int) (F : en_H → Option en_R) : Prop := ∀ (XI : Nat → Int32) (XA : Nat → Nat → Int32) (XP : Nat → Nat → Option Nat) (XC : Value) (MI : Nat → Int32) (MA : Nat → Nat → Int32) (ML : Nat → Nat → Int64) (D : en_H), MV S MI MA → PV MI MA →
  ∃ (MI' : Nat → Int32) (MA' : Nat → Nat → Int32) (ML' : Nat → Nat → Int64), F (hp XI XA XP XC MI MA ML D) = some (some (.int (iO a)), hp XI XA XP XC MI' MA' ML' D) ∧ MV S' MI' MA' ∧ PV MI' MA'
def sst (S : ST5) (k : Int) : ST5 := (S.1, S.2.1, S.2.2.1, k, S.2.2.2.2)
section INV
variable {sc : en_S} {n : Nat} {XI : Nat → Int32} {XA : Nat → Nat → Int32} {XP : Nat → Nat → Option Nat} {XC : Value} {MI : Nat → Int32} {MA : Nat → Nat → Int32} {ML : Nat → Nat → Int64} {D : en_H} {Γ : Nat → Option GD} {S : ST5}
theorem MV.st (h : MV S MI MA) (k : Int) : MV (sst S k) (va_up MI 2 (iO k)) MA := by
  obtain ⟨h1, h2, h3, h4, h5⟩ := h
  exact ⟨h1, h2, rfl, h4, h5⟩
theorem CV.st (h : CV S Γ XI XA XP D) (k : Int) : CV (sst S k) Γ (va_up XI 2 (iO k)) XA XP D := by
  obtain ⟨h1, h2, h3, h4, h5, h6, h7, h8⟩ := h
  refine ⟨h1, h2, rfl, h4, h5, h6, ?_, h8⟩
  intro k hk
  obtain ⟨a, b, c⟩ := h7 k hk
  exact ⟨(va_up_ne _ _ (by omega)).trans a, (va_up_ne _ _ (by omega)).trans b, c⟩
theorem PV.st (h : PV MI MA) (k : Int) : PV (va_up MI 2 (iO k)) MA := h
theorem OK5.st (h : OK5 S) {k : Int} (h0 : 0 ≤ k) (h1 : k ≤ 15) : OK5 (sst S k) := by
  obtain ⟨a1, a2, a3, a4, a5, -, -, a8⟩ := h
  exact ⟨a1, a2, a3, a4, a5, h0, h1, a8⟩
theorem x_refuse (k : Int32) : f_X11_refuse sc (n + 1) 1 k (hp XI XA XP XC MI MA ML D) = some (some (.int (iO (-1))), hp (va_up XI 2 k) XA XP XC MI MA ML D) := by
  rw [e_X11_refuse, hp_p_1_10]; rfl
theorem x_done (a : Int32) : f_X11_done sc (n + 1) 1 a (hp XI XA XP XC MI MA ML D) = some (some (.int a), hp (va_up XI 2 (iO 0)) XA XP XC MI MA ML D) := by
  rw [e_X11_done, hp_p_1_10]; rfl
theorem m_refuse (k : Int32) : f_X12_refused sc (n + 1) 26 k (hp XI XA XP XC MI MA ML D) = some (some (.int (iO (-1))), hp XI XA XP XC (va_up MI 2 k) MA ML D) := by
  rw [e_X12_refused, hp_p_26_2]; rfl
theorem m_done (a : Int32) : f_X12_fine sc (n + 1) 26 a (hp XI XA XP XC MI MA ML D) = some (some (.int a), hp XI XA XP XC (va_up MI 2 (iO 0)) MA ML D) := by
  rw [e_X12_fine, hp_p_26_2]; rfl
/-- the end of a refused call -/
theorem cs_ref {k : Int} {F : en_H → Option en_R} (h : ∀ (XI : Nat → Int32) (XA : Nat → Nat → Int32) (XP : Nat → Nat → Option Nat) (XC : Value) (MI : Nat → Int32) (MA : Nat → Nat → Int32) (ML : Nat → Nat → Int64) (D : en_H) (Γ : Nat → Option GD), CV S Γ XI XA XP D → F (hp XI XA XP XC MI MA ML D) = some (some (.int (iO (-1))), hp (va_up XI 2 (iO k)) XA XP XC MI MA ML D)) : CS S (sst S k) (-1) F := by
  intro XI XA XP XC MI MA ML D Γ hV
  exact ⟨_, _, _, _, _, _, h XI XA XP XC MI MA ML D Γ hV, hV.st k, GR.rfl'⟩
theorem mc_ref {k : Int} {F : en_H → Option en_R} (h : ∀ (XI : Nat → Int32) (XA : Nat → Nat → Int32) (XP : Nat → Nat → Option Nat) (XC : Value) (MI : Nat → Int32) (MA : Nat → Nat → Int32) (ML : Nat → Nat → Int64) (D : en_H), MV S MI MA → F (hp XI XA XP XC MI MA ML D) = some (some (.int (iO (-1))), hp XI XA XP XC (va_up MI 2 (iO k)) MA ML D)) : MC S (sst S k) (-1) F := by
  intro XI XA XP XC MI MA ML D hV hP
  exact ⟨_, _, _, h XI XA XP XC MI MA ML D hV, hV.st k, hP.st k⟩
/-- a question that changes nothing -/
theorem cs_ask {a : Int} {F : en_H → Option en_R} (h : ∀ (XI : Nat → Int32) (XA : Nat → Nat → Int32) (XP : Nat → Nat → Option Nat) (XC : Value) (MI : Nat → Int32) (MA : Nat → Nat → Int32) (ML : Nat → Nat → Int64) (D : en_H) (Γ : Nat → Option GD), CV S Γ XI XA XP D → F (hp XI XA XP XC MI MA ML D) = some (some (.int (iO a)), hp XI XA XP XC MI MA ML D)) : CS S S a F := by
  intro XI XA XP XC MI MA ML D Γ hV
  exact ⟨_, _, _, _, _, _, h XI XA XP XC MI MA ML D Γ hV, hV, GR.rfl'⟩
theorem mc_ask {a : Int} {F : en_H → Option en_R} (h : ∀ (XI : Nat → Int32) (XA : Nat → Nat → Int32) (XP : Nat → Nat → Option Nat) (XC : Value) (MI : Nat → Int32) (MA : Nat → Nat → Int32) (ML : Nat → Nat → Int64) (D : en_H), MV S MI MA → F (hp XI XA XP XC MI MA ML D) = some (some (.int (iO a)), hp XI XA XP XC MI MA ML D)) : MC S S a F := by
  intro XI XA XP XC MI MA ML D hV hP
  exact ⟨_, _, _, h XI XA XP XC MI MA ML D hV, hV, hP⟩
/-- the sheets' objects -/
theorem sh_q {k : Nat} (hk : k < 4) : hp_sh k = some (18 + 2 * k) := by
  match k, hk with
  | 0, _ => rfl
  | 1, _ => rfl
  | 2, _ => rfl
  | 3, _ => rfl
variable {ρ : Type}
theorem sh_cc {k : Nat} (hk : k < 4) (g : Nat → Option ρ) : en_cc (hp XI XA XP XC MI MA ML D) (18 + 2 * k) g = g 5 := by
  match k, hk with
  | 0, _ => rfl
  | 1, _ => rfl
  | 2, _ => rfl
  | 3, _ => rfl
theorem sh_0 {k : Nat} (hk : k < 4) (f0 : Option ρ) (f : Nat → Option ρ) : en_gA (hp XI XA XP XC MI MA ML D) (18 + 2 * k) [(5, 0)] 0 f0 f = f (19 + 2 * k) := by
  match k, hk with
  | 0, _ => rfl
  | 1, _ => rfl
  | 2, _ => rfl
  | 3, _ => rfl
theorem sh_1 {k : Nat} (hk : k < 4) (f : Int32 → Option ρ) : en_gI (hp XI XA XP XC MI MA ML D) (18 + 2 * k) [(5, 0)] 1 f = f (XI (15 + 2 * k)) := by
  match k, hk with
  | 0, _ => rfl
  | 1, _ => rfl
  | 2, _ => rfl
  | 3, _ => rfl
theorem sh_2 {k : Nat} (hk : k < 4) (f : Int32 → Option ρ) : en_gI (hp XI XA XP XC MI MA ML D) (18 + 2 * k) [(5, 0)] 2 f = f (XI (16 + 2 * k)) := by
  match k, hk with
  | 0, _ => rfl
  | 1, _ => rfl
  | 2, _ => rfl
  | 3, _ => rfl
theorem sh_p1 {k : Nat} (hk : k < 4) (v : Int32) (f : en_H → Option ρ) : en_pf (hp XI XA XP XC MI MA ML D) (18 + 2 * k) [(5, 0)] 1 (.int v) f = f (hp (va_up XI (15 + 2 * k) v) XA XP XC MI MA ML D) := by
  match k, hk with
  | 0, _ => rfl
  | 1, _ => rfl
  | 2, _ => rfl
  | 3, _ => rfl
theorem sh_p2 {k : Nat} (hk : k < 4) (v : Int32) (f : en_H → Option ρ) : en_pf (hp XI XA XP XC MI MA ML D) (18 + 2 * k) [(5, 0)] 2 (.int v) f = f (hp (va_up XI (16 + 2 * k) v) XA XP XC MI MA ML D) := by
  match k, hk with
  | 0, _ => rfl
  | 1, _ => rfl
  | 2, _ => rfl
  | 3, _ => rfl
theorem sh_a {k : Nat} (hk : k < 4) (i : Int32) (f : Int32 → Option ρ) : en_aI sc (hp XI XA XP XC MI MA ML D) (19 + 2 * k) i f = if en_ix i 40 then f (XA (10 + k) i.toNatClampNeg) else none := by
  match k, hk with
  | 0, _ => rfl
  | 1, _ => rfl
  | 2, _ => rfl
  | 3, _ => rfl
theorem sh_s {k : Nat} (hk : k < 4) (i x : Int32) (f : en_H → Option ρ) : en_sI (hp XI XA XP XC MI MA ML D) (19 + 2 * k) i x f = if en_ix i 40 then f (hp XI (va_up XA (10 + k) (upd (XA (10 + k)) i.toNatClampNeg x)) XP XC MI MA ML D) else none := by
  match k, hk with
  | 0, _ => rfl
  | 1, _ => rfl
  | 2, _ => rfl
  | 3, _ => rfl
theorem sh_l {k : Nat} (hk : k < 4) (f : Int32 → Option ρ) : en_ln sc (hp XI XA XP XC MI MA ML D) (19 + 2 * k) f = f (iO 40) := by
  match k, hk with
  | 0, _ => rfl
  | 1, _ => rfl
  | 2, _ => rfl
  | 3, _ => rfl
end INV
