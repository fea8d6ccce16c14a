/-! THE ENGINE IS SOUND, first part: words, the real heap behind the cells, locals -/
/-- words that move, but not as words of a table -/
def en_nk : Cond → Bool
  | .methodLinkNest .. => true
  | .declares _ => true
  | .castable .. => true
  | _ => false
def en_TX (nw : List Cond) (ao : List String) (nc : List (String × String)) (U : State) : Prop := (∀ w ∈ nw, en_nk w = true ∧ va_Nw w U) ∧ (∀ C ∈ ao, va_AO C U) ∧ ∀ q ∈ nc, va_Nc q.1 q.2 U
theorem en_TX.warm {nw : List Cond} {ao : List String} {nc : List (String × String)} {s U : State} (hW : s.WarmedH U.vm) (h : en_TX nw ao nc s) : en_TX nw ao nc U := by
  refine ⟨fun w hw => ⟨(h.1 w hw).1, ?_⟩, fun C hC => (h.2.1 C hC).moved hW.alike, fun q hq => (h.2.2 q hq).moved hW.alike⟩
  have h1 := h.1 w hw
  cases w with
  | methodLinkNest a i x k => exact va_Nw.warmM hW h1.2
  | declares x => exact va_Nw.warmD hW h1.2
  | castable C T => exact va_Nw.warmC hW h1.2
  | _ => exact absurd h1.1 (by simp [en_nk])
theorem en_TX.calls {nw : List Cond} {ao : List String} {nc : List (String × String)} {U : State} {g : JFrame} {mk : MethodId} {a : Array Value} (h : en_TX nw ao nc U) : en_TX nw ao nc (U.calling g mk a) := by
  refine ⟨fun w hw => ⟨(h.1 w hw).1, ?_⟩, fun C hC => (h.2.1 C hC).moved (Vm.Alike.refl U.vm), fun q hq => (h.2.2 q hq).moved (Vm.Alike.refl U.vm)⟩
  have h1 := h.1 w hw
  cases w with
  | methodLinkNest a i x k => exact va_Nw.same rfl rfl h1.2
  | declares x => exact va_Nw.same rfl rfl h1.2
  | castable C T => exact va_Nw.same rfl rfl h1.2
  | _ => exact absurd h1.1 (by simp [en_nk])
/-- the real address of a reference, the real value, the real cell -/
def en_ra (b B0 : Nat) : Nat → Nat
  | 0 => b
  | a + 1 => B0 + a
def en_rv (b B0 : Nat) : Value → Value
  | .ref a => .ref (en_ra b B0 a)
  | v => v
def en_rx (b B0 : Nat) : ((Nat → Int32) ⊕ (Nat → Int64) ⊕ (Nat → UInt32) ⊕ (Nat → UInt64) ⊕ (Nat → Option Nat)) → ((Nat → Int32) ⊕ (Nat → Int64) ⊕ (Nat → UInt32) ⊕ (Nat → UInt64) ⊕ (Nat → Option Nat))
  | .inr (.inr (.inr (.inr g))) => .inr (.inr (.inr (.inr (fun i => (g i).map (en_ra b B0)))))
  | x => x
def en_rc (aC : Nat → ClassId) (b B0 : Nat) : va_E → va_E
  | .inl (t, n, x) => .inl (aC t, n, en_rx b B0 x)
  | .inr (ci, fs) => .inr (ci, fs.map (en_rv b B0))
def en_rw (aC : Nat → ClassId) (b B0 : Nat) (z : en_H) : va_W := z.mapIdx (fun i e => (B0 + i, en_rc aC b B0 e))
theorem en_rv_cat (b B0 : Nat) (v : Value) : (en_rv b B0 v).category = v.category := by cases v <;> rfl
theorem en_rw_at {aC : Nat → ClassId} {b B0 : Nat} {z : en_H} {a : Nat} {e : va_E} (h : en_nt z a = some e) : (en_rw aC b B0 z)[a]? = some (B0 + a, en_rc aC b B0 e) := by
  rw [en_nt_eq] at h
  simp [en_rw, List.getElem?_mapIdx, h]
theorem en_rw_set (aC : Nat → ClassId) (b B0 : Nat) (z : en_H) (a : Nat) (e : va_E) : (en_rw aC b B0 z).set a (B0 + a, en_rc aC b B0 e) = en_rw aC b B0 (z.set a e) := by
  apply List.ext_getElem?
  intro i
  simp only [en_rw, List.getElem?_set, List.getElem?_mapIdx, List.length_mapIdx]
  by_cases hi : a = i
  · subst hi
    by_cases hl : a < z.length <;> simp [hl]
  · simp [hi]
theorem en_rw_app (aC : Nat → ClassId) (b B0 : Nat) (z : en_H) (e : va_E) : en_rw aC b B0 (z ++ [e]) = en_rw aC b B0 z ++ [(B0 + z.length, en_rc aC b B0 e)] := by
  simp [en_rw, List.mapIdx_append]
theorem en_rw_D (aC : Nat → ClassId) (b B0 : Nat) (z : en_H) : va_D (fun q => B0 ≤ q) (en_rw aC b B0 z) := by
  constructor
  · intro i j p q hp hq hpq
    simp only [en_rw, List.getElem?_mapIdx, Option.map_eq_some_iff] at hp hq
    obtain ⟨x, -, rfl⟩ := hp
    obtain ⟨y, -, rfl⟩ := hq
    dsimp only at hpq
    omega
  · intro k q hq
    simp only [en_rw, List.getElem?_mapIdx, Option.map_eq_some_iff] at hq
    obtain ⟨x, -, rfl⟩ := hq
    exact Nat.le_add_right _ _
/-- how many slots cells take -/
def en_s0 : va_E → Nat
  | .inl (_, n, _) => n
  | .inr (_, fs) => fs.length
def en_sz (z : en_H) : Nat := (z.map en_s0).sum
theorem en_sz_app (z : en_H) (e : va_E) : en_sz (z ++ [e]) = en_sz z + en_s0 e := by simp [en_sz]
theorem en_sz_set : ∀ (z : en_H) (a : Nat) (e e0 : va_E), en_nt z a = some e0 → en_s0 e = en_s0 e0 → en_sz (z.set a e) = en_sz z
  | [], a, e, e0, h, _ => by simp [en_nt] at h
  | x :: z, 0, e, e0, h, hs => by
    simp only [en_nt, Option.some.injEq] at h
    subst h
    simp [en_sz, hs]
  | x :: z, a + 1, e, e0, h, hs => by
    have ih := en_sz_set z a e e0 h hs
    simp only [en_sz, List.set_cons_succ, List.map_cons, List.sum_cons] at ih ⊢
    omega
/-- locals: what is known of them, as the rows have it -/
def en_al (f : Value → Value) : Nat → en_L → List (Nat × Value)
  | _, [] => []
  | o, some v :: l => (o, f v) :: en_al f (o + 1) l
  | o, none :: l => en_al f (o + 1) l
def en_lo (f : Value → Value) (ls : Array Slot) (n : Nat) (lv : en_L) : Prop := lv.length = n ∧ lv_has ls n (en_al f 0 lv)
theorem en_al_ge (f : Value → Value) : ∀ (l : en_L) (o : Nat) (q : Nat × Value), q ∈ en_al f o l → o ≤ q.1
  | [], o, q, h => by simp [en_al] at h
  | none :: l, o, q, h => by
    have := en_al_ge f l (o + 1) q h
    omega
  | some v :: l, o, q, h => by
    rcases List.mem_cons.mp h with e | e
    · rw [e]; exact Nat.le_refl _
    · have := en_al_ge f l (o + 1) q e
      omega
theorem en_al_nt (f : Value → Value) : ∀ (l : en_L) (o k : Nat) (v : Value), en_nt l k = some (some v) → (o + k, f v) ∈ en_al f o l
  | [], o, k, v, h => by simp [en_nt] at h
  | x :: l, o, 0, v, h => by
    simp only [en_nt, Option.some.injEq] at h
    subst h
    exact List.mem_cons_self
  | x :: l, o, k + 1, v, h => by
    have ih := en_al_nt f l (o + 1) k v h
    rw [show o + (k + 1) = o + 1 + k by omega]
    cases x with
    | none => exact ih
    | some w => exact List.mem_cons_of_mem _ ih
theorem en_lo.at {f : Value → Value} {ls : Array Slot} {n : Nat} {lv : en_L} (h : en_lo f ls n lv) {k : Nat} {v : Value} (hk : en_gl lv k = some v) : ls[k]? = some (.val (f v)) := by
  unfold en_gl at hk
  cases hn : en_nt lv k with
  | none => rw [hn] at hk; cases hk
  | some w =>
    rw [hn] at hk
    dsimp only at hk
    subst hk
    have := en_al_nt f lv 0 k v hn
    rw [Nat.zero_add] at this
    exact h.2.2.2 _ this
theorem en_lo.sub {f : Value → Value} {ls : Array Slot} {n : Nat} {lv' : en_L} {l : List (Nat × Value)} (hl : lv'.length = n) (h : lv_has ls n l) (hs : ∀ q ∈ en_al f 0 lv', q ∈ l) : en_lo f ls n lv' := ⟨hl, h.1, h.2.1, fun q hq => h.2.2 q (hs q hq)⟩
theorem en_mk_len : ∀ (b : List Bool) (l : en_L), (en_mk b l).length = l.length
  | _, [] => by simp [en_mk]
  | true :: b, a :: l => by simp [en_mk, en_mk_len b l]
  | false :: b, a :: l => by simp [en_mk, en_mk_len b l]
  | [], a :: l => by simp [en_mk, en_mk_len [] l]
theorem en_mk_al (f : Value → Value) : ∀ (b : List Bool) (l : en_L) (o : Nat) (q : Nat × Value), q ∈ en_al f o (en_mk b l) → q ∈ en_al f o l
  | _, [], o, q, h => by simp [en_mk, en_al] at h
  | true :: b, none :: l, o, q, h => en_mk_al f b l (o + 1) q h
  | true :: b, some v :: l, o, q, h => by
    rcases List.mem_cons.mp h with e | e
    · rw [e]; exact List.mem_cons_self
    · exact List.mem_cons_of_mem _ (en_mk_al f b l (o + 1) q e)
  | false :: b, a :: l, o, q, h => by
    have := en_mk_al f b l (o + 1) q h
    cases a with
    | none => exact this
    | some v => exact List.mem_cons_of_mem _ this
  | [], a :: l, o, q, h => by
    have := en_mk_al f [] l (o + 1) q h
    cases a with
    | none => exact this
    | some v => exact List.mem_cons_of_mem _ this
theorem en_lo.mask {f : Value → Value} {ls : Array Slot} {n : Nat} {lv : en_L} (h : en_lo f ls n lv) (b : List Bool) : en_lo f ls n (en_mk b lv) := .sub ((en_mk_len b lv).trans h.1) h.2 (fun q hq => en_mk_al f b lv 0 q hq)
theorem en_s1_len : ∀ (l : en_L) (k : Nat) (v : Value), (en_s1 l k v).length = l.length
  | [], k, v => by simp [en_s1]
  | a :: l, 0, v => by simp [en_s1]
  | a :: l, 1, v => by simp [en_s1, en_s1_len l 0 v]
  | a :: l, n + 2, v => by simp [en_s1, en_s1_len l (n + 1) v]
theorem en_s2_len : ∀ (l : en_L) (k : Nat) (v : Value), (en_s2 l k v).length = l.length
  | [], k, v => by simp [en_s2]
  | [a], 0, v => by simp [en_s2]
  | a :: b :: l, 0, v => by simp [en_s2]
  | a :: l, 1, v => by simp [en_s2, en_s2_len l 0 v]
  | a :: l, n + 2, v => by simp [en_s2, en_s2_len l (n + 1) v]
theorem en_c1_some {a : Option Value} {w : Value} (h : en_c1 a = some w) : a = some w ∧ w.category = 1 := by
  unfold en_c1 at h
  split at h <;> first | (cases h; exact ⟨rfl, rfl⟩) | cases h
theorem en_s1_al (f : Value → Value) (hf : ∀ v, (f v).category = v.category) : ∀ (l : en_L) (k : Nat) (v : Value) (o : Nat) (q : Nat × Value), q ∈ en_al f o (en_s1 l k v) → q = (o + k, f v) ∨ (q ∈ en_al f o l ∧ q.1 ≠ o + k ∧ ¬ (q.1 + 1 = o + k ∧ q.2.category = 2))
  | [], k, v, o, q, h => by simp [en_s1, en_al] at h
  | a :: l, 0, v, o, q, h => by
    rw [en_s1] at h
    rcases List.mem_cons.mp h with e | e
    · exact Or.inl e
    · have := en_al_ge f l (o + 1) q e
      refine Or.inr ⟨?_, by omega, by omega⟩
      cases a with
      | none => exact e
      | some w => exact List.mem_cons_of_mem _ e
  | a :: l, 1, v, o, q, h => by
    rw [en_s1] at h
    have tail : q ∈ en_al f (o + 1) (en_s1 l 0 v) → q = (o + 1, f v) ∨ (q ∈ en_al f o (a :: l) ∧ q.1 ≠ o + 1 ∧ ¬ (q.1 + 1 = o + 1 ∧ q.2.category = 2)) := by
      intro e
      rcases en_s1_al f hf l 0 v (o + 1) q e with h1 | ⟨h1, h2, h3⟩
      · exact Or.inl h1
      · have := en_al_ge f l (o + 1) q h1
        refine Or.inr ⟨?_, h2, by omega⟩
        cases a with
        | none => exact h1
        | some w => exact List.mem_cons_of_mem _ h1
    cases hc : en_c1 a with
    | none => rw [hc] at h; exact tail h
    | some w =>
      rw [hc] at h
      obtain ⟨rfl, hw⟩ := en_c1_some hc
      rcases List.mem_cons.mp h with e | e
      · refine Or.inr ⟨by rw [e]; exact List.mem_cons_self, by rw [e]; dsimp only; omega, fun z => ?_⟩
        rw [e] at z
        have z2 := z.2
        dsimp only at z2
        rw [hf, hw] at z2
        cases z2
      · exact tail e
  | a :: l, n + 2, v, o, q, h => by
    rw [en_s1] at h
    have tail : q ∈ en_al f (o + 1) (en_s1 l (n + 1) v) → q = (o + (n + 2), f v) ∨ (q ∈ en_al f o (a :: l) ∧ q.1 ≠ o + (n + 2) ∧ ¬ (q.1 + 1 = o + (n + 2) ∧ q.2.category = 2)) := by
      intro e
      rcases en_s1_al f hf l (n + 1) v (o + 1) q e with h1 | ⟨h1, h2, h3⟩
      · exact Or.inl (by rw [h1, show o + 1 + (n + 1) = o + (n + 2) by omega])
      · rw [show o + 1 + (n + 1) = o + (n + 2) by omega] at h2 h3
        refine Or.inr ⟨?_, h2, h3⟩
        cases a with
        | none => exact h1
        | some w => exact List.mem_cons_of_mem _ h1
    cases a with
    | none => exact tail h
    | some w =>
      rcases List.mem_cons.mp h with e | e
      · refine Or.inr ⟨by rw [e]; exact List.mem_cons_self, by rw [e]; dsimp only; omega, by rw [e]; dsimp only; omega⟩
      · exact tail e
theorem en_s2_al (f : Value → Value) (hf : ∀ v, (f v).category = v.category) : ∀ (l : en_L) (k : Nat) (v : Value) (o : Nat) (q : Nat × Value), q ∈ en_al f o (en_s2 l k v) → q = (o + k, f v) ∨ (q ∈ en_al f o l ∧ q.1 ≠ o + k ∧ q.1 ≠ o + k + 1 ∧ ¬ (q.1 + 1 = o + k ∧ q.2.category = 2))
  | [], k, v, o, q, h => by simp [en_s2, en_al] at h
  | [a], 0, v, o, q, h => by simp [en_s2, en_al] at h
  | a :: b :: l, 0, v, o, q, h => by
    rw [en_s2] at h
    rcases List.mem_cons.mp h with e | e
    · exact Or.inl e
    · have e : q ∈ en_al f (o + 1 + 1) l := e
      have := en_al_ge f l (o + 1 + 1) q e
      refine Or.inr ⟨?_, by omega, by omega, by omega⟩
      have e2 : q ∈ en_al f (o + 1) (b :: l) := by
        cases b with
        | none => exact e
        | some w => exact List.mem_cons_of_mem _ e
      cases a with
      | none => exact e2
      | some w => exact List.mem_cons_of_mem _ e2
  | a :: l, 1, v, o, q, h => by
    rw [en_s2] at h
    have tail : q ∈ en_al f (o + 1) (en_s2 l 0 v) → q = (o + 1, f v) ∨ (q ∈ en_al f o (a :: l) ∧ q.1 ≠ o + 1 ∧ q.1 ≠ o + 1 + 1 ∧ ¬ (q.1 + 1 = o + 1 ∧ q.2.category = 2)) := by
      intro e
      rcases en_s2_al f hf l 0 v (o + 1) q e with h1 | ⟨h1, h2, h2', h3⟩
      · exact Or.inl h1
      · have := en_al_ge f l (o + 1) q h1
        refine Or.inr ⟨?_, h2, h2', by omega⟩
        cases a with
        | none => exact h1
        | some w => exact List.mem_cons_of_mem _ h1
    cases hc : en_c1 a with
    | none => rw [hc] at h; exact tail h
    | some w =>
      rw [hc] at h
      obtain ⟨rfl, hw⟩ := en_c1_some hc
      rcases List.mem_cons.mp h with e | e
      · refine Or.inr ⟨by rw [e]; exact List.mem_cons_self, by rw [e]; dsimp only; omega, by rw [e]; dsimp only; omega, fun z => ?_⟩
        rw [e] at z
        have z2 := z.2
        dsimp only at z2
        rw [hf, hw] at z2
        cases z2
      · exact tail e
  | a :: l, n + 2, v, o, q, h => by
    rw [en_s2] at h
    have tail : q ∈ en_al f (o + 1) (en_s2 l (n + 1) v) → q = (o + (n + 2), f v) ∨ (q ∈ en_al f o (a :: l) ∧ q.1 ≠ o + (n + 2) ∧ q.1 ≠ o + (n + 2) + 1 ∧ ¬ (q.1 + 1 = o + (n + 2) ∧ q.2.category = 2)) := by
      intro e
      rcases en_s2_al f hf l (n + 1) v (o + 1) q e with h1 | ⟨h1, h2, h2', h3⟩
      · exact Or.inl (by rw [h1, show o + 1 + (n + 1) = o + (n + 2) by omega])
      · rw [show o + 1 + (n + 1) = o + (n + 2) by omega] at h2 h2' h3
        refine Or.inr ⟨?_, h2, h2', h3⟩
        cases a with
        | none => exact h1
        | some w => exact List.mem_cons_of_mem _ h1
    cases a with
    | none => exact tail h
    | some w =>
      rcases List.mem_cons.mp h with e | e
      · refine Or.inr ⟨by rw [e]; exact List.mem_cons_self, by rw [e]; dsimp only; omega, by rw [e]; dsimp only; omega, by rw [e]; dsimp only; omega⟩
      · exact tail e
theorem en_lo.st1 {f : Value → Value} (hf : ∀ v, (f v).category = v.category) {ls : Array Slot} {n : Nat} {lv : en_L} {k : Nat} {v : Value} (h0 : lv.length = n) (h : lv_has ls n ((k, f v) :: (en_al f 0 lv).filter (fun q => !(q.1 == k) && !(q.1 + 1 == k && q.2.category == 2)))) : en_lo f ls n (en_s1 lv k v) := by
  refine .sub ((en_s1_len lv k v).trans h0) h (fun q hq => ?_)
  rcases en_s1_al f hf lv k v 0 q hq with e | ⟨e1, e2, e3⟩
  · rw [e, Nat.zero_add]; exact List.mem_cons_self
  · rw [Nat.zero_add] at e2 e3
    refine List.mem_cons_of_mem _ (List.mem_filter.mpr ⟨e1, ?_⟩)
    simp only [Bool.and_eq_true, Bool.not_eq_true', beq_eq_false_iff_ne, ne_eq]
    refine ⟨e2, ?_⟩
    simp only [Bool.and_eq_false_iff, beq_eq_false_iff_ne, ne_eq]
    by_cases g : q.1 + 1 = k
    · exact Or.inr (fun z => e3 ⟨g, z⟩)
    · exact Or.inl g
theorem en_lo.st2 {f : Value → Value} (hf : ∀ v, (f v).category = v.category) {ls : Array Slot} {n : Nat} {lv : en_L} {k : Nat} {v : Value} (h0 : lv.length = n) (h : lv_has ls n ((k, f v) :: (en_al f 0 lv).filter (fun q => !(q.1 == k) && (!(q.1 == k + 1) && !(q.1 + 1 == k && q.2.category == 2))))) : en_lo f ls n (en_s2 lv k v) := by
  refine .sub ((en_s2_len lv k v).trans h0) h (fun q hq => ?_)
  rcases en_s2_al f hf lv k v 0 q hq with e | ⟨e1, e2, e2', e3⟩
  · rw [e, Nat.zero_add]; exact List.mem_cons_self
  · rw [Nat.zero_add] at e2 e2' e3
    refine List.mem_cons_of_mem _ (List.mem_filter.mpr ⟨e1, ?_⟩)
    simp only [Bool.and_eq_true, Bool.not_eq_true', beq_eq_false_iff_ne, ne_eq]
    refine ⟨e2, e2', ?_⟩
    simp only [Bool.and_eq_false_iff, beq_eq_false_iff_ne, ne_eq]
    by_cases g : q.1 + 1 = k
    · exact Or.inr (fun z => e3 ⟨g, z⟩)
    · exact Or.inl g
