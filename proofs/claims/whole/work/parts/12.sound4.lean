/-! THE ENGINE IS SOUND, fourth part: the heap's instructions -/
abbrev en_ty (aC : Nat → ClassId) : List (ClassId × FieldType) := [(aC 0, en_tn 0), (aC 1, en_tn 1), (aC 2, en_tn 2), (aC 3, en_tn 3), (aC 4, en_tn 4)]
/-- what stays while a method runs -/
abbrev en_Cx (p : Program) (c : Code) (cc : ByteArray) (n : Nat) (s : State) (m : MethodId) (args : Array Value) (own : String) (D : va_G) (aC : Nat → ClassId) (b B0 K0 : Nat) (sc : en_S) : Prop :=
  p.tables.exec = Jvm.exec ∧ c.code = cc ∧ c.maxLocals = n ∧ s.vm.findClass own = some m.cls ∧ (∀ w ∈ en_tb, w.before args s = true) ∧ va_K D en_cs (en_ty aC) s ∧ va_X b sc.1 sc.2 s s.heap ∧ b < B0 ∧ s.heap.size = B0 + K0 ∧ en_TX en_nwl en_aol en_ncl s
/-- the heap holds the cells -/
abbrev en_St (D : va_G) (aC : Nat → ClassId) (b B0 : Nat) (s : State) (z : en_H) (H : Heap) (locs : List Loc) : Prop := va_P D en_cs (en_rw aC b B0 z) H ∧ va_S (fun q => B0 ≤ q) s.heap H locs
theorem en_fd_mem : ∀ {cs : List (Nat × Nat)} {c x : Nat}, en_fd cs c = some x → (c, x) ∈ cs
  | [], c, x, h => by simp [en_fd] at h
  | q :: cs, c, x, h => by
    simp only [en_fd] at h
    split at h
    · rename_i hq
      cases h
      subst hq
      exact List.mem_cons_self
    · exact List.mem_cons_of_mem _ (en_fd_mem h)
theorem en_ix_in {i : Int32} {n : Nat} (h : en_ix i n) : vp_in i n := vp_in_iff.mpr h
section ENX
variable {p : Program} {l : Launch} {e : Env} {R : Room} {s : State} {m : MethodId} {args : Array Value} {below : List Frame} {meth : Method} {c : Code} {H : Heap} {locs : List Loc} {cells slots : Nat} {Q : State → Prop} {cc : ByteArray} {pc n : Nat} {ls : Array Slot} {own : String} {D : va_G} {aC : Nat → ClassId} {b B0 K0 : Nat} {sc : en_S} {z : en_H} {rest : List Value}
theorem en_sized (k : H.size ≤ s.heap.size + cells → W p l e R s m args below meth c H locs cells slots Q (F0 m pc ls rest)) : W p l e R s m args below meth c H locs cells slots Q (F0 m pc ls rest) := fun T hT X => k (by rw [← hT]; exact X.same.2.2.1) T hT X
theorem en_St.size (h : en_St D aC b B0 s z H locs) (hs : s.heap.size = B0 + K0) (hk : z.length = K0 + cells) (hl : H.size ≤ s.heap.size + cells) : H.size = B0 + z.length := by
  have h1 := h.2.1
  rcases Nat.eq_zero_or_pos z.length with h0 | h0
  · omega
  · obtain ⟨x, hx⟩ : ∃ x, en_nt z (z.length - 1) = some x := by
      rw [en_nt_eq]
      exact ⟨_, List.getElem?_eq_getElem (by omega)⟩
    have h2 := (h.1 _ _ (en_rw_at (aC := aC) (b := b) (B0 := B0) hx)).lt
    dsimp only at h2
    omega
theorem en_w_get (X : en_Cx p c cc n s m args own D aC b B0 K0 sc) (hS : en_St D aC b B0 s z H locs) {x k a ci j : Nat} {cs : List (Nat × Nat)} {fs : List Value} {v : Value} (hlk : en_FG own x k cs) (hz : en_nt z a = some (.inr (ci, fs))) (hc : en_fd cs ci = some j) (hv : en_nt fs k = some v) (hd : decode cc pc = .ok (.getfield x, 3))
    (kk : W p l e R s m args below meth c H locs cells slots Q (F0 m (pc + 3) ls (en_rv b B0 v :: rest))) : W p l e R s m args below meth c H locs cells slots Q (F0 m pc ls (.ref (B0 + a) :: rest)) := by
  obtain ⟨hx, hb, hml, hown, hts, hK, hX, hbl, hsz, hT⟩ := X
  obtain ⟨ref, hcs⟩ := hlk
  obtain ⟨C, T, N, h1, h2, h3, h4⟩ := hcs _ (en_fd_mem hc)
  obtain ⟨ty, f1, f2, f3, f4, f5, f6, f7⟩ := en_cok _ _ h1
  have he := en_rw_at (aC := aC) (b := b) (B0 := B0) hz
  refine va_get hx hb hts f1 hown hK hS.1 a he h1 k h2 (hts _ h3) ?_ (v := en_rv b B0 v) ?_ hd kk
  · intro y hy
    rcases h4 with h4 | h4
    · rw [← h4]; exact hy
    · exact u_same (hts _ h4) y hy
  · rw [en_nt_eq] at hv
    simp [hv]
theorem en_rx_set (aC : Nat → ClassId) (b B0 : Nat) (z : en_H) (a ci k : Nat) (fs : List Value) (v : Value) : (en_rw aC b B0 z).set a (B0 + a, .inr (ci, (fs.map (en_rv b B0)).set k (en_rv b B0 v))) = en_rw aC b B0 (z.set a (.inr (ci, fs.set k v))) := by
  rw [← en_rw_set]
  simp only [en_rc, List.map_set]
theorem en_fit (b B0 : Nat) {tag : Nat} {ty : FieldType} {v : Value} (ht : en_ft tag ty = true) (h : (tag = 0 ∧ ∃ x, v = .int x) ∨ (tag = 1 ∧ ∃ x, v = .long x) ∨ (tag = 2 ∧ ((∃ x, v = .ref x) ∨ v = .null)) ∨ (tag = 3 ∧ ∃ x, v = .int x ∧ x &&& 1 = x)) : narrow ty (en_rv b B0 v) = en_rv b B0 v ∧ fits ty (en_rv b B0 v) = true := by
  rcases h with ⟨rfl, x, rfl⟩ | ⟨rfl, x, rfl⟩ | ⟨rfl, h⟩ | ⟨rfl, x, rfl, h⟩
  · cases ty <;> first | exact ⟨rfl, rfl⟩ | exact absurd ht (by simp [en_ft])
  · cases ty <;> first | exact ⟨rfl, rfl⟩ | exact absurd ht (by simp [en_ft])
  · rcases h with ⟨x, rfl⟩ | rfl
    · cases ty <;> first | exact ⟨rfl, rfl⟩ | exact absurd ht (by simp [en_ft])
    · cases ty <;> first | exact ⟨rfl, rfl⟩ | exact absurd ht (by simp [en_ft])
  · have e : ty = .boolean := by
      cases ty <;> first | rfl | exact absurd ht (by simp [en_ft])
    subst e
    have h2 : x = 0 ∨ x = 1 := by
      have h3 : x.toBitVec &&& 1#32 = x.toBitVec := congrArg Int32.toBitVec h
      have h4 : x.toBitVec.toNat = x.toBitVec.toNat % 2 := by
        have := congrArg BitVec.toNat h3
        simp only [BitVec.toNat_and] at this
        rw [← this, show (1#32).toNat = 1 from rfl, Nat.and_one_is_mod, Nat.mod_mod]
      have h5 : x.toBitVec.toNat = 0 ∨ x.toBitVec.toNat = 1 := by omega
      rcases h5 with h5 | h5
      · exact Or.inl (Int32.toBitVec_inj.mp (BitVec.eq_of_toNat_eq h5))
      · exact Or.inr (Int32.toBitVec_inj.mp (BitVec.eq_of_toNat_eq h5))
    refine ⟨by show Value.int (x &&& 1) = _; rw [h]; rfl, ?_⟩
    rcases h2 with rfl | rfl <;> rfl
theorem en_w_put (X : en_Cx p c cc n s m args own D aC b B0 K0 sc) (hS : en_St D aC b B0 s z H locs) {ini : Bool} (hini : ini = true → meth.name = "<init>") {x k tag a ci j : Nat} {cs : List (Nat × Nat)} {fs : List Value} {v w : Value} (hlk : en_FP own ini x k tag cs) (hz : en_nt z a = some (.inr (ci, fs))) (hc : en_fd cs ci = some j) (hw : en_nt fs k = some w) (hv : (tag = 0 ∧ ∃ x, v = .int x) ∨ (tag = 1 ∧ ∃ x, v = .long x) ∨ (tag = 2 ∧ ((∃ x, v = .ref x) ∨ v = .null)) ∨ (tag = 3 ∧ ∃ x, v = .int x ∧ x &&& 1 = x)) (hd : decode cc pc = .ok (.putfield x, 3))
    (kk : ∀ H' locs', en_St D aC b B0 s (z.set a (.inr (ci, fs.set k v))) H' locs' → W p l e R s m args below meth c H' locs' cells slots Q (F0 m (pc + 3) ls rest)) : W p l e R s m args below meth c H locs cells slots Q (F0 m pc ls (en_rv b B0 v :: .ref (B0 + a) :: rest)) := by
  obtain ⟨hx, hb, hml, hown, hts, hK, hX, hbl, hsz, hT⟩ := X
  obtain ⟨ref, hcs⟩ := hlk
  obtain ⟨C, T, N, ty1, h1, h2, h3, h4, h5, h6, h7⟩ := hcs _ (en_fd_mem hc)
  obtain ⟨ty, f1, f2, f3, f4, f5, f6, f7⟩ := en_cok _ _ h1
  have he := en_rw_at (aC := aC) (b := b) (B0 := B0) hz
  obtain ⟨g1, g2⟩ := en_fit b B0 h6 hv
  have hl : k < (fs.map (en_rv b B0)).length := by
    rw [en_nt_eq] at hw
    rw [List.length_map]
    exact (List.getElem?_eq_some_iff.mp hw).1
  have hsame : ∀ y, s.fieldFound? (T k).1 (T k).2.1 (T k).2.2.1 = some y → s.fieldFound? ref (T k).2.1 (T k).2.2.1 = some y := by
    intro y hy
    rcases h4 with h4 | h4
    · rw [← h4]; exact hy
    · exact u_same (hts _ h4) y hy
  rcases h7 with h7 | ⟨h7, h8, h9⟩
  · refine va_put hx hb hts f1 ty f2 f3 hown hK hS.1 (en_rw_D aC b B0 z) hS.2 a he h1 k h2 (hts _ h3) hsame h7 h5 g1 g2 hl hd (fun H' locs' hP _ hS' => kk H' locs' ⟨?_, hS'⟩)
    rw [← en_rx_set]
    exact hP
  · refine va_putF hx hb hts f1 ty f2 f3 hown hK hS.1 (en_rw_D aC b B0 z) hS.2 a he h1 k h2 (hts _ h3) hsame h7 (hini h8) h9 h5 g1 g2 hl hd (fun H' locs' hP _ hS' => kk H' locs' ⟨?_, hS'⟩)
    rw [← en_rx_set]
    exact hP
theorem en_w_aI (X : en_Cx p c cc n s m args own D aC b B0 K0 sc) (hS : en_St D aC b B0 s z H locs) {a k : Nat} {g : Nat → Int32} {i : Int32} (hz : en_nt z a = some (.inl (0, k, .inl g))) (hi : en_ix i k) (hd : decode cc pc = .ok (.iaload, 1))
    (kk : W p l e R s m args below meth c H locs cells slots Q (F0 m (pc + 1) ls (.int (g i.toNatClampNeg) :: rest))) : W p l e R s m args below meth c H locs cells slots Q (F0 m pc ls (.int i :: .ref (B0 + a) :: rest)) :=
  va_iald X.1 X.2.1 X.2.2.2.2.2.1 hS.1 a 0 (en_rw_at (aC := aC) (b := b) (B0 := B0) hz) rfl (en_ix_in hi) hd kk
theorem en_w_aS (X : en_Cx p c cc n s m args own D aC b B0 K0 sc) (hS : en_St D aC b B0 s z H locs) {i : Int32} (hi : en_ix i sc.1) (hd : decode cc pc = .ok (.iaload, 1))
    (kk : W p l e R s m args below meth c H locs cells slots Q (F0 m (pc + 1) ls (.int (sc.2 i.toNatClampNeg) :: rest))) : W p l e R s m args below meth c H locs cells slots Q (F0 m pc ls (.int i :: .ref b :: rest)) := by
  obtain ⟨hx, hb, hml, hown, hts, hK, hX, hbl, hsz, hT⟩ := X
  exact va_sld hx hb hX (by omega) (Nat.not_le.mpr hbl) hS.2 (en_ix_in hi) hd kk
theorem en_w_aL (X : en_Cx p c cc n s m args own D aC b B0 K0 sc) (hS : en_St D aC b B0 s z H locs) {a k : Nat} {g : Nat → Int64} {i : Int32} (hz : en_nt z a = some (.inl (1, k, .inr (.inl g)))) (hi : en_ix i k) (hd : decode cc pc = .ok (.laload, 1))
    (kk : W p l e R s m args below meth c H locs cells slots Q (F0 m (pc + 1) ls (.long (g i.toNatClampNeg) :: rest))) : W p l e R s m args below meth c H locs cells slots Q (F0 m pc ls (.int i :: .ref (B0 + a) :: rest)) :=
  va_lald X.1 X.2.1 X.2.2.2.2.2.1 hS.1 a 1 (en_rw_at (aC := aC) (b := b) (B0 := B0) hz) rfl (en_ix_in hi) hd kk
theorem en_ty_at (aC : Nat → ClassId) : ∀ t : Nat, t < 3 → (en_ty aC)[t + 2]? = some (aC (t + 2), .object (en_el t))
  | 0, _ => rfl
  | 1, _ => rfl
  | 2, _ => rfl
  | t + 3, h => by omega
theorem en_w_aA (X : en_Cx p c cc n s m args own D aC b B0 K0 sc) (hS : en_St D aC b B0 s z H locs) {a k t : Nat} {g : Nat → Option Nat} {i : Int32} (hz : en_nt z a = some (.inl (t + 2, k, .inr (.inr (.inr (.inr g)))))) (ht : t < 3) (hi : en_ix i k) (hd : decode cc pc = .ok (.aaload, 1)) {v : Value} (hv : en_rv b B0 v = va_rf ((g i.toNatClampNeg).map (en_ra b B0)))
    (kk : W p l e R s m args below meth c H locs cells slots Q (F0 m (pc + 1) ls (en_rv b B0 v :: rest))) : W p l e R s m args below meth c H locs cells slots Q (F0 m pc ls (.int i :: .ref (B0 + a) :: rest)) := by
  rw [hv] at kk
  exact va_aldq X.1 X.2.1 X.2.2.2.2.2.1 hS.1 a (t + 2) (en_rw_at (aC := aC) (b := b) (B0 := B0) hz) (en_ty_at aC t ht) (en_ix_in hi) hd kk
theorem en_w_sI (X : en_Cx p c cc n s m args own D aC b B0 K0 sc) (hS : en_St D aC b B0 s z H locs) {a k : Nat} {g : Nat → Int32} {i x : Int32} (hz : en_nt z a = some (.inl (0, k, .inl g))) (hi : en_ix i k) (hd : decode cc pc = .ok (.iastore, 1))
    (kk : ∀ H' locs', en_St D aC b B0 s (z.set a (.inl (0, k, .inl (upd g i.toNatClampNeg x)))) H' locs' → W p l e R s m args below meth c H' locs' cells slots Q (F0 m (pc + 1) ls rest)) : W p l e R s m args below meth c H locs cells slots Q (F0 m pc ls (.int x :: .int i :: .ref (B0 + a) :: rest)) :=
  va_iast X.1 X.2.1 X.2.2.2.2.2.1 hS.1 (en_rw_D aC b B0 z) hS.2 a 0 (en_rw_at (aC := aC) (b := b) (B0 := B0) hz) rfl (en_ix_in hi) hd (fun H' locs' hP _ hS' => kk H' locs' ⟨by rw [← en_rw_set]; exact hP, hS'⟩)
theorem en_w_sL (X : en_Cx p c cc n s m args own D aC b B0 K0 sc) (hS : en_St D aC b B0 s z H locs) {a k : Nat} {g : Nat → Int64} {i : Int32} {x : Int64} (hz : en_nt z a = some (.inl (1, k, .inr (.inl g)))) (hi : en_ix i k) (hd : decode cc pc = .ok (.lastore, 1))
    (kk : ∀ H' locs', en_St D aC b B0 s (z.set a (.inl (1, k, .inr (.inl (vp_updL g i.toNatClampNeg x))))) H' locs' → W p l e R s m args below meth c H' locs' cells slots Q (F0 m (pc + 1) ls rest)) : W p l e R s m args below meth c H locs cells slots Q (F0 m pc ls (.long x :: .int i :: .ref (B0 + a) :: rest)) :=
  va_last X.1 X.2.1 X.2.2.2.2.2.1 hS.1 (en_rw_D aC b B0 z) hS.2 a 1 (en_rw_at (aC := aC) (b := b) (B0 := B0) hz) rfl (en_ix_in hi) hd (fun H' locs' hP _ hS' => kk H' locs' ⟨by rw [← en_rw_set]; exact hP, hS'⟩)
theorem en_up_map (b B0 : Nat) (g : Nat → Option Nat) (i : Nat) (o : Option Nat) : (fun j => (va_up g i o j).map (en_ra b B0)) = va_up (fun j => (g j).map (en_ra b B0)) i (o.map (en_ra b B0)) := by
  funext j
  unfold va_up
  split <;> rfl
theorem en_w_sN (X : en_Cx p c cc n s m args own D aC b B0 K0 sc) (hS : en_St D aC b B0 s z H locs) {a k t : Nat} {g : Nat → Option Nat} {i : Int32} (hz : en_nt z a = some (.inl (t + 2, k, .inr (.inr (.inr (.inr g)))))) (ht : t < 3) (hi : en_ix i k) (hd : decode cc pc = .ok (.aastore, 1))
    (kk : ∀ H' locs', en_St D aC b B0 s (z.set a (.inl (t + 2, k, .inr (.inr (.inr (.inr (va_up g i.toNatClampNeg none))))))) H' locs' → W p l e R s m args below meth c H' locs' cells slots Q (F0 m (pc + 1) ls rest)) : W p l e R s m args below meth c H locs cells slots Q (F0 m pc ls (.null :: .int i :: .ref (B0 + a) :: rest)) :=
  va_astqN X.1 X.2.1 X.2.2.2.2.2.1 hS.1 (en_rw_D aC b B0 z) hS.2 a (t + 2) (en_rw_at (aC := aC) (b := b) (B0 := B0) hz) (en_ty_at aC t ht) (en_ix_in hi) hd (fun H' locs' hP _ hS' => kk H' locs' ⟨by rw [← en_rw_set]; simp only [en_rc, en_rx, en_up_map]; exact hP, hS'⟩)
theorem en_w_sA (X : en_Cx p c cc n s m args own D aC b B0 K0 sc) (hS : en_St D aC b B0 s z H locs) {a k t q ci j : Nat} {g : Nat → Option Nat} {i : Int32} {fs : List Value} (hz : en_nt z a = some (.inl (t + 2, k, .inr (.inr (.inr (.inr g)))))) (hi : en_ix i k) (hq : en_nt z q = some (.inr (ci, fs))) (hc : en_fd (en_as t) ci = some j) (hd : decode cc pc = .ok (.aastore, 1))
    (kk : ∀ H' locs', en_St D aC b B0 s (z.set a (.inl (t + 2, k, .inr (.inr (.inr (.inr (va_up g i.toNatClampNeg (some (q + 1))))))))) H' locs' → W p l e R s m args below meth c H' locs' cells slots Q (F0 m (pc + 1) ls rest)) : W p l e R s m args below meth c H locs cells slots Q (F0 m pc ls (.ref (B0 + q) :: .int i :: .ref (B0 + a) :: rest)) := by
  obtain ⟨ht, r, hr, h⟩ := en_asok t _ (en_fd_mem hc)
  rcases h with h | h
  · have hty := en_ty_at aC t ht
    rw [← h] at hty
    exact va_astq X.1 X.2.1 X.2.2.2.2.2.1 hS.1 (en_rw_D aC b B0 z) hS.2 a (t + 2) q ci (en_rw_at (aC := aC) (b := b) (B0 := B0) hz) hty (en_rw_at (aC := aC) (b := b) (B0 := B0) hq) hr (en_ix_in hi) hd (fun H' locs' hP _ hS' => kk H' locs' ⟨by rw [← en_rw_set]; simp only [en_rc, en_rx, en_up_map]; exact hP, hS'⟩)
  · exact va_astqO X.1 X.2.1 X.2.2.2.2.2.1 hS.1 (en_rw_D aC b B0 z) hS.2 a (t + 2) q ci (en_rw_at (aC := aC) (b := b) (B0 := B0) hz) (en_ty_at aC t ht) (X.2.2.2.2.2.2.2.2.2.1 _ h).2 (en_rw_at (aC := aC) (b := b) (B0 := B0) hq) hr (en_ix_in hi) hd (fun H' locs' hP _ hS' => kk H' locs' ⟨by rw [← en_rw_set]; simp only [en_rc, en_rx, en_up_map]; exact hP, hS'⟩)
theorem en_ty5 (aC : Nat → ClassId) : ∀ t : Nat, t < 5 → (en_ty aC)[t]? = some (aC t, en_tn t)
  | 0, _ => rfl
  | 1, _ => rfl
  | 2, _ => rfl
  | 3, _ => rfl
  | 4, _ => rfl
  | t + 5, h => by omega
theorem en_w_ln (X : en_Cx p c cc n s m args own D aC b B0 K0 sc) (hS : en_St D aC b B0 s z H locs) {a t k : Nat} {x : (Nat → Int32) ⊕ (Nat → Int64) ⊕ (Nat → UInt32) ⊕ (Nat → UInt64) ⊕ (Nat → Option Nat)} (hz : en_nt z a = some (.inl (t, k, x))) (ht : t < 5) (hd : decode cc pc = .ok (.arraylength, 1))
    (kk : W p l e R s m args below meth c H locs cells slots Q (F0 m (pc + 1) ls (.int (Int32.ofNat k) :: rest))) : W p l e R s m args below meth c H locs cells slots Q (F0 m pc ls (.ref (B0 + a) :: rest)) :=
  va_alen X.1 X.2.1 X.2.2.2.2.2.1 hS.1 a t (en_rw_at (aC := aC) (b := b) (B0 := B0) hz) (en_ty5 aC t ht) rfl hd kk
theorem en_w_lnS (X : en_Cx p c cc n s m args own D aC b B0 K0 sc) (hS : en_St D aC b B0 s z H locs) (hd : decode cc pc = .ok (.arraylength, 1))
    (kk : W p l e R s m args below meth c H locs cells slots Q (F0 m (pc + 1) ls (.int (Int32.ofNat sc.1) :: rest))) : W p l e R s m args below meth c H locs cells slots Q (F0 m pc ls (.ref b :: rest)) := by
  obtain ⟨hx, hb, hml, hown, hts, hK, hX, hbl, hsz, hT⟩ := X
  exact va_slen hx hb hX (by omega) (Nat.not_le.mpr hbl) hS.2 hd kk
theorem en_St.push (hS : en_St D aC b B0 s z H locs) {H1 : Heap} {x : va_E} (hsz : H.size = B0 + z.length) (h1 : va_at D en_cs (B0 + z.length, en_rc aC b B0 x) H1) (h2 : H1.size = H.size + 1) (ho : ∀ q, q < H.size → H1[q]? = H[q]?) : en_St D aC b B0 s (z ++ [x]) H1 locs := by
  refine ⟨?_, Nat.le_trans hS.2.1 (by omega), fun q g1 g2 => (ho q (Nat.lt_of_lt_of_le g1 hS.2.1)).trans (hS.2.2.1 q g1 g2), hS.2.2.2⟩
  rw [en_rw_app]
  refine (hS.1.kept (fun k q hq => ho q.1 ((hS.1 k q hq).lt))).app (fun k q hq => ?_)
  have hz : k < 1 := (List.getElem?_eq_some_iff.mp hq).1
  rw [show k = 0 by omega] at hq
  cases hq
  exact h1
theorem en_w_new (X : en_Cx p c cc n s m args own D aC b B0 K0 sc) (hS : en_St D aC b B0 s z H locs) (hk : z.length = K0 + cells) {x k : Nat} {C : String} {T : u_T} {N : Nat} (hcl : Cond.classLink own x C ∈ en_tb) (hc : en_cs[k]? = some (C, T, N)) (hrc : cells + 1 ≤ R.cells) (hrs : slots + (en_df k).length ≤ R.slots) (hd : decode cc pc = .ok (.new x, 3))
    (kk : ∀ H', en_St D aC b B0 s (z ++ [.inr (k, en_df k)]) H' locs → W p l e R s m args below meth c H' locs (cells + 1) (slots + (en_df k).length) Q (F0 m (pc + 3) ls (.ref (B0 + z.length) :: rest))) : W p l e R s m args below meth c H locs cells slots Q (F0 m pc ls rest) := by
  obtain ⟨hx, hb, hml, hown, hts, hK, hX, hbl, hsz, hT⟩ := X
  refine en_sized (fun hle => ?_)
  have hH := en_St.size hS hsz hk hle
  obtain ⟨ty, f1, f2, f3, f4, f5, f6, f7⟩ := en_cok _ _ hc
  have hKn := hK.1 k _ hc
  rw [f5] at hrs kk
  refine W.newcK hx hb hown (hts _ hcl) (hts _ f6) (hts _ f7) rfl hd hrc hrs hKn.2.1 hH fun H1 kC hkC e1 z1 o1 => kk H1 (hS.push hH ?_ (by omega) (fun q hq => o1 q (by omega)))
  refine ⟨_, hc, ?_⟩
  have h9 := (u_born ty hts f1 hKn hkC e1 f2).to f4
  simp only [en_df_rv]
  exact h9
theorem en_w_nI (X : en_Cx p c cc n s m args own D aC b B0 K0 sc) (hS : en_St D aC b B0 s z H locs) (hk : z.length = K0 + cells) {i : Int32} (hi : en_ix i 1000000) (hw : Cond.arrayClass .int ∈ en_tb) (hrc : cells + 1 ≤ R.cells) (hrs : slots + i.toNatClampNeg ≤ R.slots) (hd : decode cc pc = .ok (.newarray .int, 2))
    (kk : ∀ H', en_St D aC b B0 s (z ++ [.inl (0, i.toNatClampNeg, .inl (fun _ => 0))]) H' locs → W p l e R s m args below meth c H' locs (cells + 1) (slots + i.toNatClampNeg) Q (F0 m (pc + 2) ls (.ref (B0 + z.length) :: rest))) : W p l e R s m args below meth c H locs cells slots Q (F0 m pc ls (.int i :: rest)) := by
  obtain ⟨hx, hb, hml, hown, hts, hK, hX, hbl, hsz, hT⟩ := X
  refine en_sized (fun hle => ?_)
  have hH := en_St.size hS hsz hk hle
  have hv := en_ix_in hi
  have h0 : ¬ i < 0 := fun q => hv (Or.inl q)
  have h1 : i.toNatClampNeg < 1000000 := Nat.not_le.mp fun q => hv (Or.inr q)
  refine va_newaK hx hb (atype := .int) (hts _ hw) rfl hd rfl h0 rfl (by show _ * 4 ≤ _; omega) hrc hrs hH fun H1 cA e1 z1 o1 hAr hNm => kk H1 (hS.push hH ?_ (by omega) (fun q hq => o1 q (by omega)))
  have hRA := (hK.2 0 _ rfl).2
  have hcA : cA = aC 0 := Option.some.inj (hNm.symm.trans hRA)
  subst hcA
  exact e1
theorem en_w_nL (X : en_Cx p c cc n s m args own D aC b B0 K0 sc) (hS : en_St D aC b B0 s z H locs) (hk : z.length = K0 + cells) {i : Int32} (hi : en_ix i 1000000) (hw : Cond.arrayClass .long ∈ en_tb) (hrc : cells + 1 ≤ R.cells) (hrs : slots + i.toNatClampNeg ≤ R.slots) (hd : decode cc pc = .ok (.newarray .long, 2))
    (kk : ∀ H', en_St D aC b B0 s (z ++ [.inl (1, i.toNatClampNeg, .inr (.inl (fun _ => 0)))]) H' locs → W p l e R s m args below meth c H' locs (cells + 1) (slots + i.toNatClampNeg) Q (F0 m (pc + 2) ls (.ref (B0 + z.length) :: rest))) : W p l e R s m args below meth c H locs cells slots Q (F0 m pc ls (.int i :: rest)) := by
  obtain ⟨hx, hb, hml, hown, hts, hK, hX, hbl, hsz, hT⟩ := X
  refine en_sized (fun hle => ?_)
  have hH := en_St.size hS hsz hk hle
  have hv := en_ix_in hi
  have h0 : ¬ i < 0 := fun q => hv (Or.inl q)
  have h1 : i.toNatClampNeg < 1000000 := Nat.not_le.mp fun q => hv (Or.inr q)
  refine va_newaK hx hb (atype := .long) (hts _ hw) rfl hd rfl h0 rfl (by show _ * 8 ≤ _; omega) hrc hrs hH fun H1 cA e1 z1 o1 hAr hNm => kk H1 (hS.push hH ?_ (by omega) (fun q hq => o1 q (by omega)))
  have hRA := (hK.2 1 _ rfl).2
  have hcA : cA = aC 1 := Option.some.inj (hNm.symm.trans hRA)
  subst hcA
  exact e1
theorem en_w_nA (X : en_Cx p c cc n s m args own D aC b B0 K0 sc) (hS : en_St D aC b B0 s z H locs) (hk : z.length = K0 + cells) {i : Int32} {x t : Nat} (ht : t < 3) (hi : en_ix i 1000000) (hcl : Cond.classLink own x (en_el t) ∈ en_tb) (hao : en_el t ∈ en_aol) (hrc : cells + 1 ≤ R.cells) (hrs : slots + i.toNatClampNeg ≤ R.slots) (hd : decode cc pc = .ok (.anewarray x, 3))
    (kk : ∀ H', en_St D aC b B0 s (z ++ [.inl (t + 2, i.toNatClampNeg, .inr (.inr (.inr (.inr (fun _ => none)))))]) H' locs → W p l e R s m args below meth c H' locs (cells + 1) (slots + i.toNatClampNeg) Q (F0 m (pc + 3) ls (.ref (B0 + z.length) :: rest))) : W p l e R s m args below meth c H locs cells slots Q (F0 m pc ls (.int i :: rest)) := by
  obtain ⟨hx, hb, hml, hown, hts, hK, hX, hbl, hsz, hT⟩ := X
  refine en_sized (fun hle => ?_)
  have hH := en_St.size hS hsz hk hle
  have hv := en_ix_in hi
  have h0 : ¬ i < 0 := fun q => hv (Or.inl q)
  have h1 : i.toNatClampNeg < 1000000 := Nat.not_le.mp fun q => hv (Or.inr q)
  refine W.anew hx hb hown (hts _ hcl) (va_AO.use (hT.2.1 _ hao)) rfl hd rfl h0 (by omega) hrc hrs fun cA kA comp f1 f2 f3 f4 => ?_
  obtain ⟨kA', comp', -, -, -, g4⟩ := (hK.2 (t + 2) _ (en_ty_at aC t ht)).2
  have hcA : cA = aC (t + 2) := Option.some.inj (f1.symm.trans g4)
  subst hcA
  generalize hH1 : H.push ({ cls := aC (t + 2), slots := Array.replicate i.toNatClampNeg .null, vm := .none } : Cell) = H1
  have z1 : H1.size = H.size + 1 := by rw [← hH1, Array.size_push]
  have e1 : H1[H.size]? = some (arrV (aC (t + 2)) i.toNatClampNeg (fun _ => .null)) := by rw [← hH1, Array.getElem?_push_size, ← arrV_new]
  have o1 : ∀ q : Nat, q < H.size → H1[q]? = H[q]? := fun q hq => by rw [← hH1, Array.getElem?_push, if_neg (Nat.ne_of_lt hq)]
  have k1 := kk H1 (hS.push hH ?_ z1 o1)
  · rw [← hH] at k1
    exact k1
  · show H1[B0 + z.length]? = some (vp_cell _ _)
    simp only [en_rx, Option.map_none, vp_cell_q]
    rw [← hH]
    exact e1
theorem en_w_io1 (X : en_Cx p c cc n s m args own D aC b B0 K0 sc) (hS : en_St D aC b B0 s z H locs) {x a ci : Nat} {fs : List Value} {r : vw_C} {C : String} (hcl : Cond.classLink own x C ∈ en_tb) (hz : en_nt z a = some (.inr (ci, fs))) (hr : en_cs[ci]? = some r) (h : r.1 = C ∨ Cond.castable r.1 C ∈ en_nwl) (hd : decode cc pc = .ok (.instanceof x, 3))
    (kk : W p l e R s m args below meth c H locs cells slots Q (F0 m (pc + 3) ls (.int 1 :: rest))) : W p l e R s m args below meth c H locs cells slots Q (F0 m pc ls (.ref (B0 + a) :: rest)) := by
  have hrec := va_recv X.2.2.2.2.2.1 hS.1 hr (en_rw_at (aC := aC) (b := b) (B0 := B0) hz)
  rcases h with h | h
  · rw [h] at hrec
    have h2 := (X.2.2.2.2.2.1.1 ci r hr).2
    rw [h] at h2
    exact va_instS X.1 X.2.1 X.2.2.2.1 (X.2.2.2.2.1 _ hcl) h2 hrec hd kk
  · exact va_instY X.1 X.2.1 X.2.2.2.1 (X.2.2.2.2.1 _ hcl) (X.2.2.2.2.2.2.2.2.2.1 _ h).2 hrec hd kk
theorem en_w_io0 (X : en_Cx p c cc n s m args own D aC b B0 K0 sc) (hS : en_St D aC b B0 s z H locs) {x a ci : Nat} {fs : List Value} {r : vw_C} {C : String} (hcl : Cond.classLink own x C ∈ en_tb) (hz : en_nt z a = some (.inr (ci, fs))) (hr : en_cs[ci]? = some r) (h : (r.1, C) ∈ en_ncl) (hd : decode cc pc = .ok (.instanceof x, 3))
    (kk : W p l e R s m args below meth c H locs cells slots Q (F0 m (pc + 3) ls (.int 0 :: rest))) : W p l e R s m args below meth c H locs cells slots Q (F0 m pc ls (.ref (B0 + a) :: rest)) :=
  va_instNo X.1 X.2.1 X.2.2.2.1 (X.2.2.2.2.1 _ hcl) (X.2.2.2.2.2.2.2.2.2.2.2 _ h) (va_recv X.2.2.2.2.2.1 hS.1 hr (en_rw_at (aC := aC) (b := b) (B0 := B0) hz)) hd kk
theorem en_w_cast (X : en_Cx p c cc n s m args own D aC b B0 K0 sc) (hS : en_St D aC b B0 s z H locs) {x a ci : Nat} {fs : List Value} {r : vw_C} {C : String} (hcl : Cond.classLink own x C ∈ en_tb) (hz : en_nt z a = some (.inr (ci, fs))) (hr : en_cs[ci]? = some r) (h : r.1 = C ∨ Cond.castable r.1 C ∈ en_nwl) (hd : decode cc pc = .ok (.checkcast x, 3))
    (kk : W p l e R s m args below meth c H locs cells slots Q (F0 m (pc + 3) ls (.ref (B0 + a) :: rest))) : W p l e R s m args below meth c H locs cells slots Q (F0 m pc ls (.ref (B0 + a) :: rest)) := by
  have hrec := va_recv X.2.2.2.2.2.1 hS.1 hr (en_rw_at (aC := aC) (b := b) (B0 := B0) hz)
  rcases h with h | h
  · rw [h] at hrec
    have h2 := (X.2.2.2.2.2.1.1 ci r hr).2
    rw [h] at h2
    exact va_castS X.1 X.2.1 X.2.2.2.1 (X.2.2.2.2.1 _ hcl) h2 hrec hd kk
  · exact va_castY X.1 X.2.1 X.2.2.2.1 (X.2.2.2.2.1 _ hcl) (X.2.2.2.2.2.2.2.2.2.1 _ h).2 hrec hd kk
end ENX
