/-! CELLS that are made later: reads, writes; a cut's cells -/
section DYN
variable {ρ : Type} {sc : en_S} {XI : Nat → Int32} {XA : Nat → Nat → Int32} {XP : Nat → Nat → Option Nat} {XC : Value} {MI : Nat → Int32} {MA : Nat → Nat → Int32} {ML : Nat → Nat → Int64} {D : en_H} {p ci k x n : Nat} {cs : List (Nat × Nat)} {fs : List Value}
theorem d_cc (h : en_nt D p = some (.inr (ci, fs))) (g : Nat → Option ρ) : en_cc (hp XI XA XP XC MI MA ML D) (p + 51) g = g ci := by
  unfold en_cc
  rw [hp_ce, h]
theorem d_vt (h : en_nt D p = some (.inr (ci, fs))) (cs : List (Nat × Nat)) (g : Nat → Option ρ) : en_vt (hp XI XA XP XC MI MA ML D) (p + 51) cs g = en_vs g ci cs := by
  unfold en_vt
  rw [d_cc h]
theorem d_io (h : en_nt D p = some (.inr (ci, fs))) (cs : List (Nat × Nat)) (f0 f1 : Option ρ) : en_io (hp XI XA XP XC MI MA ML D) (p + 51) cs f0 f1 = en_vs (fun b => match b with
  | 0 => f0
  | _ => f1) ci cs := by
  unfold en_io
  rw [d_vt h]
  rfl
theorem d_gI {v : Int32} (h : en_nt D p = some (.inr (ci, fs))) (h2 : en_fd cs ci = some x) (h3 : en_nt fs k = some (.int v)) (f : Int32 → Option ρ) : en_gI (hp XI XA XP XC MI MA ML D) (p + 51) cs k f = f v := gI_of (z := hp XI XA XP XC MI MA ML D) (a := p + 51) h h2 h3 f
theorem d_gL {v : Int64} (h : en_nt D p = some (.inr (ci, fs))) (h2 : en_fd cs ci = some x) (h3 : en_nt fs k = some (.long v)) (f : Int64 → Option ρ) : en_gL (hp XI XA XP XC MI MA ML D) (p + 51) cs k f = f v := gL_of (z := hp XI XA XP XC MI MA ML D) (a := p + 51) h h2 h3 f
theorem d_gA {v : Nat} (h : en_nt D p = some (.inr (ci, fs))) (h2 : en_fd cs ci = some x) (h3 : en_nt fs k = some (.ref v)) (f0 : Option ρ) (f : Nat → Option ρ) : en_gA (hp XI XA XP XC MI MA ML D) (p + 51) cs k f0 f = f v := gA_of (z := hp XI XA XP XC MI MA ML D) (a := p + 51) h h2 h3 f0 f
theorem d_pf {w : Value} (h : en_nt D p = some (.inr (ci, fs))) (h2 : en_fd cs ci = some x) (h3 : en_nt fs k = some w) (v : Value) (f : en_H → Option ρ) : en_pf (hp XI XA XP XC MI MA ML D) (p + 51) cs k v f = f (hp XI XA XP XC MI MA ML (D.set p (.inr (ci, fs.set k v)))) := by
  show en_pf (hp XI XA XP XC MI MA ML D) ((p + 50) + 1) cs k v f = _
  unfold en_pf
  have h' : en_nt (hp XI XA XP XC MI MA ML D) (p + 50) = some (.inr (ci, fs)) := h
  simp only [h', h2, h3]
  rfl
theorem d_aI {g : Nat → Int32} (h : en_nt D p = some (.inl (0, n, .inl g))) (i : Int32) (f : Int32 → Option ρ) : en_aI sc (hp XI XA XP XC MI MA ML D) (p + 51) i f = if en_ix i n then f (g i.toNatClampNeg) else none := by
  show en_aI sc (hp XI XA XP XC MI MA ML D) ((p + 50) + 1) i f = _
  unfold en_aI
  have h' : en_nt (hp XI XA XP XC MI MA ML D) (p + 50) = some (.inl (0, n, .inl g)) := h
  simp only [h']
theorem d_ln {t : Nat} {g : _} (h : en_nt D p = some (.inl (t, n, g))) (ht : t < 5) (f : Int32 → Option ρ) : en_ln sc (hp XI XA XP XC MI MA ML D) (p + 51) f = f (Int32.ofNat n) := by
  show en_ln sc (hp XI XA XP XC MI MA ML D) ((p + 50) + 1) f = _
  unfold en_ln
  have h' : en_nt (hp XI XA XP XC MI MA ML D) (p + 50) = some (.inl (t, n, g)) := h
  simp only [h', if_pos ht]
theorem d_sI {g : Nat → Int32} (h : en_nt D p = some (.inl (0, n, .inl g))) (i v : Int32) (f : en_H → Option ρ) : en_sI (hp XI XA XP XC MI MA ML D) (p + 51) i v f = if en_ix i n then f (hp XI XA XP XC MI MA ML (D.set p (.inl (0, n, .inl (upd g i.toNatClampNeg v))))) else none := by
  show en_sI (hp XI XA XP XC MI MA ML D) ((p + 50) + 1) i v f = _
  unfold en_sI
  have h' : en_nt (hp XI XA XP XC MI MA ML D) (p + 50) = some (.inl (0, n, .inl g)) := h
  simp only [h']
  rfl
theorem d_aL {g : Nat → Int64} (h : en_nt D p = some (.inl (1, n, .inr (.inl g)))) (i : Int32) (f : Int64 → Option ρ) : en_aL (hp XI XA XP XC MI MA ML D) (p + 51) i f = if en_ix i n then f (g i.toNatClampNeg) else none := by
  unfold en_aL
  simp only [hp_ce, h]
theorem d_sL {g : Nat → Int64} (h : en_nt D p = some (.inl (1, n, .inr (.inl g)))) (i : Int32) (v : Int64) (f : en_H → Option ρ) : en_sL (hp XI XA XP XC MI MA ML D) (p + 51) i v f = if en_ix i n then f (hp XI XA XP XC MI MA ML (D.set p (.inl (1, n, .inr (.inl (vp_updL g i.toNatClampNeg v)))))) else none := by
  show en_sL (hp XI XA XP XC MI MA ML D) ((p + 50) + 1) i v f = _
  unfold en_sL
  have h' : en_nt (hp XI XA XP XC MI MA ML D) (p + 50) = some (.inl (1, n, .inr (.inl g))) := h
  simp only [h']
  rfl
end DYN
theorem nt_lt {α : Type} {l : List α} {p : Nat} {c : α} (h : en_nt l p = some c) : p < l.length := by
  rw [en_nt_eq] at h
  exact (List.getElem?_eq_some_iff.mp h).1
theorem nt_set_eq {D : en_H} {p : Nat} {c e : va_E} (h : en_nt D p = some e) : en_nt (D.set p c) p = some c := by
  have := nt_lt h
  rw [en_nt_eq, List.getElem?_set_self this]
theorem nt_set_ne {D : en_H} {p q : Nat} {c : va_E} (h : q ≠ p) : en_nt (D.set p c) q = en_nt D q := by
  rw [en_nt_eq, en_nt_eq, List.getElem?_set_ne (fun e => h e.symm)]
theorem nt_app {D : en_H} {p : Nat} {c e : va_E} (h : en_nt D p = some e) : en_nt (D ++ [c]) p = some e := by
  rw [en_nt_eq] at h ⊢
  rw [List.getElem?_append_left (List.getElem?_eq_some_iff.mp h).1]
  exact h
theorem nt_new {D : en_H} {c : va_E} : en_nt (D ++ [c]) D.length = some c := by
  rw [en_nt_eq, List.getElem?_append_right (by omega)]
  simp
/-- cells that never change: all but cuts and rows of longs -/
def immb : va_E → Bool
  | .inr (1, _) => false
  | .inl (1, _) => false
  | _ => true
def FR (D D' : en_H) : Prop := ∀ p c, en_nt D p = some c → immb c = true → en_nt D' p = some c
theorem FR.refl (D : en_H) : FR D D := fun _ _ h _ => h
theorem FR.trans {D D' D'' : en_H} (h1 : FR D D') (h2 : FR D' D'') : FR D D'' := fun p c h i => h2 p c (h1 p c h i) i
theorem FR.app (D : en_H) (c : va_E) : FR D (D ++ [c]) := fun _ _ h _ => nt_app h
theorem SlO.fr {D D' : en_H} {q : Nat} {s : SL4} (h : SlO D q s) (hf : FR D D') : SlO D' q s := by
  obtain ⟨a, b, c, d, t, qs, ls, h1, h2, h3, h4⟩ := h
  exact ⟨a, b, c, d, t, qs, ls, hf _ _ h1 rfl, hf _ _ h2 rfl, hf _ _ h3 rfl, h4⟩
/-- the fields of a cut -/
abbrev CCf (num : Nat) (sec : Int) (q : Nat) (z : Int) (zs : Nat) (o : Int) (os p kn tk : Nat) (en : Int) : List Value := [.int (iO (num : Nat)), .int (iO sec), .ref (q + 51), .int (iO z), .int (iO (zs : Nat)), .int (iO o), .int (iO (os : Nat)), .ref (p + 52), .int (iO (kn : Nat)), .int (iO (tk : Nat)), .int (iO en)]
/-- bits -/
theorem pt_bit : ∀ z : Nat, z < 64 → ∀ i : Nat, i < 6 → (((iO z >>> (iO i &&& 31)) &&& 1) : Int32).toInt64 = lO (((z : Int) / 2 ^ i) % 2) := by decide +kernel
theorem sr6 (k : Nat) (h : k < 10200) : iO k >>> (6 &&& 31) = iO ((k / 64 : Nat) : Int) := by
  apply Int32.toInt_inj.mp
  rw [iO_toInt (by unfold i32; omega)]
  show (Int32.toBitVec (iO k >>> (6 &&& 31))).toInt = _
  rw [Int32.toBitVec_shiftRight]
  have e : ((6 &&& 31 : Int32).toBitVec.smod 32) = 6#32 := by decide
  rw [e]
  show ((iO k).toBitVec.sshiftRight 6).toInt = _
  rw [BitVec.toInt_sshiftRight]
  show (iO k).toInt >>> 6 = _
  rw [iO_toInt (by unfold i32; omega), Int.shiftRight_eq_div_pow]
  rfl
theorem iO_bv (k : Nat) (h : k < 2147483648) : (iO k).toBitVec.toNat = k := by
  show (BitVec.ofInt 32 k).toNat = k
  rw [BitVec.toNat_ofInt]
  omega
theorem an6 (k : Nat) (h : k < 10200) : iO k &&& 63 = iO ((k % 64 : Nat) : Int) := by
  apply Int32.toBitVec_inj.mp
  apply BitVec.eq_of_toNat_eq
  rw [Int32.toBitVec_and, BitVec.toNat_and, iO_bv k (by omega), iO_bv (k % 64) (by omega)]
  exact Nat.and_two_pow_sub_one_eq_mod k 6
theorem CBits.app {arr : Nat → Int64} {l : List Int} {v : Int} (h : CBits arr l) (hl : l.length < 10112) (hv : v = 0 ∨ v = 1) : CBits (vp_updL arr (l.length / 64) (arr (l.length / 64) ||| lsh (lO v) (l.length % 64))) (l ++ [v]) := by
  intro j hj
  have hj0 := h j hj
  have hb : ∀ i : Nat, (lO v).toBitVec.getLsbD i = (decide (v = 1) && decide (i = 0)) := by
    intro i
    rcases hv with rfl | rfl
    · show (0#64).getLsbD i = _
      simp
    · show (1#64).getLsbD i = _
      simp
  have hl2 : (l ++ [v])[j]? = if j < l.length then l[j]? else if j = l.length then some v else none := by
    rw [List.getElem?_append]
    split
    · rfl
    · split
      · rename_i h1 h2
        subst h2
        simp
      · rw [List.getElem?_eq_none (by simp; omega)]
  rw [hl2]
  by_cases e : j / 64 = l.length / 64
  · rw [e, v_eq rfl, Int64.toBitVec_or, BitVec.getLsbD_or]
    have hs : (lsh (lO v) (l.length % 64)).toBitVec.getLsbD (j % 64) = (decide (v = 1) && decide (j = l.length)) := by
      show ((lO v).toBitVec <<< (l.length % 64)).getLsbD (j % 64) = _
      rw [BitVec.getLsbD_shiftLeft, hb]
      by_cases e2 : j = l.length
      · subst e2
        simp
        omega
      · by_cases e3 : j % 64 < l.length % 64
        · simp [e3, e2]
        · have : ¬ (j % 64 - l.length % 64 = 0) := by omega
          simp [e2, this]
    rw [← e, hj0, hs]
    by_cases e2 : j < l.length
    · rw [if_pos e2]
      have : ¬ j = l.length := by omega
      simp [this]
    · rw [if_neg e2, List.getElem?_eq_none (by omega)]
      by_cases e3 : j = l.length
      · simp [e3]
      · simp [e3]
  · rw [v_ne e, hj0]
    have e2 : j ≠ l.length := fun q => e (by rw [q])
    by_cases e3 : j < l.length
    · rw [if_pos e3]
    · rw [if_neg e3, if_neg e2, List.getElem?_eq_none (by omega)]
theorem cbits_succ (x : Int) (i : Nat) : cbits x (i + 1) = cbits x i ++ [(x / 2 ^ i) % 2] := by
  unfold cbits
  rw [List.range_succ, List.map_append]
  rfl
theorem cbits_len (x : Int) (i : Nat) : (cbits x i).length = i := by simp [cbits]
