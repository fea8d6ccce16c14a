/-! THE ENGINE IS SOUND, sixth part: one instruction -/
def en_zo : en_O → en_H
  | .inl (_, _, _, z) => z
  | .inr (_, z) => z
theorem en_nI_eq {x : Int32} {k : Nat} (hk : k < 2147483648) : x = Int32.ofNat k ↔ (k : Int) = x.toInt := by
  have e : (Int32.ofNat k).toInt = (k : Int) := nI_toInt (n := k) (by omega)
  constructor
  · intro h; rw [h, e]
  · intro h
    apply Int32.toInt_inj.mp
    rw [e, h]
theorem en_ckJ_spec {P : List en_B} {pc : Nat} {off : Int} {j : Nat} (h : en_ckJ P pc off j = true) : j < P.length ∧ (pc : Int) + off = (en_pc P j : Int) := by
  simp only [en_ckJ, Bool.and_eq_true, decide_eq_true_eq] at h
  exact h
theorem en_swL {P : List en_B} {pc : Nat} {x : Int32} {d : Int} {jd : Nat} {f : Nat → Option en_O} {o : en_O} (hd : en_ckJ P pc d jd = true) : ∀ (os : List (Int × Int)) (qs : List (Nat × Nat)), en_ckL P pc os qs = true → en_sw x (f jd) f qs = some o → ∃ j, f j = some o ∧ en_ckJ P pc (Op.lookupswitch.offset os d x.toInt) j = true
  | [], [], _, h => ⟨jd, h, hd⟩
  | [], q :: qs, hc, _ => by simp [en_ckL] at hc
  | a :: os, [], hc, _ => by simp [en_ckL] at hc
  | (a, o1) :: os, q :: qs, hc, h => by
    simp only [en_ckL, Bool.and_eq_true, decide_eq_true_eq] at hc
    obtain ⟨h1, h2, h3, h4⟩ := hc
    simp only [en_sw] at h
    rw [Op.lookupswitch.offset_cons]
    split at h
    · rename_i hx
      have := (en_nI_eq h2).mp hx
      rw [if_pos (by omega)]
      exact ⟨q.2, h, h3⟩
    · rename_i hx
      have : ¬ a = x.toInt := fun e => hx ((en_nI_eq h2).mpr (by omega))
      rw [if_neg this]
      exact en_swL hd os qs h4 h
theorem en_swT {P : List en_B} {pc : Nat} {x : Int32} {d : Int} {jd : Nat} {f : Nat → Option en_O} {o : en_O} (hd : en_ckJ P pc d jd = true) : ∀ (os : List Int) (qs : List (Nat × Nat)) (n : Nat), n + os.length < 1000 → en_ckT P pc n os qs = true → en_sw x (f jd) f qs = some o → (∃ (k : Nat) (off : Int) (j : Nat), os[k]? = some off ∧ x.toInt = ((n + k : Nat) : Int) ∧ f j = some o ∧ en_ckJ P pc off j = true) ∨ ((x.toInt < (n : Int) ∨ ((n + os.length : Nat) : Int) ≤ x.toInt) ∧ f jd = some o)
  | [], [], n, _, _, h => Or.inr ⟨by
      rcases Int.lt_or_le x.toInt (n : Int) with g | g
      · exact Or.inl g
      · exact Or.inr (by simpa using g), h⟩
  | [], q :: qs, n, _, hc, _ => by simp [en_ckT] at hc
  | a :: os, [], n, _, hc, _ => by simp [en_ckT] at hc
  | a :: os, q :: qs, n, hn, hc, h => by
    simp only [en_ckT, Bool.and_eq_true, beq_iff_eq] at hc
    obtain ⟨h1, h2, h3⟩ := hc
    simp only [List.length_cons] at hn
    simp only [en_sw] at h
    split at h
    · rename_i hx
      have := (en_nI_eq (by omega)).mp hx
      exact Or.inl ⟨0, a, q.2, rfl, by omega, h, h2⟩
    · rename_i hx
      have hne : ¬ (n : Int) = x.toInt := fun e => hx ((en_nI_eq (by omega)).mpr (by rw [h1]; exact e))
      rcases en_swT hd os qs (n + 1) (by omega) h3 h with ⟨k, off, j, g1, g2, g3, g4⟩ | ⟨g1, g2⟩
      · exact Or.inl ⟨k + 1, off, j, by simpa using g1, by rw [g2]; congr 1; omega, g3, g4⟩
      · refine Or.inr ⟨?_, g2⟩
        simp only [List.length_cons]
        rcases g1 with g1 | g1
        · exact Or.inl (by omega)
        · exact Or.inr (by rw [show n + (os.length + 1) = n + 1 + os.length by omega]; exact g1)
theorem en_bd_spec {t : Nat} {o : Option en_R} {lv : en_L} {r : List Value} {q : en_O} (h : en_bd t o lv r en_oN = some q) : ∃ v z, o = some (v, z) ∧ q = .inl (none, lv, v.toList ++ r, z) := by
  unfold en_bd en_bI en_bL en_bA en_bV at h
  repeat' split at h
  all_goals first | (cases h; exact ⟨_, _, rfl, rfl⟩) | cases h
theorem en_vs_mem {ρ : Type} {f : Nat → Option ρ} {c : Nat} {o : ρ} : ∀ {l : List (Nat × Nat)}, en_vs f c l = some o → ∃ j, (c, j) ∈ l ∧ f j = some o
  | [], h => by simp [en_vs] at h
  | q :: l, h => by
    simp only [en_vs] at h
    split at h
    · rename_i e
      subst e
      exact ⟨q.2, List.mem_cons_self, h⟩
    · obtain ⟨j, h1, h2⟩ := en_vs_mem h
      exact ⟨j, List.mem_cons_of_mem _ h1, h2⟩
theorem en_vt_spec {ρ : Type} {z : en_H} {b : Nat} {cs : List (Nat × Nat)} {f : Nat → Option ρ} {o : ρ} (h : en_vt z b cs f = some o) : ∃ a ci fs j, b = a + 1 ∧ en_nt z a = some (.inr (ci, fs)) ∧ (ci, j) ∈ cs ∧ f j = some o := by
  unfold en_vt en_cc en_ce at h
  cases b with
  | zero => cases h
  | succ a =>
    dsimp only at h
    split at h
    · rename_i ci fs hz
      obtain ⟨j, h1, h2⟩ := en_vs_mem h
      exact ⟨a, ci, fs, j, rfl, hz, h1, h2⟩
    · cases h
def en_xs (cal : Nat → List Value → en_H → Option en_R) (tg : Nat) (cs : List (Nat × Nat)) (k : Nat) (lv : en_L) (st : List Value) (z : en_H) : Option en_O := match en_sp k [] st with
  | some (as, .ref b :: r) => if en_ct r ≤ 8 then en_vt z b cs (fun mi => en_bd tg (cal mi (.ref b :: as) z) lv r en_oN) else none
  | _ => none
def en_xo (lv : en_L) (st : List Value) (z : en_H) : Option en_O := match st with
  | .ref _ :: r => if en_ct r ≤ 8 then en_oN lv r z else none
  | _ => none
/-- the end of a method, and its answer -/
def en_rok (op : Instr) (rt : Option FieldType) (v : Option Value) : Prop :=
  (op = .ireturn ∧ ∃ x, v = some (.int x) ∧ (rt = some .int ∨ (rt = some .boolean ∧ x &&& 1 = x))) ∨ (op = .lreturn ∧ rt = some .long ∧ ∃ x, v = some (.long x)) ∨ (op = .areturn ∧ en_isO rt = true ∧ (v = some .null ∨ ∃ a, v = some (.ref a))) ∨ (op = .return_ ∧ rt = none ∧ v = none)
section ENO
variable {p : Program} {l : Launch} {e : Env} {R : Room} {s : State} {m : MethodId} {args : Array Value} {below : List Frame} {meth : Method} {c : Code} {H : Heap} {locs : List Loc} {cells slots : Nat} {Q : State → Prop} {cc : ByteArray} {pc n : Nat} {ls : Array Slot} {own : String} {D : va_G} {aC : Nat → ClassId} {b B0 K0 S0 : Nat} {sc : en_S} {z : en_H}
variable (p l e R s m args below meth c Q n D aC b B0 K0 S0)
/-- from here on it goes well -/
def en_Go (pc : Nat) (lv : en_L) (st : List Value) (z : en_H) : Prop := ∀ (H : Heap) (locs : List Loc) (ls : Array Slot) (cells slots : Nat), en_St D aC b B0 s z H locs → en_lo (en_rv b B0) ls n lv → z.length = K0 + cells → en_sz z = S0 + slots → W p l e R s m args below meth c H locs cells slots Q (F0 m pc ls (st.map (en_rv b B0)))
/-- where an instruction goes it goes well -/
def en_Kt (rt : Option FieldType) (P : List en_B) (pc : Nat) (op : Instr) (len : Nat) : en_O → Prop
  | .inl (none, lv, st, z) => en_Go p l e R s m args below meth c Q n D aC b B0 K0 S0 (pc + len) lv st z
  | .inl (some j, lv, st, z) => j < P.length → en_Go p l e R s m args below meth c Q n D aC b B0 K0 S0 (en_pc P j) lv st z
  | .inr (v, z) => en_rok op rt v → ∀ (H : Heap) (locs : List Loc) (ls : Array Slot) (cells slots : Nat), en_St D aC b B0 s z H locs → z.length = K0 + cells → en_sz z = S0 + slots → W p l e R s m args below meth c H locs cells slots Q (F0 m pc ls (v.map (en_rv b B0)).toList)
variable {p l e R s m args below meth c Q n D aC b B0 K0 S0}
set_option maxHeartbeats 4000000 in
theorem en_w_ex (X : en_Cx p c cc n s m args own D aC b B0 K0 sc) (hS : en_St D aC b B0 s z H locs) {lv : en_L} {st : List Value} (hl : en_lo (en_rv b B0) ls n lv) (hk : z.length = K0 + cells) (hn0 : en_sz z = S0 + slots) {d : Nat} (hR : en_Rm R d) {cal : Nat → List Value → en_H → Option en_R} (hcal : ∀ mi as z r zf, cal mi as z = some (r, zf) → en_Ct l D aC b B0 sc d mi as z r zf) {i : en_I} {o : en_O} {rt : Option FieldType} {P : List en_B} {ini : Bool}
    (ho : en_ex sc cal i lv st z en_oR en_oN en_oJ = some o) (hd : decode cc pc = .ok (i.1, i.2.1)) (hck : en_ckI n rt P pc i = true) (hlk : en_lkI own ini i) (hini : ini = true → meth.name = "<init>") (hrc : (en_zo o).length ≤ K0 + R.cells) (hrs : en_sz (en_zo o) ≤ S0 + R.slots)
    (kk : en_Kt p l e R s m args below meth c Q n D aC b B0 K0 S0 rt P pc i.1 i.2.1 o) : W p l e R s m args below meth c H locs cells slots Q (F0 m pc ls (st.map (en_rv b B0))) := by
  obtain ⟨op, ln, k, tg, cs, cI, cL⟩ := i
  have hx := X.1
  have hb := X.2.1
  cases op
  case idiv =>
    obtain rfl : ln = 1 := by simpa [en_ckI, en_ckP] using hck
    delta en_ex at ho; dsimp only at ho
    split at ho
    · split at ho
      · cases ho
      · rename_i hy
        cases ho
        exact lv_idiv hx hb hd hy (kk H locs ls cells slots hS hl hk hn0)
    · cases ho
  case irem =>
    obtain rfl : ln = 1 := by simpa [en_ckI, en_ckP] using hck
    delta en_ex at ho; dsimp only at ho
    split at ho
    · split at ho
      · cases ho
      · rename_i hy
        cases ho
        exact lv_irem hx hb hd hy (kk H locs ls cells slots hS hl hk hn0)
    · cases ho
  case ldiv =>
    obtain rfl : ln = 1 := by simpa [en_ckI, en_ckP] using hck
    delta en_ex at ho; dsimp only at ho
    split at ho
    · split at ho
      · cases ho
      · rename_i hy
        cases ho
        exact lv_ldiv hx hb hd hy (kk H locs ls cells slots hS hl hk hn0)
    · cases ho
  case lrem =>
    obtain rfl : ln = 1 := by simpa [en_ckI, en_ckP] using hck
    delta en_ex at ho; dsimp only at ho
    split at ho
    · split at ho
      · cases ho
      · rename_i hy
        cases ho
        exact lv_lrem hx hb hd hy (kk H locs ls cells slots hS hl hk hn0)
    · cases ho
  case goto off =>
    simp only [en_ckI, Bool.and_eq_true, beq_iff_eq] at hck
    obtain ⟨rfl, hj⟩ := hck
    obtain ⟨j1, j2⟩ := en_ckJ_spec hj
    cases ho
    exact lv_goto hx hb hd j2 (kk j1 H locs ls cells slots hS hl hk hn0)
  case ifCond cn off =>
    simp only [en_ckI, Bool.and_eq_true, beq_iff_eq] at hck
    obtain ⟨rfl, hj⟩ := hck
    obtain ⟨j1, j2⟩ := en_ckJ_spec hj
    delta en_ex at ho; dsimp only at ho
    split at ho
    · rename_i x r
      cases cn
      · dsimp only at ho
        split at ho
        · rename_i h; cases ho; exact lv_if_eq hx hb hd j2 (fun _ => kk j1 H locs ls cells slots hS hl hk hn0) (fun h' => absurd h h')
        · rename_i h; cases ho; exact lv_if_eq hx hb hd j2 (fun h' => absurd h' h) (fun _ => kk H locs ls cells slots hS hl hk hn0)
      · dsimp only at ho
        split at ho
        · rename_i h; cases ho; exact lv_if_ne hx hb hd j2 (fun h' => absurd h h') (fun _ => kk H locs ls cells slots hS hl hk hn0)
        · rename_i h; cases ho; exact lv_if_ne hx hb hd j2 (fun _ => kk j1 H locs ls cells slots hS hl hk hn0) (fun h' => absurd h' h)
      · dsimp only at ho
        split at ho
        · rename_i h; cases ho; exact lv_if_lt hx hb hd j2 (fun _ => kk j1 H locs ls cells slots hS hl hk hn0) (fun h' => absurd h h')
        · rename_i h; cases ho; exact lv_if_lt hx hb hd j2 (fun h' => absurd h' h) (fun _ => kk H locs ls cells slots hS hl hk hn0)
      · dsimp only at ho
        split at ho
        · rename_i h; cases ho; exact lv_if_ge hx hb hd j2 (fun _ => kk j1 H locs ls cells slots hS hl hk hn0) (fun h' => absurd h h')
        · rename_i h; cases ho; exact lv_if_ge hx hb hd j2 (fun h' => absurd h' h) (fun _ => kk H locs ls cells slots hS hl hk hn0)
      · dsimp only at ho
        split at ho
        · rename_i h; cases ho; exact lv_if_gt hx hb hd j2 (fun _ => kk j1 H locs ls cells slots hS hl hk hn0) (fun h' => absurd h h')
        · rename_i h; cases ho; exact lv_if_gt hx hb hd j2 (fun h' => absurd h' h) (fun _ => kk H locs ls cells slots hS hl hk hn0)
      · dsimp only at ho
        split at ho
        · rename_i h; cases ho; exact lv_if_le hx hb hd j2 (fun _ => kk j1 H locs ls cells slots hS hl hk hn0) (fun h' => absurd h h')
        · rename_i h; cases ho; exact lv_if_le hx hb hd j2 (fun h' => absurd h' h) (fun _ => kk H locs ls cells slots hS hl hk hn0)
    · cases ho
  case if_icmp cn off =>
    simp only [en_ckI, Bool.and_eq_true, beq_iff_eq] at hck
    obtain ⟨rfl, hj⟩ := hck
    obtain ⟨j1, j2⟩ := en_ckJ_spec hj
    delta en_ex at ho; dsimp only at ho
    split at ho
    · cases cn
      · dsimp only at ho
        split at ho
        · rename_i h; cases ho; exact lv_icmp_eq hx hb hd j2 (fun _ => kk j1 H locs ls cells slots hS hl hk hn0) (fun h' => absurd h h')
        · rename_i h; cases ho; exact lv_icmp_eq hx hb hd j2 (fun h' => absurd h' h) (fun _ => kk H locs ls cells slots hS hl hk hn0)
      · dsimp only at ho
        split at ho
        · rename_i h; cases ho; exact lv_icmp_ne hx hb hd j2 (fun h' => absurd h h') (fun _ => kk H locs ls cells slots hS hl hk hn0)
        · rename_i h; cases ho; exact lv_icmp_ne hx hb hd j2 (fun _ => kk j1 H locs ls cells slots hS hl hk hn0) (fun h' => absurd h' h)
      · dsimp only at ho
        split at ho
        · rename_i h; cases ho; exact lv_icmp_lt hx hb hd j2 (fun _ => kk j1 H locs ls cells slots hS hl hk hn0) (fun h' => absurd h h')
        · rename_i h; cases ho; exact lv_icmp_lt hx hb hd j2 (fun h' => absurd h' h) (fun _ => kk H locs ls cells slots hS hl hk hn0)
      · dsimp only at ho
        split at ho
        · rename_i h; cases ho; exact lv_icmp_ge hx hb hd j2 (fun _ => kk j1 H locs ls cells slots hS hl hk hn0) (fun h' => absurd h h')
        · rename_i h; cases ho; exact lv_icmp_ge hx hb hd j2 (fun h' => absurd h' h) (fun _ => kk H locs ls cells slots hS hl hk hn0)
      · dsimp only at ho
        split at ho
        · rename_i h; cases ho; exact lv_icmp_gt hx hb hd j2 (fun _ => kk j1 H locs ls cells slots hS hl hk hn0) (fun h' => absurd h h')
        · rename_i h; cases ho; exact lv_icmp_gt hx hb hd j2 (fun h' => absurd h' h) (fun _ => kk H locs ls cells slots hS hl hk hn0)
      · dsimp only at ho
        split at ho
        · rename_i h; cases ho; exact lv_icmp_le hx hb hd j2 (fun _ => kk j1 H locs ls cells slots hS hl hk hn0) (fun h' => absurd h h')
        · rename_i h; cases ho; exact lv_icmp_le hx hb hd j2 (fun h' => absurd h' h) (fun _ => kk H locs ls cells slots hS hl hk hn0)
    · cases ho
  case ifnull off =>
    simp only [en_ckI, Bool.and_eq_true, beq_iff_eq] at hck
    obtain ⟨rfl, hj⟩ := hck
    obtain ⟨j1, j2⟩ := en_ckJ_spec hj
    delta en_ex at ho; dsimp only at ho
    split at ho
    · cases ho; exact lv_ifnullN hx hb hd j2 (kk j1 H locs ls cells slots hS hl hk hn0)
    · cases ho; exact lv_ifnull hx hb hd (kk H locs ls cells slots hS hl hk hn0)
    · cases ho
  case ifnonnull off =>
    simp only [en_ckI, Bool.and_eq_true, beq_iff_eq] at hck
    obtain ⟨rfl, hj⟩ := hck
    obtain ⟨j1, j2⟩ := en_ckJ_spec hj
    delta en_ex at ho; dsimp only at ho
    split at ho
    · cases ho; exact lv_ifnonnullN hx hb hd (kk H locs ls cells slots hS hl hk hn0)
    · cases ho; exact lv_ifnonnull hx hb hd j2 (kk j1 H locs ls cells slots hS hl hk hn0)
    · cases ho
  case tableswitch df lo hi os =>
    simp only [en_ckI, Bool.and_eq_true, decide_eq_true_eq] at hck
    obtain ⟨hj, rfl, h2, h3, h4⟩ := hck
    delta en_ex at ho; dsimp only at ho
    split at ho
    · rename_i x r
      have hlen : os.toList.length = os.size := by simp
      rcases en_swT (f := fun j => some (.inl (some j, lv, r, z))) hj os.toList cs 0 (by omega) h4 ho with ⟨q, off, j, g1, g2, g3, g4⟩ | ⟨g1, g2⟩
      · cases g3
        obtain ⟨j1, j2⟩ := en_ckJ_spec g4
        have hq : q < os.size := by
          have := (List.getElem?_eq_some_iff.mp g1).1
          omega
        refine lv_tableIn hx hb hd (by omega) (by omega) (off := off) ?_ j2 (kk j1 H locs ls cells slots hS hl hk hn0)
        rw [show (x.toInt - 0).toNat = q by omega, ← Array.getElem?_toList]
        exact g1
      · cases g2
        obtain ⟨j1, j2⟩ := en_ckJ_spec hj
        refine lv_tableOut hx hb hd ?_ j2 (kk j1 H locs ls cells slots hS hl hk hn0)
        rcases g1 with g1 | g1
        · exact Or.inl g1
        · exact Or.inr (by omega)
    · cases ho
  case lookupswitch df os =>
    simp only [en_ckI, Bool.and_eq_true] at hck
    obtain ⟨hj, h2, h3⟩ := hck
    delta en_ex at ho; dsimp only at ho
    split at ho
    · rename_i x r
      obtain ⟨j, g1, g2⟩ := en_swL (f := fun j => some (.inl (some j, lv, r, z))) hj os.toList cs h3 ho
      cases g1
      obtain ⟨j1, j2⟩ := en_ckJ_spec g2
      exact lv_lookup hx hb hd h2 rfl j2 (kk j1 H locs ls cells slots hS hl hk hn0)
    · cases ho
  case ireturn =>
    simp only [en_ckI, Bool.and_eq_true, beq_iff_eq, decide_eq_true_eq] at hck
    obtain ⟨rfl, h2⟩ := hck
    delta en_ex at ho; dsimp only at ho
    split at ho
    · rename_i x
      split at ho
      · split at ho
        · rename_i hb1
          cases ho
          rcases h2 with ⟨-, h2⟩ | ⟨h2, -⟩
          · exact kk (Or.inl ⟨rfl, x, rfl, Or.inr ⟨h2, hb1⟩⟩) H locs ls cells slots hS hk hn0
          · exact absurd rfl h2
        · cases ho
      · rename_i h3
        cases ho
        rcases h2 with ⟨h2, -⟩ | ⟨-, h2⟩
        · exact absurd h2 h3
        · exact kk (Or.inl ⟨rfl, x, rfl, Or.inl h2⟩) H locs ls cells slots hS hk hn0
    · cases ho
  case lreturn =>
    simp only [en_ckI, Bool.and_eq_true, beq_iff_eq, decide_eq_true_eq] at hck
    obtain ⟨rfl, h2⟩ := hck
    delta en_ex at ho; dsimp only at ho
    split at ho
    · cases ho
      exact kk (Or.inr (Or.inl ⟨rfl, h2, _, rfl⟩)) H locs ls cells slots hS hk hn0
    · cases ho
  case areturn =>
    simp only [en_ckI, Bool.and_eq_true, beq_iff_eq] at hck
    obtain ⟨rfl, h2⟩ := hck
    delta en_ex at ho; dsimp only at ho
    split at ho
    · cases ho
      exact kk (Or.inr (Or.inr (Or.inl ⟨rfl, h2, Or.inr ⟨_, rfl⟩⟩))) H locs ls cells slots hS hk hn0
    · cases ho
      exact kk (Or.inr (Or.inr (Or.inl ⟨rfl, h2, Or.inl rfl⟩))) H locs ls cells slots hS hk hn0
    · cases ho
  case return_ =>
    simp only [en_ckI, Bool.and_eq_true, beq_iff_eq, decide_eq_true_eq] at hck
    obtain ⟨rfl, h2⟩ := hck
    delta en_ex at ho; dsimp only at ho
    split at ho
    · cases ho
      exact kk (Or.inr (Or.inr (Or.inr ⟨rfl, h2, rfl⟩))) H locs ls cells slots hS hk hn0
    · cases ho
  case getfield x =>
    obtain rfl : ln = 3 := by simpa [en_ckI] using hck
    delta en_ex at ho; dsimp only at ho
    split at ho
    · rename_i a r
      split at ho
      · unfold en_gL at ho
        cases a with
        | zero => cases ho
        | succ a =>
          dsimp only [en_ce] at ho
          repeat' split at ho
          all_goals first | cases ho | skip
          rename_i hz _ _ hc _ _ hv
          exact en_w_get X hS hlk hz hc hv hd (kk H locs ls cells slots hS hl hk hn0)
      · unfold en_gA at ho
        cases a with
        | zero => cases ho
        | succ a =>
          dsimp only [en_ce] at ho
          repeat' split at ho
          all_goals first | cases ho | skip
          · rename_i hz _ _ hc _ _ hv
            exact en_w_get X hS hlk hz hc hv hd (kk H locs ls cells slots hS hl hk hn0)
          · rename_i hz _ _ hc _ hv
            exact en_w_get X hS hlk hz hc hv hd (kk H locs ls cells slots hS hl hk hn0)
      · unfold en_gI at ho
        cases a with
        | zero => cases ho
        | succ a =>
          dsimp only [en_ce] at ho
          repeat' split at ho
          all_goals first | cases ho | skip
          rename_i hz _ _ hc _ _ hv
          exact en_w_get X hS hlk hz hc hv hd (kk H locs ls cells slots hS hl hk hn0)
    · cases ho
  case putfield x =>
    obtain rfl : ln = 3 := by simpa [en_ckI] using hck
    have key : ∀ (a : Nat) (v : Value) (r : List Value), st = v :: .ref a :: r → ((tg = 0 ∧ ∃ x, v = .int x) ∨ (tg = 1 ∧ ∃ x, v = .long x) ∨ (tg = 2 ∧ ((∃ x, v = .ref x) ∨ v = .null)) ∨ (tg = 3 ∧ ∃ x, v = .int x ∧ x &&& 1 = x)) → en_pf z a cs k v (fun z => en_oN lv r z) = some o → W p l e R s m args below meth c H locs cells slots Q (F0 m pc ls (st.map (en_rv b B0))) := by
      intro a v r hst hv h
      subst hst
      unfold en_pf at h
      cases a with
      | zero => cases h
      | succ a =>
        dsimp only at h
        repeat' split at h
        all_goals first | cases h | skip
        rename_i ci fs hz _ _ hc _ w hw
        exact en_w_put X hS hini hlk hz hc hw hv hd (fun H' locs' hS' => kk H' locs' ls cells slots hS' hl (by rw [List.length_set]; exact hk) (by rw [en_sz_set z a _ _ hz (by simp [en_s0])]; exact hn0))
    delta en_ex at ho; dsimp only at ho
    split at ho
    · rename_i x a r
      split at ho
      · exact key a _ r rfl (Or.inl ⟨rfl, _, rfl⟩) ho
      · split at ho
        · rename_i hb1
          exact key a _ r rfl (Or.inr (Or.inr (Or.inr ⟨rfl, _, rfl, hb1⟩))) ho
        · cases ho
      · cases ho
    · rename_i x a r
      split at ho
      · exact key a _ r rfl (Or.inr (Or.inl ⟨rfl, _, rfl⟩)) ho
      · cases ho
    · rename_i x a r
      split at ho
      · exact key a _ r rfl (Or.inr (Or.inr (Or.inl ⟨rfl, Or.inl ⟨_, rfl⟩⟩))) ho
      · cases ho
    · rename_i a r
      split at ho
      · exact key a _ r rfl (Or.inr (Or.inr (Or.inl ⟨rfl, Or.inr rfl⟩))) ho
      · cases ho
    · cases ho
  case iaload =>
    obtain rfl : ln = 1 := by simpa [en_ckI, en_ckP] using hck
    delta en_ex at ho; dsimp only at ho
    split at ho
    · rename_i j a r
      unfold en_aI at ho
      cases a with
      | zero =>
        dsimp only at ho
        split at ho
        · rename_i hi
          cases ho
          exact en_w_aS X hS hi hd (kk H locs ls cells slots hS hl hk hn0)
        · cases ho
      | succ a =>
        dsimp only at ho
        split at ho
        · rename_i g hz
          split at ho
          · rename_i hi
            cases ho
            exact en_w_aI X hS hz hi hd (kk H locs ls cells slots hS hl hk hn0)
          · cases ho
        · cases ho
    · cases ho
  case laload =>
    obtain rfl : ln = 1 := by simpa [en_ckI, en_ckP] using hck
    delta en_ex at ho; dsimp only at ho
    split at ho
    · rename_i j a r
      unfold en_aL at ho
      cases a with
      | zero => cases ho
      | succ a =>
        dsimp only [en_ce] at ho
        split at ho
        · rename_i g hz
          split at ho
          · rename_i hi
            cases ho
            exact en_w_aL X hS hz hi hd (kk H locs ls cells slots hS hl hk hn0)
          · cases ho
        · cases ho
    · cases ho
  case aaload =>
    obtain rfl : ln = 1 := by simpa [en_ckI, en_ckP] using hck
    delta en_ex at ho; dsimp only at ho
    split at ho
    · rename_i j a r
      unfold en_aA at ho
      cases a with
      | zero => cases ho
      | succ a =>
        dsimp only [en_ce] at ho
        split at ho
        · rename_i g hz
          split at ho
          · rename_i hi
            split at ho
            · rename_i q hq
              cases ho
              exact en_w_aA X hS hz hi.1 hi.2 hd (v := .ref q) (by rw [hq]; rfl) (kk H locs ls cells slots hS hl hk hn0)
            · rename_i hq
              cases ho
              exact en_w_aA X hS hz hi.1 hi.2 hd (v := .null) (by rw [hq]; rfl) (kk H locs ls cells slots hS hl hk hn0)
          · cases ho
        · cases ho
    · cases ho
  case iastore =>
    obtain rfl : ln = 1 := by simpa [en_ckI, en_ckP] using hck
    delta en_ex at ho; dsimp only at ho
    split at ho
    · rename_i x j a r
      unfold en_sI at ho
      cases a with
      | zero => cases ho
      | succ a =>
        dsimp only at ho
        split at ho
        · rename_i g hz
          split at ho
          · rename_i hi
            cases ho
            exact en_w_sI X hS hz hi hd (fun H' locs' hS' => kk H' locs' ls cells slots hS' hl (by rw [List.length_set]; exact hk) (by rw [en_sz_set z a _ _ hz (by simp [en_s0])]; exact hn0))
          · cases ho
        · cases ho
    · cases ho
  case lastore =>
    obtain rfl : ln = 1 := by simpa [en_ckI, en_ckP] using hck
    delta en_ex at ho; dsimp only at ho
    split at ho
    · rename_i x j a r
      unfold en_sL at ho
      cases a with
      | zero => cases ho
      | succ a =>
        dsimp only at ho
        split at ho
        · rename_i g hz
          split at ho
          · rename_i hi
            cases ho
            exact en_w_sL X hS hz hi hd (fun H' locs' hS' => kk H' locs' ls cells slots hS' hl (by rw [List.length_set]; exact hk) (by rw [en_sz_set z a _ _ hz (by simp [en_s0])]; exact hn0))
          · cases ho
        · cases ho
    · cases ho
  case aastore =>
    obtain rfl : ln = 1 := by simpa [en_ckI, en_ckP] using hck
    delta en_ex at ho; dsimp only at ho
    split at ho
    · rename_i q j a r
      unfold en_sA at ho
      cases a with
      | zero => cases ho
      | succ a =>
        dsimp only at ho
        split at ho
        · rename_i g hz
          split at ho
          · rename_i hi
            cases q with
            | zero => cases ho
            | succ q =>
              dsimp only [en_ce] at ho
              split at ho
              · rename_i ci fs hq
                split at ho
                · rename_i hc
                  cases ho
                  exact en_w_sA X hS hz hi hq hc hd (fun H' locs' hS' => kk H' locs' ls cells slots hS' hl (by rw [List.length_set]; exact hk) (by rw [en_sz_set z a _ _ hz (by simp [en_s0])]; exact hn0))
                · cases ho
              · cases ho
          · cases ho
        · cases ho
    · rename_i j a r
      unfold en_sN at ho
      cases a with
      | zero => cases ho
      | succ a =>
        dsimp only at ho
        split at ho
        · rename_i g hz
          split at ho
          · rename_i hi
            cases ho
            exact en_w_sN X hS hz hi.1 hi.2 hd (fun H' locs' hS' => kk H' locs' ls cells slots hS' hl (by rw [List.length_set]; exact hk) (by rw [en_sz_set z a _ _ hz (by simp [en_s0])]; exact hn0))
          · cases ho
        · cases ho
    · cases ho
  case arraylength =>
    obtain rfl : ln = 1 := by simpa [en_ckI, en_ckP] using hck
    delta en_ex at ho; dsimp only at ho
    split at ho
    · rename_i a r
      unfold en_ln at ho
      cases a with
      | zero =>
        cases ho
        exact en_w_lnS X hS hd (kk H locs ls cells slots hS hl hk hn0)
      | succ a =>
        dsimp only at ho
        split at ho
        · rename_i hz
          split at ho
          · rename_i ht
            cases ho
            exact en_w_ln X hS hz ht hd (kk H locs ls cells slots hS hl hk hn0)
          · cases ho
        · cases ho
    · cases ho
  case new x =>
    obtain rfl : ln = 3 := by simpa [en_ckI] using hck
    obtain ⟨C, T, N, h1, h2⟩ := hlk
    delta en_ex at ho; dsimp only at ho h1 h2
    cases ho
    simp only [en_zo, List.length_append, List.length_singleton, en_sz_app, en_s0] at hrc hrs
    exact en_w_new X hS hk h2 h1 (by omega) (by omega) hd (fun H' hS' => kk H' locs ls _ _ hS' hl (by simp only [List.length_append, List.length_singleton]; omega) (by rw [en_sz_app]; simp only [en_s0]; omega))
  case newarray t =>
    obtain rfl : ln = 2 := by simpa [en_ckI] using hck
    delta en_ex at ho; dsimp only at ho
    split at ho
    · rename_i i r
      split at ho
      · rename_i hi
        rcases hlk with ⟨rfl, h1⟩ | ⟨rfl, h1⟩
        · cases ho
          simp only [en_zo, List.length_append, List.length_singleton, en_sz_app, en_s0] at hrc hrs
          exact en_w_nI X hS hk hi h1 (by omega) (by omega) hd (fun H' hS' => kk H' locs ls _ _ hS' hl (by simp only [List.length_append, List.length_singleton]; omega) (by rw [en_sz_app]; simp only [en_s0]; omega))
        · cases ho
          simp only [en_zo, List.length_append, List.length_singleton, en_sz_app, en_s0] at hrc hrs
          exact en_w_nL X hS hk hi h1 (by omega) (by omega) hd (fun H' hS' => kk H' locs ls _ _ hS' hl (by simp only [List.length_append, List.length_singleton]; omega) (by rw [en_sz_app]; simp only [en_s0]; omega))
      · cases ho
    · cases ho
  case anewarray x =>
    simp only [en_ckI, Bool.and_eq_true, beq_iff_eq, decide_eq_true_eq] at hck
    obtain ⟨rfl, h2, h3⟩ := hck
    obtain ⟨t, rfl⟩ : ∃ t, k = t + 2 := ⟨k - 2, by omega⟩
    have h3 : t < 3 := by omega
    obtain ⟨h4, h5⟩ := hlk
    delta en_ex at ho; dsimp only at ho
    split at ho
    · rename_i i r
      split at ho
      · rename_i hi
        cases ho
        simp only [en_zo, List.length_append, List.length_singleton, en_sz_app, en_s0] at hrc hrs
        exact en_w_nA X hS hk h3 hi h4 h5 (by omega) (by omega) hd (fun H' hS' => kk H' locs ls _ _ hS' hl (by simp only [List.length_append, List.length_singleton]; omega) (by rw [en_sz_app]; simp only [en_s0]; omega))
      · cases ho
    · cases ho
  case instanceof x =>
    obtain rfl : ln = 3 := by simpa [en_ckI] using hck
    obtain ⟨C, h1, h2⟩ := hlk
    delta en_ex at ho; dsimp only at ho
    split at ho
    · cases ho
      exact lv_instN hx hb hd (kk H locs ls cells slots hS hl hk hn0)
    · rename_i a r
      obtain ⟨a', ci, fs, j, rfl, hz, hm, h4⟩ := en_vt_spec ho
      obtain ⟨q, hq, h5⟩ := h2 _ hm
      rcases h5 with ⟨h5, h6⟩ | ⟨h5, h6⟩
      · dsimp only at h5
        subst h5
        cases h4
        exact en_w_io0 X hS h1 hz hq h6 hd (kk H locs ls cells slots hS hl hk hn0)
      · dsimp only at h5
        obtain ⟨j, rfl⟩ : ∃ j', j = j' + 1 := ⟨j - 1, by omega⟩
        cases h4
        exact en_w_io1 X hS h1 hz hq h6 hd (kk H locs ls cells slots hS hl hk hn0)
    · cases ho
  case checkcast x =>
    obtain rfl : ln = 3 := by simpa [en_ckI] using hck
    obtain ⟨C, h1, h2⟩ := hlk
    delta en_ex at ho; dsimp only at ho
    split at ho
    · cases ho
      exact lv_castN hx hb hd (kk H locs ls cells slots hS hl hk hn0)
    · rename_i a r
      obtain ⟨a', ci, fs, j, rfl, hz, hm, h4⟩ := en_vt_spec ho
      obtain ⟨q, hq, h5⟩ := h2 _ hm
      cases h4
      exact en_w_cast X hS h1 hz hq h5 hd (kk H locs ls cells slots hS hl hk hn0)
    · cases ho
  case invokestatic x =>
    obtain rfl : ln = 3 := by simpa [en_ckI] using hck
    delta en_ex at ho; dsimp only at ho
    split at ho
    · rename_i as r hsp
      split at ho
      · rename_i hct
        split at ho
        · rename_i q mi
          obtain ⟨v, z1, h1, rfl⟩ := en_bd_spec ho
          have hC := hcal _ _ _ _ _ h1
          have g1 := hC.1
          have g2 := hC.2.1
          simp only [en_zo] at hrc hrs
          refine en_w_cs X hS hk hl.2.1 rfl hlk hC hsp hct hR ⟨by omega, by omega⟩ hd (fun H' locs' hS' => ?_)
          have := kk H' locs' ls (cells + (z1.length - z.length)) (slots + (en_sz z1 - en_sz z)) hS' hl (by omega) (by omega)
          cases v <;> exact this
        · cases ho
      · cases ho
    · cases ho
  case invokespecial x =>
    obtain rfl : ln = 3 := by simpa [en_ckI] using hck
    rcases hlk with ⟨rfl, h1, h2, h3⟩ | ⟨htg, hlk⟩
    · have ho2 : en_xo lv st z = some o := ho
      unfold en_xo at ho2
      split at ho2
      · rename_i a r
        split at ho2
        · rename_i hct
          cases ho2
          have hrm : 2 * (F0 m pc ls ((Value.ref a :: r).map (en_rv b B0))).monitorRoom + ((r.map (en_rv b B0)).map fun v => v.category).sum ≤ 8 := lv_room (by rw [en_ct_sum]; exact hct)
          refine W.objInit hx hb X.2.2.2.1 (X.2.2.2.2.1 _ h1) (X.2.2.2.2.1 _ h2) (X.2.2.2.2.1 _ h3) rfl (hl.2.1.trans X.2.2.1.symm) rfl hd (by have := hR.1; omega) (by have := hR.2; omega) ?_
          exact W.eq (g2 := F0 m (pc + 3) ls (r.map (en_rv b B0))) rfl (kk H locs ls cells slots hS hl hk hn0)
        · cases ho2
      · cases ho2
    · have ho2 : en_xs cal tg cs k lv st z = some o := by
        delta en_ex at ho; dsimp only at ho
        split at ho
        · exact absurd rfl htg
        · exact ho
      unfold en_xs at ho2
      split at ho2
      · rename_i as a r hsp
        split at ho2
        · rename_i hct
          obtain ⟨a', ci, fs, j, rfl, hz, hm, h4⟩ := en_vt_spec ho2
          obtain ⟨v, z1, h1, rfl⟩ := en_bd_spec h4
          have hC := hcal _ _ _ _ _ h1
          have g1 := hC.1
          have g2 := hC.2.1
          simp only [en_zo] at hrc hrs
          have kk2 : ∀ H' locs', en_St D aC b B0 s z1 H' locs' → W p l e R s m args below meth c H' locs' (cells + (z1.length - z.length)) (slots + (en_sz z1 - en_sz z)) Q (F0 m (pc + 3) ls ((v.map (en_rv b B0)).toList ++ r.map (en_rv b B0))) := by
            intro H' locs' hS'
            have := kk H' locs' ls (cells + (z1.length - z.length)) (slots + (en_sz z1 - en_sz z)) hS' hl (by omega) (by omega)
            cases v <;> exact this
          rcases hlk with hlk | hlk
          · exact en_w_ci X hS hk hl.2.1 hlk hm hz hC hsp hct hR ⟨by omega, by omega⟩ hd kk2
          · exact en_w_cu X hS hk hl.2.1 hlk hm hz hC hsp hct hR ⟨by omega, by omega⟩ hd kk2
        · cases ho2
      · cases ho2
  case invokevirtual x =>
    obtain rfl : ln = 3 := by simpa [en_ckI] using hck
    delta en_ex at ho; dsimp only at ho
    split at ho
    · rename_i as a r hsp
      split at ho
      · rename_i hct
        obtain ⟨a', ci, fs, j, rfl, hz, hm, h4⟩ := en_vt_spec ho
        obtain ⟨v, z1, h1, rfl⟩ := en_bd_spec h4
        have hC := hcal _ _ _ _ _ h1
        have g1 := hC.1
        have g2 := hC.2.1
        simp only [en_zo] at hrc hrs
        refine en_w_cv X hS hk hl.2.1 hlk hm hz hC hsp hct hR ⟨by omega, by omega⟩ hd (fun H' locs' hS' => ?_)
        have := kk H' locs' ls (cells + (z1.length - z.length)) (slots + (en_sz z1 - en_sz z)) hS' hl (by omega) (by omega)
        cases v <;> exact this
      · cases ho
    · cases ho
  all_goals
    delta en_ex at ho; dsimp only at ho
    split at ho
    · rename_i lv' st' hp
      cases ho
      exact en_w_pu hx hb X.2.2.2.1 X.2.2.2.2.1 hp hd hck hlk hl (fun ls' hl' => kk H locs ls' cells slots hS hl' hk hn0)
    · cases ho
end ENO
