/-! THE ENGINE IS SOUND, seventh part: blocks, methods -/
theorem en_set_le {z : en_H} {a : Nat} {x y : va_E} (h : en_nt z a = some y) (hs : en_s0 x = en_s0 y) : z.length ≤ (z.set a x).length ∧ en_sz z ≤ en_sz (z.set a x) := ⟨by rw [List.length_set]; exact Nat.le_refl _, by rw [en_sz_set z a x y h hs]; exact Nat.le_refl _⟩
theorem en_app_le (z : en_H) (x : va_E) : z.length ≤ (z ++ [x]).length ∧ en_sz z ≤ en_sz (z ++ [x]) := ⟨by simp, by rw [en_sz_app]; omega⟩
theorem en_sw_any {x : Int32} {f : Nat → Option en_O} {d : Option en_O} {o : en_O} : ∀ {l : List (Nat × Nat)}, en_sw x d f l = some o → d = some o ∨ ∃ j, f j = some o
  | [], h => Or.inl h
  | q :: l, h => by
    simp only [en_sw] at h
    split at h
    · exact Or.inr ⟨_, h⟩
    · exact en_sw_any h
set_option maxHeartbeats 4000000 in
/-- an instruction takes nothing away from the heap -/
theorem en_ex_gr {sc : en_S} {cal : Nat → List Value → en_H → Option en_R} (hg : ∀ mi as z r zf, cal mi as z = some (r, zf) → z.length ≤ zf.length ∧ en_sz z ≤ en_sz zf) {i : en_I} {lv : en_L} {st : List Value} {z : en_H} {o : en_O} (ho : en_ex sc cal i lv st z en_oR en_oN en_oJ = some o) : z.length ≤ (en_zo o).length ∧ en_sz z ≤ en_sz (en_zo o) := by
  obtain ⟨op, ln, k, tg, cs, cI, cL⟩ := i
  have rf : z.length ≤ z.length ∧ en_sz z ≤ en_sz z := ⟨Nat.le_refl _, Nat.le_refl _⟩
  have pf : ∀ (a : Nat) (v : Value) (r : List Value), en_pf z a cs k v (fun z => en_oN lv r z) = some o → z.length ≤ (en_zo o).length ∧ en_sz z ≤ en_sz (en_zo o) := by
    intro a v r h
    unfold en_pf at h
    cases a with
    | zero => cases h
    | succ a =>
      dsimp only at h
      repeat' split at h
      all_goals first | cases h | skip
      rename_i ci fs hz _ _ hc _ w hw
      exact en_set_le hz (by simp [en_s0])
  cases op
  case tableswitch =>
    delta en_ex at ho; dsimp only at ho
    split at ho
    · rcases en_sw_any ho with h | ⟨j, h⟩ <;> (cases h; exact rf)
    · cases ho
  case lookupswitch =>
    delta en_ex at ho; dsimp only at ho
    split at ho
    · rcases en_sw_any ho with h | ⟨j, h⟩ <;> (cases h; exact rf)
    · cases ho
  case getfield =>
    delta en_ex at ho; dsimp only at ho
    unfold en_gI en_gL en_gA at ho
    repeat' split at ho
    all_goals first | (cases ho; exact rf) | cases ho
  case putfield =>
    delta en_ex at ho; dsimp only at ho
    repeat' split at ho
    all_goals first | cases ho | exact pf _ _ _ ho
  case iaload =>
    delta en_ex at ho; dsimp only at ho
    unfold en_aI at ho
    repeat' split at ho
    all_goals first | (cases ho; exact rf) | cases ho
  case laload =>
    delta en_ex at ho; dsimp only at ho
    unfold en_aL at ho
    repeat' split at ho
    all_goals first | (cases ho; exact rf) | cases ho
  case aaload =>
    delta en_ex at ho; dsimp only at ho
    unfold en_aA at ho
    repeat' split at ho
    all_goals first | (cases ho; exact rf) | cases ho
  case arraylength =>
    delta en_ex at ho; dsimp only at ho
    unfold en_ln at ho
    repeat' split at ho
    all_goals first | (cases ho; exact rf) | cases ho
  case iastore =>
    delta en_ex at ho; dsimp only at ho
    split at ho
    · unfold en_sI at ho
      split at ho
      · cases ho
      · split at ho
        · rename_i hz
          split at ho
          · cases ho
            exact en_set_le hz (by simp [en_s0])
          · cases ho
        · cases ho
    · cases ho
  case lastore =>
    delta en_ex at ho; dsimp only at ho
    split at ho
    · unfold en_sL at ho
      split at ho
      · cases ho
      · split at ho
        · rename_i hz
          split at ho
          · cases ho
            exact en_set_le hz (by simp [en_s0])
          · cases ho
        · cases ho
    · cases ho
  case aastore =>
    delta en_ex at ho; dsimp only at ho
    split at ho
    · unfold en_sA at ho
      split at ho
      · cases ho
      · split at ho
        · rename_i hz
          split at ho
          · split at ho
            · split at ho
              · cases ho
                exact en_set_le hz (by simp [en_s0])
              · cases ho
            · cases ho
          · cases ho
        · cases ho
    · unfold en_sN at ho
      split at ho
      · cases ho
      · split at ho
        · rename_i hz
          split at ho
          · cases ho
            exact en_set_le hz (by simp [en_s0])
          · cases ho
        · cases ho
    · cases ho
  case new => cases ho; exact en_app_le z _
  case newarray t =>
    delta en_ex at ho; dsimp only at ho
    repeat' split at ho
    all_goals first | (cases ho; exact en_app_le z _) | cases ho
  case anewarray =>
    delta en_ex at ho; dsimp only at ho
    repeat' split at ho
    all_goals first | (cases ho; exact en_app_le z _) | cases ho
  case instanceof =>
    delta en_ex at ho; dsimp only at ho
    split at ho
    · cases ho; exact rf
    · obtain ⟨a', ci, fs, j, rfl, hz, hm, h4⟩ := en_vt_spec ho
      split at h4 <;> (cases h4; exact rf)
    · cases ho
  case checkcast =>
    delta en_ex at ho; dsimp only at ho
    split at ho
    · cases ho; exact rf
    · obtain ⟨a', ci, fs, j, rfl, hz, hm, h4⟩ := en_vt_spec ho
      cases h4; exact rf
    · cases ho
  case invokestatic =>
    delta en_ex at ho; dsimp only at ho
    split at ho
    · split at ho
      · split at ho
        · obtain ⟨v, z1, h1, rfl⟩ := en_bd_spec ho
          exact hg _ _ _ _ _ h1
        · cases ho
      · cases ho
    · cases ho
  case invokespecial =>
    delta en_ex at ho; dsimp only at ho
    split at ho
    · split at ho
      · split at ho
        · cases ho; exact rf
        · cases ho
      · cases ho
    · split at ho
      · split at ho
        · obtain ⟨a', ci, fs, j, rfl, hz, hm, h4⟩ := en_vt_spec ho
          obtain ⟨v, z1, h1, rfl⟩ := en_bd_spec h4
          exact hg _ _ _ _ _ h1
        · cases ho
      · cases ho
  case invokevirtual =>
    delta en_ex at ho; dsimp only at ho
    split at ho
    · split at ho
      · obtain ⟨a', ci, fs, j, rfl, hz, hm, h4⟩ := en_vt_spec ho
        obtain ⟨v, z1, h1, rfl⟩ := en_bd_spec h4
        exact hg _ _ _ _ _ h1
      · cases ho
    · cases ho
  all_goals
    delta en_ex at ho; dsimp only at ho
    repeat' split at ho
    all_goals first | (cases ho; exact rf) | cases ho
theorem en_rb_gr {sc : en_S} {cal : Nat → List Value → en_H → Option en_R} (hg : ∀ mi as z r zf, cal mi as z = some (r, zf) → z.length ≤ zf.length ∧ en_sz z ≤ en_sz zf) {nx : Nat} : ∀ (c : List en_I) (lv : en_L) (st : List Value) (z : en_H) (o : en_O), en_rb sc cal en_oR en_oJ nx c lv st z = some o → z.length ≤ (en_zo o).length ∧ en_sz z ≤ en_sz (en_zo o)
  | [], lv, st, z, o, h => by cases h; exact ⟨Nat.le_refl _, Nat.le_refl _⟩
  | i :: c, lv, st, z, o, h => by
    rw [en_rb, en_ex_nat] at h
    cases h1 : en_ex sc cal i lv st z en_oR en_oN en_oJ with
    | none => rw [h1] at h; cases h
    | some o1 =>
      rw [h1] at h
      have g := en_ex_gr hg h1
      rcases o1 with ⟨_ | j, a, b, d⟩ | ⟨v, d⟩
      · have g2 := en_rb_gr hg c a b d o h
        exact ⟨Nat.le_trans g.1 g2.1, Nat.le_trans g.2 g2.2⟩
      · cases h; exact g
      · cases h; exact g
theorem en_bN_gr {sc : en_S} {cal : Nat → List Value → en_H → Option en_R} (hg : ∀ mi as z r zf, cal mi as z = some (r, zf) → z.length ≤ zf.length ∧ en_sz z ≤ en_sz zf) {P : List en_B} : ∀ (n j : Nat) (lv : en_L) (st : List Value) (z : en_H) (r : Option Value) (zf : en_H), en_bN sc cal P n j lv st z = some (r, zf) → z.length ≤ zf.length ∧ en_sz z ≤ en_sz zf
  | 0, j, lv, st, z, r, zf, h => by simp [en_bN] at h
  | n + 1, j, lv, st, z, r, zf, h => by
    rw [en_bN] at h
    cases hb : en_nt P j with
    | none => rw [hb] at h; cases h
    | some q =>
      obtain ⟨pc, bl, c, k⟩ := q
      rw [hb] at h
      dsimp only at h
      rw [en_rb_nat] at h
      cases ho : en_rb sc cal en_oR en_oJ k c (en_mk bl lv) st z with
      | none => rw [ho] at h; cases h
      | some o =>
        rw [ho] at h
        have g := en_rb_gr hg c _ _ _ _ ho
        rcases o with ⟨_ | i, a, b, d⟩ | ⟨v, d⟩
        · cases h
        · have g2 := en_bN_gr hg n i a b d r zf h
          exact ⟨Nat.le_trans g.1 g2.1, Nat.le_trans g.2 g2.2⟩
        · cases h; exact g
/-- behind an end nothing follows -/
theorem en_ed_no {sc : en_S} {cal : Nat → List Value → en_H → Option en_R} {i : en_I} {lv lv' : en_L} {st st' : List Value} {z z' : en_H} (he : en_ed i.1 = true) : en_ex sc cal i lv st z en_oR en_oN en_oJ ≠ some (.inl (none, lv', st', z')) := by
  obtain ⟨op, ln, k, tg, cs, cI, cL⟩ := i
  intro h
  cases op
  case goto => cases h
  case tableswitch =>
    delta en_ex at h; dsimp only at h
    split at h
    · rcases en_sw_any h with g | ⟨j, g⟩ <;> cases g
    · cases h
  case lookupswitch =>
    delta en_ex at h; dsimp only at h
    split at h
    · rcases en_sw_any h with g | ⟨j, g⟩ <;> cases g
    · cases h
  case ireturn =>
    delta en_ex at h; dsimp only at h
    repeat' split at h
    all_goals cases h
  case lreturn =>
    delta en_ex at h; dsimp only at h
    repeat' split at h
    all_goals cases h
  case areturn =>
    delta en_ex at h; dsimp only at h
    repeat' split at h
    all_goals cases h
  case return_ =>
    delta en_ex at h; dsimp only at h
    repeat' split at h
    all_goals cases h
  all_goals (exact absurd he (by simp [en_ed]))
theorem en_ret1 {n : Nat} {rt : Option FieldType} {P : List en_B} {pc : Nat} {i : en_I} {v : Option Value} (hck : en_ckI n rt P pc i = true) (h : en_rok i.1 rt v) : i.2.1 = 1 := by
  obtain ⟨op, ln, k, tg, cs, cI, cL⟩ := i
  rcases h with ⟨h, -⟩ | ⟨h, -⟩ | ⟨h, -⟩ | ⟨h, -⟩ <;> (dsimp only at h; subst h; simp only [en_ckI, Bool.and_eq_true, beq_iff_eq] at hck; exact hck.1)
section ENB
variable {p : Program} {l : Launch} {e : Env} {R : Room} {s : State} {m : MethodId} {args : Array Value} {below : List Frame} {meth : Method} {c : Code} {Q : State → Prop} {cc : ByteArray} {n : Nat} {own : String} {D : va_G} {aC : Nat → ClassId} {b B0 K0 S0 : Nat} {sc : en_S}
theorem en_w_rb (X : en_Cx p c cc n s m args own D aC b B0 K0 sc) {d : Nat} (hR : en_Rm R d) {cal : Nat → List Value → en_H → Option en_R} (hcal : ∀ mi as z r zf, cal mi as z = some (r, zf) → en_Ct l D aC b B0 sc d mi as z r zf) {rt : Option FieldType} {P : List en_B} {ini : Bool} (hini : ini = true → meth.name = "<init>") {nx : Nat} : ∀ (co : List en_I) (pc : Nat) (lv : en_L) (st : List Value) (z : en_H) (o : en_O), en_rb sc cal en_oR en_oJ nx co lv st z = some o → en_ckC cc n rt P nx pc co = true → en_lkC own ini co → (en_zo o).length ≤ K0 + R.cells → en_sz (en_zo o) ≤ S0 + R.slots →
    (∀ j lv st z, o = .inl (some j, lv, st, z) → j < P.length → en_Go p l e R s m args below meth c Q n D aC b B0 K0 S0 (en_pc P j) lv st z) →
    (∀ v z, o = .inr (v, z) → ∀ (op : Instr) (pc : Nat), decode cc pc = .ok (op, 1) → en_rok op rt v → ∀ (H : Heap) (locs : List Loc) (ls : Array Slot) (cells slots : Nat), en_St D aC b B0 s z H locs → z.length = K0 + cells → en_sz z = S0 + slots → W p l e R s m args below meth c H locs cells slots Q (F0 m pc ls (v.map (en_rv b B0)).toList)) →
    en_Go p l e R s m args below meth c Q n D aC b B0 K0 S0 pc lv st z
  | [], pc, lv, st, z, o, h, hck, hlk, h1, h2, kj, kr => by
    cases h
    simp only [en_ckC, Bool.and_eq_true, decide_eq_true_eq] at hck
    rw [hck.2]
    exact kj nx lv st z rfl hck.1
  | i :: co, pc, lv, st, z, o, h, hck, hlk, h1, h2, kj, kr => by
    have hg : ∀ mi as z r zf, cal mi as z = some (r, zf) → z.length ≤ zf.length ∧ en_sz z ≤ en_sz zf := fun mi as z r zf q => ⟨(hcal mi as z r zf q).1, (hcal mi as z r zf q).2.1⟩
    rw [en_rb, en_ex_nat] at h
    simp only [en_ckC, Bool.and_eq_true] at hck
    obtain ⟨hc1, hc2, hc3⟩ := hck
    have hd : decode cc pc = .ok (i.1, i.2.1) := by
      split at hc1
      · rename_i op k hdd
        simp only [Bool.and_eq_true, decide_eq_true_eq] at hc1
        rw [hdd, hc1.1, hc1.2]
      · cases hc1
    cases ho : en_ex sc cal i lv st z en_oR en_oN en_oJ with
    | none => rw [ho] at h; cases h
    | some o1 =>
      rw [ho] at h
      intro H locs ls cells slots hS hl hk hn0
      have key : ((en_zo o1).length ≤ (en_zo o).length ∧ en_sz (en_zo o1) ≤ en_sz (en_zo o)) ∧ en_Kt p l e R s m args below meth c Q n D aC b B0 K0 S0 rt P pc i.1 i.2.1 o1 := by
        rcases o1 with ⟨_ | j, a, b', z'⟩ | ⟨v, z'⟩
        · have h : en_rb sc cal en_oR en_oJ nx co a b' z' = some o := h
          refine ⟨en_rb_gr hg co _ _ _ _ h, ?_⟩
          have hc4 : en_ckC cc n rt P nx (pc + i.2.1) co = true := by
            simp only [Bool.or_eq_true] at hc3
            rcases hc3 with q | q
            · exact absurd ho (en_ed_no q)
            · exact q
          exact en_w_rb X hR hcal hini co (pc + i.2.1) a b' z' o h hc4 hlk.2 h1 h2 kj kr
        · cases h
          exact ⟨⟨Nat.le_refl _, Nat.le_refl _⟩, fun hj => kj j a b' z' rfl hj⟩
        · cases h
          refine ⟨⟨Nat.le_refl _, Nat.le_refl _⟩, fun hrok => kr v z' rfl i.1 pc ?_ hrok⟩
          rw [hd, en_ret1 hc2 hrok]
      exact en_w_ex X hS hl hk hn0 hR hcal ho hd hc2 hlk.1 hini (Nat.le_trans key.1.1 h1) (Nat.le_trans key.1.2 h2) key.2
theorem en_nt_mem {α : Type} {l : List α} {j : Nat} {x : α} (h : en_nt l j = some x) : x ∈ l := by
  rw [en_nt_eq] at h
  exact List.mem_of_getElem? h
theorem en_w_bN (X : en_Cx p c cc n s m args own D aC b B0 K0 sc) {d : Nat} (hR : en_Rm R d) {cal : Nat → List Value → en_H → Option en_R} (hcal : ∀ mi as z r zf, cal mi as z = some (r, zf) → en_Ct l D aC b B0 sc d mi as z r zf) {rt : Option FieldType} {P : List en_B} {ini : Bool} (hini : ini = true → meth.name = "<init>") (hck : P.all (fun q => en_ckC cc n rt P q.2.2.2 q.1 q.2.2.1) = true) (hlk : ∀ q ∈ P, en_lkC own ini q.2.2.1) {r : Option Value} {zf : en_H} (h1 : zf.length ≤ K0 + R.cells) (h2 : en_sz zf ≤ S0 + R.slots)
    (kr : ∀ (op : Instr) (pc : Nat), decode cc pc = .ok (op, 1) → en_rok op rt r → ∀ (H : Heap) (locs : List Loc) (ls : Array Slot) (cells slots : Nat), en_St D aC b B0 s zf H locs → zf.length = K0 + cells → en_sz zf = S0 + slots → W p l e R s m args below meth c H locs cells slots Q (F0 m pc ls (r.map (en_rv b B0)).toList)) :
    ∀ (k j : Nat) (lv : en_L) (st : List Value) (z : en_H), en_bN sc cal P k j lv st z = some (r, zf) → en_Go p l e R s m args below meth c Q n D aC b B0 K0 S0 (en_pc P j) lv st z
  | 0, j, lv, st, z, h => by simp [en_bN] at h
  | k + 1, j, lv, st, z, h => by
    have hg : ∀ mi as z r zf, cal mi as z = some (r, zf) → z.length ≤ zf.length ∧ en_sz z ≤ en_sz zf := fun mi as z r zf q => ⟨(hcal mi as z r zf q).1, (hcal mi as z r zf q).2.1⟩
    rw [en_bN] at h
    cases hb : en_nt P j with
    | none => rw [hb] at h; cases h
    | some q =>
      have hmem := en_nt_mem hb
      have hc := List.all_eq_true.mp hck q hmem
      have hlq := hlk q hmem
      obtain ⟨pc, bl, co, nx⟩ := q
      rw [hb] at h
      dsimp only at h hc hlq
      rw [en_rb_nat] at h
      have hpc : en_pc P j = pc := by unfold en_pc; rw [hb]
      rw [hpc]
      cases ho : en_rb sc cal en_oR en_oJ nx co (en_mk bl lv) st z with
      | none => rw [ho] at h; cases h
      | some o =>
        rw [ho] at h
        have gz : (en_zo o).length ≤ zf.length ∧ en_sz (en_zo o) ≤ en_sz zf := by
          rcases o with ⟨_ | i, a, b', z'⟩ | ⟨v, z'⟩
          · cases h
          · exact en_bN_gr hg k i a b' z' r zf h
          · cases h; exact ⟨Nat.le_refl _, Nat.le_refl _⟩
        intro H locs ls cells slots hS hl hk hn0
        refine en_w_rb X hR hcal hini co pc (en_mk bl lv) st z o ho hc hlq (Nat.le_trans gz.1 h1) (Nat.le_trans gz.2 h2) ?_ ?_ H locs ls cells slots hS (hl.mask bl) hk hn0
        · intro i a b' z' e1 _
          subst e1
          exact en_w_bN X hR hcal hini hck hlk h1 h2 kr k i a b' z' h
        · intro v z' e1
          subst e1
          cases h
          exact kr
end ENB
theorem en_ct_sl (b B0 : Nat) : ∀ vs : List Value, (lg_sl (vs.map (en_rv b B0))).length = en_ct vs
  | [] => rfl
  | v :: vs => by
    have ih := en_ct_sl b B0 vs
    simp only [lg_sl, List.map_cons, List.flatMap_cons, List.length_append] at ih ⊢
    rw [ih, en_ct, en_rv_cat]
    cases v <;> rfl
theorem en_al_none (f : Value → Value) : ∀ (k o : Nat) (q : Nat × Value), q ∉ en_al f o (List.replicate k none)
  | 0, o, q => by simp [en_al]
  | k + 1, o, q => by
    rw [List.replicate_succ]
    exact en_al_none f k (o + 1) q
theorem en_en_len : ∀ (n : Nat) (vs : List Value), en_ct vs ≤ n → (en_en n vs).length = n
  | n, [], _ => by simp [en_en]
  | 0, v :: r, h => by cases v <;> simp [en_ct, Value.category] at h
  | 1, .long x :: r, h => by simp only [en_ct, Value.category] at h; omega
  | 1, .double x :: r, h => by simp only [en_ct, Value.category] at h; omega
  | n + 2, .long x :: r, h => by
    simp only [en_ct, Value.category] at h
    rw [en_en, List.length_cons, List.length_cons, en_en_len n r (by omega)]
  | n + 2, .double x :: r, h => by
    simp only [en_ct, Value.category] at h
    rw [en_en, List.length_cons, List.length_cons, en_en_len n r (by omega)]
  | n + 1, .int x :: r, h => by
    simp only [en_ct, Value.category] at h
    rw [en_en, List.length_cons, en_en_len n r (by omega)] <;> simp
  | n + 1, .float x :: r, h => by
    simp only [en_ct, Value.category] at h
    rw [en_en, List.length_cons, en_en_len n r (by omega)] <;> simp
  | n + 1, .null :: r, h => by
    simp only [en_ct, Value.category] at h
    rw [en_en, List.length_cons, en_en_len n r (by omega)] <;> simp
  | n + 1, .ref x :: r, h => by
    simp only [en_ct, Value.category] at h
    rw [en_en, List.length_cons, en_en_len n r (by omega)] <;> simp
  | n + 1, .retAddr x :: r, h => by
    simp only [en_ct, Value.category] at h
    rw [en_en, List.length_cons, en_en_len n r (by omega)] <;> simp
theorem en_en_1 {n : Nat} {v : Value} {r : List Value} (h : v.category = 1) : en_en (n + 1) (v :: r) = some v :: en_en n r := by
  cases v with
  | long x => cases h
  | double x => cases h
  | _ => rw [en_en] <;> simp
theorem en_en_al (b B0 : Nat) : ∀ (vs : List Value) (n o : Nat) (q : Nat × Value), en_ct vs ≤ n → q ∈ en_al (en_rv b B0) o (en_en n vs) → q ∈ lv_args o (vs.map (en_rv b B0))
  | [], n, o, q, _, h => by rw [en_en] at h; exact absurd h (en_al_none _ n o q)
  | v :: r, n, o, q, hn, h => by
    have hc : (en_rv b B0 v).category = v.category := en_rv_cat b B0 v
    rw [en_ct] at hn
    rcases (show v.category = 1 ∨ v.category = 2 by cases v <;> simp [Value.category]) with h1 | h2
    · obtain ⟨n, rfl⟩ : ∃ k, n = k + 1 := ⟨n - 1, by omega⟩
      rw [en_en_1 h1] at h
      rw [List.map_cons, lv_args, hc, h1, if_neg (by decide)]
      rcases List.mem_cons.mp h with e | e
      · rw [e]; exact List.mem_cons_self
      · exact List.mem_cons_of_mem _ (en_en_al b B0 r n (o + 1) q (by omega) e)
    · obtain ⟨n, rfl⟩ : ∃ k, n = k + 2 := ⟨n - 2, by omega⟩
      rw [List.map_cons, lv_args, hc, h2, if_pos rfl]
      have h : q ∈ (o, en_rv b B0 v) :: en_al (en_rv b B0) (o + 1 + 1) (en_en n r) := by
        cases v with
        | long x => rw [en_en] at h; exact h
        | double x => rw [en_en] at h; exact h
        | _ => cases h2
      rcases List.mem_cons.mp h with e | e
      · rw [e]; exact List.mem_cons_self
      · exact List.mem_cons_of_mem _ (en_en_al b B0 r n (o + 2) q (by omega) e)
theorem en_lo_en (b B0 : Nat) {n : Nat} {as : List Value} (h : en_ct as ≤ n) : en_lo (en_rv b B0) ((lg_sl (as.map (en_rv b B0)) ++ List.replicate (n - (lg_sl (as.map (en_rv b B0))).length) Slot.unset).toArray) n (en_en n as) :=
  .sub (en_en_len n as h) (lv_entry (as.map (en_rv b B0)) (by rw [en_ct_sl]; exact h)) (fun q hq => en_en_al b B0 as n 0 q h hq)
