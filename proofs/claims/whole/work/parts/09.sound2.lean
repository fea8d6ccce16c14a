/-! THE ENGINE IS SOUND, second part: what looks at locals and stack alone -/
/-- the number of the instruction's length and its constants are as they should be -/
def en_ckP (n : Nat) (i : en_I) : Bool := match i.1 with
  | .iconst x => i.2.1 == 1 && decide (Int32.ofInt x = i.2.2.2.2.2.1)
  | .bipush x => i.2.1 == 2 && decide ((Int8.ofInt x).toInt32 = i.2.2.2.2.2.1)
  | .sipush x => i.2.1 == 3 && decide ((Int16.ofInt x).toInt32 = i.2.2.2.2.2.1)
  | .ldc _ => i.2.1 == 2
  | .ldc_w _ => i.2.1 == 3
  | .lconst x => i.2.1 == 1 && decide (Int64.ofNat (x : Nat) = i.2.2.2.2.2.2)
  | .ldc2_w _ => i.2.1 == 3
  | .iload k => i.2.1 == 2 && k == i.2.2.1
  | .lload k => i.2.1 == 2 && k == i.2.2.1
  | .aload k => i.2.1 == 2 && k == i.2.2.1
  | .iload_n k => i.2.1 == 1 && k.val == i.2.2.1
  | .lload_n k => i.2.1 == 1 && k.val == i.2.2.1
  | .aload_n k => i.2.1 == 1 && k.val == i.2.2.1
  | .istore k => i.2.1 == 2 && (k == i.2.2.1 && decide (i.2.2.1 < n))
  | .lstore k => i.2.1 == 2 && (k == i.2.2.1 && decide (i.2.2.1 + 1 < n))
  | .astore k => i.2.1 == 2 && (k == i.2.2.1 && decide (i.2.2.1 < n))
  | .istore_n k => i.2.1 == 1 && (k.val == i.2.2.1 && decide (i.2.2.1 < n))
  | .lstore_n k => i.2.1 == 1 && (k.val == i.2.2.1 && decide (i.2.2.1 + 1 < n))
  | .astore_n k => i.2.1 == 1 && (k.val == i.2.2.1 && decide (i.2.2.1 < n))
  | .iinc k x => i.2.1 == 3 && (k == i.2.2.1 && (decide (i.2.2.1 < n) && decide (Int32.ofInt x = i.2.2.2.2.2.1)))
  | _ => i.2.1 == 1
/-- constants of the pool -/
def en_lkP (own : String) (i : en_I) : Prop := match i.1 with
  | .ldc k => Cond.constant own k i.2.2.2.2.2.1 ∈ en_tb
  | .ldc_w k => Cond.constant own k i.2.2.2.2.2.1 ∈ en_tb
  | .ldc2_w k => Cond.constantLong own k i.2.2.2.2.2.2 ∈ en_tb
  | _ => True
section ENW
variable {p : Program} {l : Launch} {e : Env} {R : Room} {s : State} {m : MethodId} {args : Array Value} {below : List Frame} {meth : Method} {c : Code} {H : Heap} {locs : List Loc} {cells slots : Nat} {Q : State → Prop} {cc : ByteArray} {pc : Nat} {ls : Array Slot} {b B0 : Nat}
theorem en_cat1 {v : Value} (h : en_w1 v = true) (b B0 : Nat) : (en_rv b B0 v).category = 1 := by
  rw [en_rv_cat]
  unfold en_w1 at h
  split at h <;> first | rfl | cases h
set_option maxHeartbeats 4000000 in
theorem en_w_pu (hx : p.tables.exec = Jvm.exec) (hb : c.code = cc) {own : String} (hown : s.vm.findClass own = some m.cls) (hts : ∀ w ∈ en_tb, w.before args s = true) {i : en_I} {lv lv' : en_L} {st st' : List Value} {n : Nat} (hp : en_pu i lv st = some (lv', st')) (hd : decode cc pc = .ok (i.1, i.2.1)) (hck : en_ckP n i = true) (hlk : en_lkP own i) (hl : en_lo (en_rv b B0) ls n lv)
    (kk : ∀ ls', en_lo (en_rv b B0) ls' n lv' → W p l e R s m args below meth c H locs cells slots Q (F0 m (pc + i.2.1) ls' (st'.map (en_rv b B0)))) : W p l e R s m args below meth c H locs cells slots Q (F0 m pc ls (st.map (en_rv b B0))) := by
  obtain ⟨op, ln, k, tg, cs, cI, cL⟩ := i
  have hf := en_rv_cat b B0
  cases op
  case iconst x =>
    simp only [en_ckP, Bool.and_eq_true, beq_iff_eq, decide_eq_true_eq] at hck
    obtain ⟨rfl, h1⟩ := hck
    cases hp
    exact lv_iconst hx hb hd h1 (kk ls hl)
  case bipush x =>
    simp only [en_ckP, Bool.and_eq_true, beq_iff_eq, decide_eq_true_eq] at hck
    obtain ⟨rfl, h1⟩ := hck
    cases hp
    exact lv_bipush hx hb hd h1 (kk ls hl)
  case sipush x =>
    simp only [en_ckP, Bool.and_eq_true, beq_iff_eq, decide_eq_true_eq] at hck
    obtain ⟨rfl, h1⟩ := hck
    cases hp
    exact lv_sipush hx hb hd h1 (kk ls hl)
  case lconst x =>
    simp only [en_ckP, Bool.and_eq_true, beq_iff_eq, decide_eq_true_eq] at hck
    obtain ⟨rfl, h1⟩ := hck
    cases hp
    exact lv_lconst hx hb hd h1 (kk ls hl)
  case ldc x =>
    simp only [en_ckP, beq_iff_eq] at hck
    obtain rfl := hck
    cases hp
    exact lv_ldc hx hb hown (hts _ hlk) hd (kk ls hl)
  case ldc_w x =>
    simp only [en_ckP, beq_iff_eq] at hck
    obtain rfl := hck
    cases hp
    exact lv_ldcw hx hb hown (hts _ hlk) hd (kk ls hl)
  case ldc2_w x =>
    simp only [en_ckP, beq_iff_eq] at hck
    obtain rfl := hck
    cases hp
    exact lv_ldc2 hx hb hown (hts _ hlk) hd (kk ls hl)
  case aconst_null =>
    simp only [en_ckP, beq_iff_eq] at hck
    obtain rfl := hck
    cases hp
    exact lv_null hx hb hd (kk ls hl)
  case iload x =>
    simp only [en_ckP, Bool.and_eq_true, beq_iff_eq] at hck
    obtain ⟨rfl, rfl⟩ := hck
    delta en_pu en_ldI at hp; dsimp only at hp
    split at hp
    · rename_i y hy
      cases hp
      exact lv_iload hx hb hd (hl.at hy) (kk ls hl)
    · cases hp
  case lload x =>
    simp only [en_ckP, Bool.and_eq_true, beq_iff_eq] at hck
    obtain ⟨rfl, rfl⟩ := hck
    delta en_pu en_ldL at hp; dsimp only at hp
    split at hp
    · rename_i y hy
      cases hp
      exact lv_lload hx hb hd (hl.at hy) (kk ls hl)
    · cases hp
  case aload x =>
    simp only [en_ckP, Bool.and_eq_true, beq_iff_eq] at hck
    obtain ⟨rfl, rfl⟩ := hck
    delta en_pu en_ldA at hp; dsimp only at hp
    split at hp
    · rename_i y hy
      cases hp
      exact lv_aload hx hb hd (hl.at hy) (kk ls hl)
    · rename_i hy
      cases hp
      exact lv_aloadN hx hb hd (hl.at hy) (kk ls hl)
    · cases hp
  case iload_n x =>
    simp only [en_ckP, Bool.and_eq_true, beq_iff_eq] at hck
    obtain ⟨rfl, h1⟩ := hck
    delta en_pu en_ldI at hp; dsimp only at hp
    split at hp
    · rename_i y hy
      cases hp
      exact lv_iload_n hx hb hd h1 (hl.at hy) (kk ls hl)
    · cases hp
  case lload_n x =>
    simp only [en_ckP, Bool.and_eq_true, beq_iff_eq] at hck
    obtain ⟨rfl, h1⟩ := hck
    delta en_pu en_ldL at hp; dsimp only at hp
    split at hp
    · rename_i y hy
      cases hp
      exact lv_lload_n hx hb hd h1 (hl.at hy) (kk ls hl)
    · cases hp
  case aload_n x =>
    simp only [en_ckP, Bool.and_eq_true, beq_iff_eq] at hck
    obtain ⟨rfl, h1⟩ := hck
    delta en_pu en_ldA at hp; dsimp only at hp
    split at hp
    · rename_i y hy
      cases hp
      exact lv_aload_n hx hb hd h1 (hl.at hy) (kk ls hl)
    · rename_i hy
      cases hp
      exact lv_aload_nN hx hb hd h1 (hl.at hy) (kk ls hl)
    · cases hp
  case istore x =>
    simp only [en_ckP, Bool.and_eq_true, beq_iff_eq, decide_eq_true_eq] at hck
    obtain ⟨rfl, rfl, h2⟩ := hck
    delta en_pu en_stI at hp; dsimp only at hp
    split at hp
    · cases hp
      exact lv_istore hx hb hd hl.2 h2 rfl (fun ls' h => kk ls' (.st1 hf hl.1 h))
    · cases hp
  case istore_n x =>
    simp only [en_ckP, Bool.and_eq_true, beq_iff_eq, decide_eq_true_eq] at hck
    obtain ⟨rfl, h1, h2⟩ := hck
    delta en_pu en_stI at hp; dsimp only at hp
    split at hp
    · cases hp
      exact lv_istore_n hx hb hd h1 hl.2 h2 rfl (fun ls' h => kk ls' (.st1 hf hl.1 h))
    · cases hp
  case lstore x =>
    simp only [en_ckP, Bool.and_eq_true, beq_iff_eq, decide_eq_true_eq] at hck
    obtain ⟨rfl, rfl, h2⟩ := hck
    delta en_pu en_stL at hp; dsimp only at hp
    split at hp
    · cases hp
      exact lv_lstore hx hb hd hl.2 h2 rfl (fun ls' h => kk ls' (.st2 hf hl.1 h))
    · cases hp
  case lstore_n x =>
    simp only [en_ckP, Bool.and_eq_true, beq_iff_eq, decide_eq_true_eq] at hck
    obtain ⟨rfl, h1, h2⟩ := hck
    delta en_pu en_stL at hp; dsimp only at hp
    split at hp
    · cases hp
      exact lv_lstore_n hx hb hd h1 hl.2 h2 rfl (fun ls' h => kk ls' (.st2 hf hl.1 h))
    · cases hp
  case astore x =>
    simp only [en_ckP, Bool.and_eq_true, beq_iff_eq, decide_eq_true_eq] at hck
    obtain ⟨rfl, rfl, h2⟩ := hck
    delta en_pu en_stA at hp; dsimp only at hp
    split at hp
    · cases hp
      exact lv_astore hx hb hd hl.2 h2 rfl (fun ls' h => kk ls' (.st1 hf hl.1 h))
    · cases hp
      exact lv_astoreN hx hb hd hl.2 h2 rfl (fun ls' h => kk ls' (.st1 hf hl.1 h))
    · cases hp
  case astore_n x =>
    simp only [en_ckP, Bool.and_eq_true, beq_iff_eq, decide_eq_true_eq] at hck
    obtain ⟨rfl, h1, h2⟩ := hck
    delta en_pu en_stA at hp; dsimp only at hp
    split at hp
    · cases hp
      exact lv_astore_n hx hb hd h1 hl.2 h2 rfl (fun ls' h => kk ls' (.st1 hf hl.1 h))
    · cases hp
      exact lv_astore_nN hx hb hd h1 hl.2 h2 rfl (fun ls' h => kk ls' (.st1 hf hl.1 h))
    · cases hp
  case iinc x y =>
    simp only [en_ckP, Bool.and_eq_true, beq_iff_eq, decide_eq_true_eq] at hck
    obtain ⟨rfl, rfl, h2, h3⟩ := hck
    delta en_pu at hp; dsimp only at hp
    split at hp
    · rename_i w hw
      cases hp
      have hm : (x, Value.int w) ∈ en_al (en_rv b B0) 0 lv := by
        unfold en_gl at hw
        cases hn : en_nt lv x with
        | none => rw [hn] at hw; cases hw
        | some u =>
          rw [hn] at hw
          dsimp only at hw
          subst hw
          have := en_al_nt (en_rv b B0) lv 0 x (.int w) hn
          rwa [Nat.zero_add] at this
      obtain ⟨q, hq⟩ := List.getElem?_of_mem hm
      exact lv_iinc hx hb hd hl.2 hq (v := w + cI) (by rw [h3]) h2 rfl (fun ls' h => kk ls' (.st1 hf hl.1 h))
    · cases hp
  case ineg =>
    simp only [en_ckP, beq_iff_eq] at hck
    obtain rfl := hck
    delta en_pu at hp; dsimp only at hp
    split at hp
    · cases hp; exact lv_ineg hx hb hd (kk ls hl)
    · cases hp
  case lneg =>
    simp only [en_ckP, beq_iff_eq] at hck
    obtain rfl := hck
    delta en_pu at hp; dsimp only at hp
    split at hp
    · cases hp; exact lv_lneg hx hb hd (kk ls hl)
    · cases hp
  case i2l =>
    simp only [en_ckP, beq_iff_eq] at hck
    obtain rfl := hck
    delta en_pu at hp; dsimp only at hp
    split at hp
    · cases hp; exact lv_i2l hx hb hd rfl (kk ls hl)
    · cases hp
  case l2i =>
    simp only [en_ckP, beq_iff_eq] at hck
    obtain rfl := hck
    delta en_pu at hp; dsimp only at hp
    split at hp
    · cases hp; exact lv_l2i hx hb hd rfl (kk ls hl)
    · cases hp
  case lcmp =>
    simp only [en_ckP, beq_iff_eq] at hck
    obtain rfl := hck
    delta en_pu at hp; dsimp only at hp
    split at hp
    · cases hp; exact W.lcmp hx hb hd (kk ls hl)
    · cases hp
  case iadd => simp only [en_ckP, beq_iff_eq] at hck; obtain rfl := hck; delta en_pu en_p2I at hp; dsimp only at hp; split at hp <;> cases hp; exact lv_iadd hx hb hd (kk ls hl)
  case isub => simp only [en_ckP, beq_iff_eq] at hck; obtain rfl := hck; delta en_pu en_p2I at hp; dsimp only at hp; split at hp <;> cases hp; exact lv_isub hx hb hd (kk ls hl)
  case imul => simp only [en_ckP, beq_iff_eq] at hck; obtain rfl := hck; delta en_pu en_p2I at hp; dsimp only at hp; split at hp <;> cases hp; exact lv_imul hx hb hd (kk ls hl)
  case iand => simp only [en_ckP, beq_iff_eq] at hck; obtain rfl := hck; delta en_pu en_p2I at hp; dsimp only at hp; split at hp <;> cases hp; exact lv_iand hx hb hd (kk ls hl)
  case ior => simp only [en_ckP, beq_iff_eq] at hck; obtain rfl := hck; delta en_pu en_p2I at hp; dsimp only at hp; split at hp <;> cases hp; exact lv_ior hx hb hd (kk ls hl)
  case ixor => simp only [en_ckP, beq_iff_eq] at hck; obtain rfl := hck; delta en_pu en_p2I at hp; dsimp only at hp; split at hp <;> cases hp; exact lv_ixor hx hb hd (kk ls hl)
  case ishl => simp only [en_ckP, beq_iff_eq] at hck; obtain rfl := hck; delta en_pu en_p2I at hp; dsimp only at hp; split at hp <;> cases hp; exact lv_ishl hx hb hd (kk ls hl)
  case ishr => simp only [en_ckP, beq_iff_eq] at hck; obtain rfl := hck; delta en_pu en_p2I at hp; dsimp only at hp; split at hp <;> cases hp; exact lv_ishr hx hb hd (kk ls hl)
  case iushr => simp only [en_ckP, beq_iff_eq] at hck; obtain rfl := hck; delta en_pu en_p2I at hp; dsimp only at hp; split at hp <;> cases hp; exact lv_iushr hx hb hd rfl (kk ls hl)
  case ladd => simp only [en_ckP, beq_iff_eq] at hck; obtain rfl := hck; delta en_pu en_p2L at hp; dsimp only at hp; split at hp <;> cases hp; exact lv_ladd hx hb hd (kk ls hl)
  case lsub => simp only [en_ckP, beq_iff_eq] at hck; obtain rfl := hck; delta en_pu en_p2L at hp; dsimp only at hp; split at hp <;> cases hp; exact lv_lsub hx hb hd (kk ls hl)
  case lmul => simp only [en_ckP, beq_iff_eq] at hck; obtain rfl := hck; delta en_pu en_p2L at hp; dsimp only at hp; split at hp <;> cases hp; exact lv_lmul hx hb hd (kk ls hl)
  case land => simp only [en_ckP, beq_iff_eq] at hck; obtain rfl := hck; delta en_pu en_p2L at hp; dsimp only at hp; split at hp <;> cases hp; exact lv_land hx hb hd (kk ls hl)
  case lor => simp only [en_ckP, beq_iff_eq] at hck; obtain rfl := hck; delta en_pu en_p2L at hp; dsimp only at hp; split at hp <;> cases hp; exact lv_lor hx hb hd (kk ls hl)
  case lxor => simp only [en_ckP, beq_iff_eq] at hck; obtain rfl := hck; delta en_pu en_p2L at hp; dsimp only at hp; split at hp <;> cases hp; exact lv_lxor hx hb hd (kk ls hl)
  case lshl => simp only [en_ckP, beq_iff_eq] at hck; obtain rfl := hck; delta en_pu en_pSh at hp; dsimp only at hp; split at hp <;> cases hp; exact lv_lshl hx hb hd rfl (kk ls hl)
  case lshr => simp only [en_ckP, beq_iff_eq] at hck; obtain rfl := hck; delta en_pu en_pSh at hp; dsimp only at hp; split at hp <;> cases hp; exact lv_lshr hx hb hd rfl (kk ls hl)
  case lushr => simp only [en_ckP, beq_iff_eq] at hck; obtain rfl := hck; delta en_pu en_pSh at hp; dsimp only at hp; split at hp <;> cases hp; exact lv_lushr hx hb hd rfl (kk ls hl)
  case dup =>
    simp only [en_ckP, beq_iff_eq] at hck
    obtain rfl := hck
    delta en_pu at hp; dsimp only at hp
    split at hp
    · split at hp
      · rename_i hv
        cases hp
        exact lv_dup hx hb hd (en_cat1 hv b B0) (kk ls hl)
      · cases hp
    · cases hp
  case dup_x1 =>
    simp only [en_ckP, beq_iff_eq] at hck
    obtain rfl := hck
    delta en_pu at hp; dsimp only at hp
    split at hp
    · split at hp
      · rename_i hv hw
        cases hp
        exact lv_dup_x1 hx hb hd (en_cat1 hv b B0) (en_cat1 hw b B0) (kk ls hl)
      · cases hp
    · cases hp
  case dup2 =>
    simp only [en_ckP, beq_iff_eq] at hck
    obtain rfl := hck
    delta en_pu at hp; dsimp only at hp
    split at hp
    · cases hp
      exact lv_dup2_2 hx hb hd rfl (kk ls hl)
    · split at hp
      · rename_i hv hw
        cases hp
        exact lv_dup2_11 hx hb hd (en_cat1 hv b B0) (en_cat1 hw b B0) (kk ls hl)
      · cases hp
    · cases hp
  all_goals (delta en_pu at hp; cases hp)
end ENW
