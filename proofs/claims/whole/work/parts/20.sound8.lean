/-! THE ENGINE IS SOUND: what a call of the evaluator answers, the machine does -/
theorem en_ofW {l : Launch} {y : MethodName} {ws ws' : List Cond} {rm : Room} {Pc : Array Value → State → Prop} {Qc : Array Value → State → Outcome → State → Prop} {mc ms : Nat} {free : Addr → Prop} {cc : ByteArray} {maxL : Nat} {ret : Option FieldType}
    (hy : plainFor y = true) (hw : ws = Cond.code y cc maxL ret :: ws')
    (body : ∀ p e s m args below meth c s₁, BodyLoose p l y (headSpec ws rm) cc maxL ret e s m args below meth c s₁ → c.maxLocals = maxL → Pc args s →
      W p l e (headSpec ws rm).room s m args below meth c s.heap [] 0 0 (MQ below Qc args s mc ms free) (entryFrame m args maxL)) : Met l y ws rm Pc Qc mc ms free := by
  refine MetFree.of_bodySF (code := cc) (maxLocals := maxL) (ret := ret) hy ?_ ?_
  · intro args s m h hn
    obtain ⟨meth, c, h1, h2, h3, h4, h5, h6, -, -⟩ := Cond.code_spec hn (atoms_spec (ws := ws) h _ (by rw [hw]; exact List.mem_cons_self))
    exact ⟨meth, c, h1, h2, h3, h4, h5, h6⟩
  · intro p e s m args below meth c s₁ B hml hP _
    have hh0 : s₁.heap = s.heap := by rw [B.state]; rfl
    obtain ⟨t, a1, o, b1, b2, b3⟩ := body p e s m args below meth c s₁ B hml hP s₁ hh0 (Stand.of_body B)
    exact ⟨t, o, a1, b1, b2, ⟨b3.1, b3.2⟩⟩
set_option maxHeartbeats 4000000 in
theorem en_snd (l : Launch) (D : va_G) (aC : Nat → ClassId) (b B0 : Nat) (sc : en_S) : ∀ (d mi : Nat) (as : List Value) (z : en_H) (r : Option Value) (zf : en_H), en_cl sc en_mt d mi as z = some (r, zf) → en_Ct l D aC b B0 sc d mi as z r zf
  | 0, mi, as, z, r, zf, h => by simp [en_cl] at h
  | d + 1, mi, as, z, r, zf, h => by
    have IH : ∀ (mi : Nat) (as : List Value) (z : en_H) (r : Option Value) (zf : en_H), en_cl sc en_mt d mi as z = some (r, zf) → en_Ct l D aC b B0 sc d mi as z r zf := fun mi as z r zf => en_snd l D aC b B0 sc d mi as z r zf
    have hg : ∀ (mi : Nat) (as : List Value) (z : en_H) (r : Option Value) (zf : en_H), en_cl sc en_mt d mi as z = some (r, zf) → z.length ≤ zf.length ∧ en_sz z ≤ en_sz zf := fun mi as z r zf q => ⟨(IH mi as z r zf q).1, (IH mi as z r zf q).2.1⟩
    rw [en_cl] at h
    cases hm : en_nt en_mt mi with
    | none => rw [hm] at h; cases h
    | some M =>
      obtain ⟨y, cc, n, ret, P⟩ := M
      rw [hm] at h
      dsimp only at h
      split at h
      · rename_i hct
        obtain ⟨k, hk⟩ := en_bk_ex h
        have g := en_bN_gr hg k 0 _ _ _ _ _ hk
        refine ⟨g.1, g.2, ?_⟩
        intro y' cc' n' ret' P' h'
        cases (show some (y, cc, n, ret, P) = some (y', cc', n', ret', P') from hm.symm.trans h')
        obtain ⟨ok1, ok2, ok3⟩ := en_okM _ (en_nt_mem hm)
        refine en_ofW (cc := cc) (maxL := n) (ret := ret) ok3 rfl ?_
        intro p e s m args below meth c s₁ B hml hv
        obtain ⟨rfl, hsz, hP, hK, hX, hbl, hT⟩ := hv
        have hts := atoms_spec (ws := Cond.code y cc n ret :: en_tb) B.pre
        have hx := B.exec
        have hb := B.bytes
        have hr := B.returns
        have hlocks := B.notSynchronized
        have X : en_Cx p c cc n s m (as.map (en_rv b B0)).toArray y.cls D aC b B0 z.length sc := ⟨hx, hb, hml, findClass_of_methodNamed B.named, fun w hw => hts w (List.mem_cons_of_mem _ hw), hK, hX, hbl, hsz, hT⟩
        simp only [en_ckM, Bool.and_eq_true, decide_eq_true_eq] at ok1
        have hR : en_Rm (en_rm (d + 1) z zf) d := ⟨Nat.le_refl _, Nat.le_refl _⟩
        rw [lg_entry_eq]
        have key := en_w_bN (Q := MQ below (en_Qc D aC b B0 sc r zf) (as.map (en_rv b B0)).toArray s (zf.length - z.length) (en_sz zf - en_sz z) (fun q => B0 ≤ q)) (p := p) (l := l) (e := e) (R := en_rm (d + 1) z zf) (below := below) (meth := meth) (S0 := en_sz z) (rt := ret) X hR IH (ini := (y.name == "<init>")) (fun h => by rw [(name_of_methodNamed B.named B.method).1]; exact beq_iff_eq.mp h) ok1.2 ok2 (r := r) (zf := zf) (by show zf.length ≤ z.length + (zf.length - z.length); omega) (by show en_sz zf ≤ en_sz z + (en_sz zf - en_sz z); omega) ?_ k 0 (en_en n as) [] z hk s.heap [] _ 0 0 ⟨hP, va_S.rf⟩ (en_lo_en b B0 hct) rfl rfl
        · rw [ok1.1] at key
          exact key
        · intro op pc hd hrok H locs ls cells slots hS hc1 hc2
          obtain rfl : cells = zf.length - z.length := by omega
          obtain rfl : slots = en_sz zf - en_sz z := by omega
          refine en_sized (fun hle => ?_)
          have hH := en_St.size hS hsz hc1 hle
          have hq : ∀ t : State, t.heap = H → s.WarmedH t.vm → en_Qc D aC b B0 sc r zf (as.map (en_rv b B0)).toArray s (.returned (r.map (en_rv b B0))) t := fun t ht hW => ⟨rfl, en_pre X hS hH t ht hW, hS.2.F ht⟩
          rcases hrok with ⟨rfl, x, rfl, h1⟩ | ⟨rfl, h1, x, rfl⟩ | ⟨rfl, h1, h2⟩ | ⟨rfl, h1, rfl⟩
          · rcases h1 with h1 | ⟨h1, h2⟩
            · exact W.iret hx hb (hr.trans h1) hq hS.2.2.2 hd
            · exact W.zret hx hb (hr.trans h1) (by show Value.int (x &&& 1) = _; rw [h2]) hq hS.2.2.2 hd
          · exact W.lret hx hb (hr.trans h1) hq hS.2.2.2 hd
          · obtain ⟨rt, hrt, h3⟩ : ∃ rt, ret = some rt ∧ ((∃ n, rt = .object n) ∨ ∃ t, rt = .array t) := by
              unfold en_isO at h1
              split at h1
              · exact ⟨_, rfl, Or.inl ⟨_, rfl⟩⟩
              · exact ⟨_, rfl, Or.inr ⟨_, rfl⟩⟩
              · cases h1
            rcases h2 with rfl | ⟨a, rfl⟩
            · exact W.aret (v := .null) hx hb (hr.trans hrt) h3 (Or.inl rfl) hq hS.2.2.2 hd
            · exact W.aret (v := .ref (en_ra b B0 a)) hx hb (hr.trans hrt) h3 (Or.inr ⟨_, rfl⟩) hq hS.2.2.2 hd
          · exact W.vret hx hb (hr.trans h1) hq hS.2.2.2 hd
      · cases h
