/-! THE ENGINE IS SOUND, fifth part: calls -/
/-- a state whose heap holds the cells -/
def en_Wd (D : va_G) (aC : Nat → ClassId) (b B0 : Nat) (sc : en_S) (z : en_H) (U : State) : Prop := U.heap.size = B0 + z.length ∧ va_P D en_cs (en_rw aC b B0 z) U.heap ∧ va_K D en_cs (en_ty aC) U ∧ va_X b sc.1 sc.2 U U.heap ∧ b < B0 ∧ en_TX en_nwl en_aol en_ncl U
def en_rm (d : Nat) (z zf : en_H) : Room := { frames := d, cells := zf.length - z.length, slots := en_sz zf - en_sz z, locals := 80 * d }
abbrev en_Pc (D : va_G) (aC : Nat → ClassId) (b B0 : Nat) (sc : en_S) (as : List Value) (z : en_H) : Array Value → State → Prop := fun av U => av = (as.map (en_rv b B0)).toArray ∧ en_Wd D aC b B0 sc z U
abbrev en_Qc (D : va_G) (aC : Nat → ClassId) (b B0 : Nat) (sc : en_S) (r : Option Value) (zf : en_H) : Array Value → State → Outcome → State → Prop := fun _ st o t => o = .returned (r.map (en_rv b B0)) ∧ en_Wd D aC b B0 sc zf t ∧ va_F (fun q => B0 ≤ q) st t
abbrev en_Mt (l : Launch) (D : va_G) (aC : Nat → ClassId) (b B0 : Nat) (sc : en_S) (d : Nat) (y : MethodName) (cc : ByteArray) (n : Nat) (ret : Option FieldType) (as : List Value) (z : en_H) (r : Option Value) (zf : en_H) : Prop :=
  Met l y (Cond.code y cc n ret :: en_tb) (en_rm d z zf) (en_Pc D aC b B0 sc as z) (en_Qc D aC b B0 sc r zf) (zf.length - z.length) (en_sz zf - en_sz z) (fun q => B0 ≤ q)
/-- what a call's answer says of the machine -/
def en_Ct (l : Launch) (D : va_G) (aC : Nat → ClassId) (b B0 : Nat) (sc : en_S) (d mi : Nat) (as : List Value) (z : en_H) (r : Option Value) (zf : en_H) : Prop :=
  z.length ≤ zf.length ∧ en_sz z ≤ en_sz zf ∧ ∀ y cc n ret P, en_nt en_mt mi = some (y, cc, n, ret, P) → en_Mt l D aC b B0 sc d y cc n ret as z r zf
theorem en_good {ws : List Cond} (h : ∀ w ∈ ws, w ∈ en_tb) : GoodIn en_tb ws := fun w hw => ⟨h w hw, en_tbg w (h w hw)⟩
theorem en_good1 {x : Cond} (h : x ∈ en_tb) : ∀ w ∈ x :: en_tb, w ∈ en_tb := fun w hw => by
  rcases List.mem_cons.mp hw with e | e
  · rw [e]; exact h
  · exact e
theorem en_sp_spec : ∀ (n : Nat) (acc st as r : List Value), en_sp n acc st = some (as, r) → ∃ pre, st = pre ++ r ∧ as = pre.reverse ++ acc ∧ pre.length = n
  | 0, acc, st, as, r, h => by
    simp only [en_sp, Option.some.injEq, Prod.mk.injEq] at h
    exact ⟨[], by simp [h.2], by simp [h.1], rfl⟩
  | n + 1, acc, v :: st, as, r, h => by
    obtain ⟨pre, h1, h2, h3⟩ := en_sp_spec n (v :: acc) st as r h
    exact ⟨v :: pre, by simp [h1], by simp [h2], by simp [h3]⟩
  | n + 1, acc, [], as, r, h => by simp [en_sp] at h
theorem en_sp_0 {n : Nat} {st as r : List Value} (h : en_sp n [] st = some (as, r)) (f : Value → Value) : as.length = n ∧ st.map f = (as.map f).reverse ++ r.map f := by
  obtain ⟨pre, h1, h2, h3⟩ := en_sp_spec n [] st as r h
  subst h1
  rw [List.append_nil] at h2
  subst h2
  exact ⟨by simp [h3], by simp⟩
theorem en_ct_sum (b B0 : Nat) : ∀ r : List Value, ((r.map (en_rv b B0)).map fun v => v.category).sum = en_ct r
  | [] => rfl
  | v :: r => by simp [en_ct, en_rv_cat, ← en_ct_sum b B0 r]
section ENC
variable {p : Program} {l : Launch} {e : Env} {R : Room} {s : State} {m : MethodId} {args : Array Value} {below : List Frame} {meth : Method} {c : Code} {H : Heap} {locs : List Loc} {cells slots : Nat} {Q : State → Prop} {cc : ByteArray} {pc n : Nat} {ls : Array Slot} {own : String} {D : va_G} {aC : Nat → ClassId} {b B0 K0 : Nat} {sc : en_S} {z : en_H} {rest : List Value}
theorem en_blind (as : List Value) : FrameBlind (en_Pc D aC b B0 sc as z) := fun a U g mk q => ⟨q.1, q.2.1, q.2.2.1, va_K.moved (u := U) (U := U.calling g mk a) (Vm.Alike.refl U.vm) q.2.2.2.1, va_X.moved (u := U) (U := U.calling g mk a) (Vm.Alike.refl U.vm) q.2.2.2.2.1, q.2.2.2.2.2.1, q.2.2.2.2.2.2.calls⟩
theorem en_pre (X : en_Cx p c cc n s m args own D aC b B0 K0 sc) (hS : en_St D aC b B0 s z H locs) (hH : H.size = B0 + z.length) (U : State) (hU : U.heap = H) (hW : s.WarmedH U.vm) : en_Wd D aC b B0 sc z U := by
  obtain ⟨hx, hb, hml, hown, hts, hK, hX, hbl, hsz, hT⟩ := X
  refine ⟨by rw [hU]; exact hH, by rw [hU]; exact hS.1, va_K.moved hW.alike hK, ?_, hbl, hT.warm hW⟩
  rw [hU]
  exact va_X.moved hW.alike (va_X.kept hX (hS.2.2.1 b (by omega) (Nat.not_le.mpr hbl)))
theorem en_call {mc ms : Nat} {st0 : List Value} {r : Option Value} {zf : en_H} {a : Array Value} (hr : va_Run p l e R s m args below meth c H locs cells slots mc ms (F0 m pc ls st0) rest (en_Qc D aC b B0 sc r zf a) (fun q => B0 ≤ q)) (hS : en_St D aC b B0 s z H locs)
    (kk : ∀ H' locs', en_St D aC b B0 s zf H' locs' → W p l e R s m args below meth c H' locs' (cells + mc) (slots + ms) Q (F0 m (pc + 3) ls ((r.map (en_rv b B0)).toList ++ rest))) : W p l e R s m args below meth c H locs cells slots Q (F0 m pc ls st0) := by
  intro T hT X
  obtain ⟨v, st₀, t, T', L, h0, X', hL, e1, e2, ⟨hv, hb, hz, hk⟩, st⟩ := hr T hT X
  have hv2 : v = r.map (en_rv b B0) := by injection hv
  subst hv2
  rw [h0] at hz hk
  obtain ⟨t2, a1, b1⟩ := kk T'.heap (locs ++ L) ⟨by rw [e1]; exact hb.2.1, Nat.le_trans hS.2.1 (by rw [e1]; exact hz), fun q h1 h2 => by rw [e1, hk q (Nat.lt_of_lt_of_le h1 hS.2.1) h2]; exact hS.2.2.1 q h1 h2, fun q hq => by
      rcases List.mem_append.mp hq with h | h
      · exact hS.2.2.2 q h
      · exact hL q h⟩ T' rfl X'
  exact ⟨t2, st t2 a1, b1⟩
/-- a call's frame, in the caller's words -/
abbrev en_Rm (R : Room) (d : Nat) : Prop := d + 1 ≤ R.frames ∧ 80 * (d + 1) ≤ R.locals
theorem en_room {d k : Nat} {z zf : en_H} (h : en_Rm R d) (hk : k ≤ 60) : (en_rm d z zf).frames + 1 ≤ R.frames ∧ 8 + (k + 11) + (en_rm d z zf).locals ≤ R.locals := ⟨h.1, by show 8 + (k + 11) + 80 * d ≤ _; have := h.2; omega⟩
theorem en_w_cs (X : en_Cx p c cc n s m args own D aC b B0 K0 sc) (hS : en_St D aC b B0 s z H locs) (hk : z.length = K0 + cells) (hls : ls.size = n) {d x k q mi : Nat} {cs : List (Nat × Nat)} (hcs : cs = [(q, mi)]) (hlk : en_LS own x k cs) {as st r : List Value} {v : Option Value} {zf : en_H} (hC : en_Ct l D aC b B0 sc d mi as z v zf) (hsp : en_sp k [] st = some (as, r)) (hct : en_ct r ≤ 8) (hR : en_Rm R d) (hf : cells + (zf.length - z.length) ≤ R.cells ∧ slots + (en_sz zf - en_sz z) ≤ R.slots) (hd : decode cc pc = .ok (.invokestatic x, 3))
    (kk : ∀ H' locs', en_St D aC b B0 s zf H' locs' → W p l e R s m args below meth c H' locs' (cells + (zf.length - z.length)) (slots + (en_sz zf - en_sz z)) Q (F0 m (pc + 3) ls ((v.map (en_rv b B0)).toList ++ r.map (en_rv b B0)))) : W p l e R s m args below meth c H locs cells slots Q (F0 m pc ls (st.map (en_rv b B0))) := by
  obtain ⟨q', mi', y, cy, ny, ry, h1, ⟨⟨P, h2⟩, h3, h4, h5, h6⟩, h7, h8, h9⟩ := hlk
  rw [hcs] at h1
  cases h1
  have hM := hC.2.2 y cy ny ry P h2
  have X0 := X
  obtain ⟨hx, hb, hml, hown, hts, hK, hX, hbl, hsz, hT⟩ := X
  obtain ⟨hlen, hst⟩ := en_sp_0 hsp (en_rv b B0)
  rw [hst]
  refine en_sized (fun hle => ?_)
  have hH := en_St.size hS hsz hk hle
  have hpre : PreS s H (en_Pc D aC b B0 sc as z) (as.map (en_rv b B0)) := ⟨en_blind as, fun U hU hW => ⟨rfl, en_pre X0 hS hH U hU hW⟩⟩
  rcases h9 with h9 | ⟨host, h9⟩
  · refine en_call (va_runS (own := own) ⟨hx, hb, hml, hown, hts⟩ hM (va_cwS k hts (en_good ?_) rfl rfl rfl ⟨h5.1, h5.2, h7⟩ (en_room hR h6)) hpre rfl (by rw [List.length_map]; exact hlen) hls rfl (lv_room (by rw [en_ct_sum]; exact hct)) hd hf) hS kk
    intro w hw
    simp only [va_wsS, List.mem_append, List.mem_cons, List.not_mem_nil, or_false] at hw
    rcases hw with (rfl | rfl | rfl) | (rfl | hw) <;> assumption
  · exact en_call (va_runSN (own := own) ⟨hx, hb, hml, hown, hts⟩ hM ⟨va_cnB k hts (en_good (en_good1 h3)) rfl rfl rfl (hT.1 _ h9).2 (hts _ h4) ⟨h5.1, h5.2, h7⟩ (en_room hR h6), hts _ h8, trivial⟩ hpre rfl (by rw [List.length_map]; exact hlen) hls rfl (lv_room (by rw [en_ct_sum]; exact hct)) hd hf) hS kk
theorem en_w_ci (X : en_Cx p c cc n s m args own D aC b B0 K0 sc) (hS : en_St D aC b B0 s z H locs) (hk : z.length = K0 + cells) (hls : ls.size = n) {d x k a ci mi : Nat} {fs : List Value} {cs : List (Nat × Nat)} (hlk : en_LI own x k cs) (hq : (ci, mi) ∈ cs) (hz : en_nt z a = some (.inr (ci, fs))) {as st r : List Value} {v : Option Value} {zf : en_H} (hC : en_Ct l D aC b B0 sc d mi (.ref (a + 1) :: as) z v zf) (hsp : en_sp k [] st = some (as, .ref (a + 1) :: r)) (hct : en_ct r ≤ 8) (hR : en_Rm R d) (hf : cells + (zf.length - z.length) ≤ R.cells ∧ slots + (en_sz zf - en_sz z) ≤ R.slots) (hd : decode cc pc = .ok (.invokespecial x, 3))
    (kk : ∀ H' locs', en_St D aC b B0 s zf H' locs' → W p l e R s m args below meth c H' locs' (cells + (zf.length - z.length)) (slots + (en_sz zf - en_sz z)) Q (F0 m (pc + 3) ls ((v.map (en_rv b B0)).toList ++ r.map (en_rv b B0)))) : W p l e R s m args below meth c H locs cells slots Q (F0 m pc ls (st.map (en_rv b B0))) := by
  obtain ⟨y, cy, ny, h1, h7, h8, h9, h10⟩ := hlk
  obtain ⟨⟨P, h2⟩, h3, h4, h5, h6⟩ := h1 _ hq
  have hM := hC.2.2 y cy ny none P h2
  have X0 := X
  obtain ⟨hx, hb, hml, hown, hts, hK, hX, hbl, hsz, hT⟩ := X
  obtain ⟨hlen, hst⟩ := en_sp_0 hsp (en_rv b B0)
  rw [hst]
  refine en_sized (fun hle => ?_)
  have hH := en_St.size hS hsz hk hle
  have hpre : PreS s H (en_Pc D aC b B0 sc (.ref (a + 1) :: as) z) (.ref (B0 + a) :: as.map (en_rv b B0)) := ⟨en_blind _, fun U hU hW => ⟨rfl, en_pre X0 hS hH U hU hW⟩⟩
  exact en_call (va_runI (own := own) ⟨hx, hb, hml, hown, hts⟩ hM (cwI k hts (en_good (en_good1 h3)) rfl rfl rfl (hts _ h4) (hts _ h10) (hts _ h8) h9 ⟨h5.1, h5.2, h7⟩ (en_room hR h6)) hpre rfl (by rw [List.length_map]; exact hlen) hls rfl (lv_room (by rw [en_ct_sum]; exact hct)) hd hf) hS kk
theorem en_w_cv (X : en_Cx p c cc n s m args own D aC b B0 K0 sc) (hS : en_St D aC b B0 s z H locs) (hk : z.length = K0 + cells) (hls : ls.size = n) {d x k a ci mi : Nat} {fs : List Value} {cs : List (Nat × Nat)} (hlk : en_LV own x k cs) (hq : (ci, mi) ∈ cs) (hz : en_nt z a = some (.inr (ci, fs))) {as st r : List Value} {v : Option Value} {zf : en_H} (hC : en_Ct l D aC b B0 sc d mi (.ref (a + 1) :: as) z v zf) (hsp : en_sp k [] st = some (as, .ref (a + 1) :: r)) (hct : en_ct r ≤ 8) (hR : en_Rm R d) (hf : cells + (zf.length - z.length) ≤ R.cells ∧ slots + (en_sz zf - en_sz z) ≤ R.slots) (hd : decode cc pc = .ok (.invokevirtual x, 3))
    (kk : ∀ H' locs', en_St D aC b B0 s zf H' locs' → W p l e R s m args below meth c H' locs' (cells + (zf.length - z.length)) (slots + (en_sz zf - en_sz z)) Q (F0 m (pc + 3) ls ((v.map (en_rv b B0)).toList ++ r.map (en_rv b B0)))) : W p l e R s m args below meth c H locs cells slots Q (F0 m pc ls (st.map (en_rv b B0))) := by
  obtain ⟨C, T, N, xm, y, cy, ny, ry, owner, h1, ⟨⟨P, h2⟩, h3, h4, h5, h6⟩, h7, h8, h9, h10, h11⟩ := hlk _ hq
  have hM := hC.2.2 y cy ny ry P h2
  have X0 := X
  obtain ⟨hx, hb, hml, hown, hts, hK, hX, hbl, hsz, hT⟩ := X
  obtain ⟨hlen, hst⟩ := en_sp_0 hsp (en_rv b B0)
  rw [hst]
  refine en_sized (fun hle => ?_)
  have hH := en_St.size hS hsz hk hle
  have hrec := va_recv hK hS.1 h1 (en_rw_at (aC := aC) (b := b) (B0 := B0) hz)
  have hpre : PreV s H C (B0 + a) (en_Pc D aC b B0 sc (.ref (a + 1) :: as) z) (as.map (en_rv b B0)) := ⟨en_blind _, hrec, fun U hU hW => ⟨rfl, en_pre X0 hS hH U hU hW⟩⟩
  rcases h11 with ⟨rfl, h11⟩ | ⟨h11, h12, h13⟩
  · refine en_call (va_runV (own := own) ⟨hx, hb, hml, hown, hts⟩ hM (cwV k hts (en_good ?_) rfl rfl rfl ⟨h11, h5.1, h5.2, h7⟩ (en_room hR h6)) hpre rfl (by rw [List.length_map]; exact hlen) hls rfl (lv_room (by rw [en_ct_sum]; exact hct)) hd hf) hS kk
    intro w hw
    simp only [wsV, List.mem_append, List.mem_cons, List.not_mem_nil, or_false] at hw
    rw [h11] at h4
    rcases hw with (rfl | rfl | rfl | rfl) | (rfl | hw) <;> assumption
  · have hU : ∀ w ∈ va_wsU own x C owner xm y (Cond.code y cy ny ry :: en_tb), w ∈ en_tb := by
      intro w hw
      simp only [va_wsU, List.mem_append, List.mem_cons, List.not_mem_nil, or_false] at hw
      rcases hw with (rfl | rfl | rfl | rfl | rfl) | (rfl | hw) <;> assumption
    have hcu : va_CU R s args own C owner x xm y cy ny ry (Cond.code y cy ny ry :: en_tb) (en_rm d z zf) (zf.length - z.length) (en_sz zf - en_sz z) k := by
      rcases h13 with h13 | ⟨b0, m0, r0, h13, h14⟩ | h13
      · exact va_cwU k hts (en_good hU) rfl rfl rfl h13 ⟨h12.1, h12.2, h7⟩ (en_room hR h6)
      · refine va_cwO k hts (en_good ?_) rfl rfl rfl h13 ⟨h12.1, h12.2, h7⟩ (en_room hR h6)
        intro w hw
        simp only [va_wsO, List.mem_append, List.mem_cons, List.not_mem_nil, or_false] at hw
        rcases hw with (rfl | rfl | rfl | rfl | rfl | rfl) | (rfl | hw) <;> assumption
      · exact va_cwA k hts (en_good hU) rfl rfl rfl (hT.1 _ h13).2 ⟨h12.1, h12.2, h7⟩ (en_room hR h6)
    exact en_call (va_runU (own := own) ⟨hx, hb, hml, hown, hts⟩ hM hcu hpre rfl (by rw [List.length_map]; exact hlen) hls rfl (lv_room (by rw [en_ct_sum]; exact hct)) hd hf) hS kk
end ENC
/-- super.m(..), where the class above has it from further above -/
theorem en_callSU {p : Program} {l : Launch} {e : Env} {R : Room} {s : State} {m : MethodId} {args : Array Value} {below : List Frame} {meth : Method} {c : Code} {T : State} {locs : List Loc} {cells slots : Nat} (X : Stand p l e R s m args below meth c T locs cells slots) (hexec : p.tables.exec = Jvm.exec) {own owner : String} {index : Nat} {x : MethodName} {bytes : ByteArray} {maxL : Nat} {ret : Option FieldType}
    (hown : s.vm.findClass own = some m.cls) (hlink : (Cond.methodLink own index x).before args s = true) (hsame : (Cond.sameMethod x.cls owner x.name x.desc).before args s = true) (hsup : (Cond.superclass own x.cls).before args s = true) (hup : x.cls = owner ∨ (Cond.superclass x.cls owner).before args s = true)
    (hinst : (Cond.instanceMethod ⟨owner, x.name, x.desc⟩).before args s = true) (hcode : (Cond.code ⟨owner, x.name, x.desc⟩ bytes maxL ret).before args s = true) (hno : x.name ≠ "<init>")
    {W : Nat} {Pre : Pt → Array Value → Prop} {Post : Pt → Array Value → Option Value → Pt → Prop} (hK : Back l R p e below s args ⟨owner, x.name, x.desc⟩ 3 W Pre Post)
    {b : Addr} {cellB : Cell} {kB : Class} (hcell : T.heap[b]? = some cellB) (hobj : cellB.vm.isStatics = false) (hkB : s.vm.classes[cellB.cls]? = some kB)
    {g : JFrame} (hg : g.method = m) (hsize : g.locals.size = c.maxLocals) {argsL rest : List Value} (hlen : ∀ sig, parseMethodDescriptor x.desc = some sig → argsL.length = sig.parameters.length)
    (hstack : g.stack = argsL.reverse ++ .ref b :: rest) (hW : 2 * g.monitorRoom + (rest.map fun v => v.category).sum ≤ W) (hdg : decode c.code g.pc = .ok (.invokespecial index, 3))
    (hpre : ∀ vm₁, s.WarmedH vm₁ → Pre ⟨T.setVm vm₁, locs, cells, slots⟩ (Value.ref b :: argsL).toArray) :
    ∃ (v : Option Value) (vm₁ : Vm) (B : Pt), s.WarmedH vm₁ ∧ Stand p l e R s m args below meth c B.U B.locs B.cells B.slots ∧ Post ⟨T.setVm vm₁, locs, cells, slots⟩ (Value.ref b :: argsL).toArray v B ∧
      ∀ target, Steps p.tables e below (B.U.setTop { g with pc := g.pc + 3, stack := v.toList ++ rest }) target → Steps p.tables e below (T.setTop g) target := by
  obtain ⟨mk, methM, hnamed, hmethM, hstM, habM⟩ := Cond.instanceMethod_spec hinst
  obtain ⟨methM', cM, hmethM', -, -, -, -, -, -, hsigM⟩ := Cond.code_spec hnamed hcode
  cases hmethM.symm.trans hmethM'
  obtain ⟨ps, dk, kp, hps, hdk, hkp, hsuper, -, -, hnid⟩ := Cond.superclass_spec hown hsup
  have hsub : s.vm.isSubclass ps mk.cls = true := by
    have hfo : s.vm.findClass owner = some mk.cls := findClass_of_methodNamed hnamed
    rcases hup with h | h
    · have hpm : ps = mk.cls := by
        rw [h] at hps
        exact Option.some.inj (hps.symm.trans hfo)
      rw [hpm]
      simp [Vm.isSubclass, Vm.isSubclassAux]
    · obtain ⟨pp, k2, kp2, g1, g2, g3, g4, -⟩ := Cond.superclass_spec hps h
      have hpm : pp = mk.cls := Option.some.inj (g1.symm.trans hfo)
      subst hpm
      have hpos : 0 < s.vm.classes.size := by
        have := (Array.getElem?_eq_some_iff.mp g2).1
        omega
      obtain ⟨N, hN⟩ : ∃ N, s.vm.classes.size = N + 1 := ⟨s.vm.classes.size - 1, by omega⟩
      unfold Vm.isSubclass
      rw [hN]
      simp [Vm.isSubclassAux, g2, g4]
  obtain ⟨vm₁, X₁, hstep₁⟩ := X.invokespecialUp hexec hown hlink hsame hnamed hmethM hstM habM hno hdk hnid hps hsuper hsub (a := b) (cell := cellB) hcell
    (fun z h => by rw [h] at hobj; cases hobj) hkB (g := g) hg (argsL := argsL) (rest := rest) (hlen _ hsigM) hstack hdg
  obtain ⟨v, B, X', hpost, hsteps⟩ := hK m meth c ⟨T.setVm vm₁, locs, cells, slots⟩ { g with stack := rest } (.invokespecial index) mk (Value.ref b :: argsL).toArray X₁ hg hsize hdg hW (X₁.named hnamed) (hpre vm₁ X₁.warmed)
  exact ⟨v, vm₁, B, X₁.warmed, X', hpost, fun target h => hstep₁ _ (by rw [doInvoke_state]; exact hsteps.trans h)⟩
section ENS
variable {p : Program} {l : Launch} {e : Env} {R : Room} {s : State} {m : MethodId} {args : Array Value} {below : List Frame} {meth : Method} {c : Code} {H : Heap} {locs : List Loc} {cells slots : Nat} {Q : State → Prop} {cc : ByteArray} {pc n : Nat} {ls : Array Slot} {own : String} {D : va_G} {aC : Nat → ClassId} {b B0 K0 : Nat} {sc : en_S} {z : en_H} {rest : List Value}
theorem en_w_cu (X : en_Cx p c cc n s m args own D aC b B0 K0 sc) (hS : en_St D aC b B0 s z H locs) (hk : z.length = K0 + cells) (hls : ls.size = n) {d x k a ci mi : Nat} {fs : List Value} {cs : List (Nat × Nat)} (hlk : en_LU own x k cs) (hq : (ci, mi) ∈ cs) (hz : en_nt z a = some (.inr (ci, fs))) {as st r : List Value} {v : Option Value} {zf : en_H} (hC : en_Ct l D aC b B0 sc d mi (.ref (a + 1) :: as) z v zf) (hsp : en_sp k [] st = some (as, .ref (a + 1) :: r)) (hct : en_ct r ≤ 8) (hR : en_Rm R d) (hf : cells + (zf.length - z.length) ≤ R.cells ∧ slots + (en_sz zf - en_sz z) ≤ R.slots) (hd : decode cc pc = .ok (.invokespecial x, 3))
    (kk : ∀ H' locs', en_St D aC b B0 s zf H' locs' → W p l e R s m args below meth c H' locs' (cells + (zf.length - z.length)) (slots + (en_sz zf - en_sz z)) Q (F0 m (pc + 3) ls ((v.map (en_rv b B0)).toList ++ r.map (en_rv b B0)))) : W p l e R s m args below meth c H locs cells slots Q (F0 m pc ls (st.map (en_rv b B0))) := by
  obtain ⟨xm, owner, cy, ny, ry, h1, h7, h8, h9, h10, h11, h12, h13⟩ := hlk
  obtain ⟨⟨⟨P, h2⟩, h3, h4, h5, h6⟩, rr, hrr⟩ := h1 _ hq
  have hM := hC.2.2 _ cy ny ry P h2
  have X0 := X
  obtain ⟨hx, hb, hml, hown, hts, hK, hX, hbl, hsz, hT⟩ := X
  obtain ⟨hlen, hst⟩ := en_sp_0 hsp (en_rv b B0)
  rw [hst]
  refine en_sized (fun hle => ?_)
  have hH := en_St.size hS hsz hk hle
  obtain ⟨cellB, hcB, hoB, hclB⟩ := va_recv hK hS.1 hrr (en_rw_at (aC := aC) (b := b) (B0 := B0) hz)
  obtain ⟨hfc, kB, hkB, -⟩ := (hK.1 ci rr hrr).2
  have hkB : s.vm.classes[cellB.cls]? = some kB := by
    rw [Option.some.inj (hclB.symm.trans hfc)]
    exact hkB
  have hroom := en_room (z := z) (zf := zf) hR h6
  have hB : Back l R p e below s args ⟨owner, xm.name, xm.desc⟩ 3 8 (PreOf R (zf.length - z.length) (en_sz zf - en_sz z) (en_Pc D aC b B0 sc (.ref (a + 1) :: as) z)) (PostOf (en_Qc D aC b B0 sc v zf) (zf.length - z.length) (en_sz zf - en_sz z) (fun q => B0 ≤ q)) :=
    back_of (bytes := cy) (maxL := ny) (ret := ry) hM (en_blind _) rfl rfl hroom.1 hroom.2 (pay_in hts (en_good (en_good1 h3))) List.mem_cons_self (fun a' U hW => word_at hW (Or.inl (by first | rfl | simp [Cond.onTables, Cond.keeps, Cond.steady])) (hts _ h4))
  refine en_call (sc := sc) (mc := zf.length - z.length) (ms := en_sz zf - en_sz z) (r := v) (zf := zf) (a := (Value.ref (B0 + a) :: as.map (en_rv b B0)).toArray) ?_ hS kk
  intro T hT X
  obtain ⟨v', vm₁, ⟨U', l2, c2, s2⟩, hW₁, X', ⟨g', mk, t, L, e1, e2, hq, g1, hL, g2, g3⟩, st⟩ := en_callSU X hx (bytes := cy) (maxL := ny) (ret := ry) hown (hts _ h10) (hts _ h11) (hts _ h12) (h13.imp id (fun h => hts _ h)) (hts _ h8) (hts _ h3) h9 hB (b := B0 + a) (by rw [hT]; exact hcB) hoB hkB (g := F0 m pc ls ((as.map (en_rv b B0)).reverse ++ Value.ref (B0 + a) :: r.map (en_rv b B0))) rfl (hls.trans hml.symm) (argsL := as.map (en_rv b B0)) (rest := r.map (en_rv b B0)) (fun sig h => by
      have h20 : (parseMethodDescriptor xm.desc).map (fun d => d.parameters.length) = some k := h7
      rw [h] at h20
      rw [List.length_map, hlen]
      exact (Option.some.inj h20).symm) rfl (lv_room (by rw [en_ct_sum]; exact hct)) (by rw [hb]; exact hd)
    (fun vm₁ hW₁ => ⟨hf.1, hf.2, rfl, en_pre X0 hS hH (T.setVm vm₁) hT hW₁⟩)
  dsimp only [Pt.U, Pt.locs, Pt.cells, Pt.slots] at X' e1 e2 g1 g2 g3 st
  subst g1; subst g2; subst g3
  exact ⟨v', (T.setVm vm₁).calling g' mk _, t, U', L, hT, X', hL, e1, e2, hq, st⟩
end ENS
