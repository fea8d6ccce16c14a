/-! THE CLAIM OUT OF ONE WALK OF THE LAW'S BODY. Your part is whole_start (and what it stands on); all else here is the same for every law, but numbers. -/
def R_law : String := "EvenStepsLaw"
def lw_P (b : Addr) (xs : List Int32) (args : Array Value) (s : State) : Prop := args = #[.ref b] ∧ s.IntsAt b xs ∧ xs.length ≤ 3072 ∧ (Jvm.Cond.and given_1 narrow_1).before args s = true
def lw_Q (_ : Array Value) (s : State) (o : Outcome) (t : State) : Prop := o = .returned (some (.int 1)) ∧ Framed s o t [] 600000 7302250
def lw_Z (below : List Frame) (a : Array Value) (s : State) : State → Prop := fun t => ∃ o, t.status = .running ∧ Ended t below o ∧ lw_Q a s o t
/-- the law's own end, with 1 on the stack, nothing written that was there before, its room as the claim has it -/
theorem lw_ret {p : Program} {l : Launch} {e : Env} {s : State} {m : MethodId} {below : List Frame} {meth : Method} {c : Code} {b : Nat} (hx : p.tables.exec = Jvm.exec) (hb : c.code = code) (hr : meth.sig.returnType = ret) (hlocks : meth.locks = false) {pc : Nat} {H : Heap} {ls : Array Slot} (hdg : decode code pc = .ok (.ireturn, 1)) : W p l e room_1 s m #[Value.ref b] below meth c H [] 600000 7302250 (lw_Z below #[Value.ref b] s) (F0 m pc ls [.int 1]) := by
  intro T hT X
  obtain ⟨fs, hret, hrun, hended, hW, hframe⟩ := X.leave (v := some (.int 1)) (hlocks := hlocks) (fun h => by rw [hr] at h; cases h)
  have hmeth' : T.vm.method? m = some meth := X.method'
  refine ⟨T.setFrames fs, ?_, .returned (some (.int 1)), hrun, hended, rfl, ⟨_, rfl⟩, hW, hframe⟩
  jvm_step X.here [X.here.top, hx, hb, hdg, hmeth', hr, ret, narrow_b1]
  (try refine ⟨rfl, ?_⟩); (try refine ⟨rfl, ?_⟩)
  first | (intro acts; rw [hret _ acts rfl rfl rfl]) | rw [hret _ _ rfl rfl rfl]
  exact Steps.refl _
/-- what holds at the law's entry: the machine, the code, the tables' words (any of lw_tbl by 'hts w (by decide +kernel)'), the script of L ints xs at the cell b, what the Statement gives of the start (any of its parts by flat_of_before) -/
def lw_At (p : Program) (s : State) (m : MethodId) (meth : Method) (c : Code) (b L : Nat) (xs : Nat → Int32) : Prop :=
  p.tables.exec = Jvm.exec ∧ c.code = code ∧ meth.sig.returnType = ret ∧ c.maxLocals = 4 ∧ s.vm.findClass R_law = some m.cls ∧ (∀ w ∈ lw_tbl, w.before #[Value.ref b] s = true) ∧ va_X b L xs s s.heap ∧ b < s.heap.size ∧ meth.locks = false ∧ (Jvm.Cond.and given_1 narrow_1).before #[Value.ref b] s = true

/-- what the evaluator must answer of the law: true, within the room -/
def en_Law : Prop := ∀ (L : Nat) (xs : Nat → Int32), L ≤ 3072 → ∃ zf : en_H, f_L_law (L, xs) 61 0 [] = some (some (.int 1), zf) ∧ zf.length ≤ 600000 ∧ en_sz zf ≤ 7302250
theorem en_nw_tbl : ∀ w ∈ en_nwl, w ∈ lw_tbl ∧ en_nk w = true ∧ w.onTables = true := by decide +kernel
theorem en_ao_tbl : ∀ C ∈ en_aol, Cond.arrayOver (.object C) ∈ lw_tbl := by decide +kernel
theorem en_ac0 : Cond.arrayClass .int ∈ lw_tbl := by decide +kernel
theorem en_ac1 : Cond.arrayClass .long ∈ lw_tbl := by decide +kernel
set_option maxRecDepth 100000 in
theorem en_nc_tbl : ∀ q ∈ en_ncl, Cond.not (.castable q.1 q.2) ∈ flatC (Jvm.Cond.and given_1 narrow_1) := by decide +kernel
theorem en_arr {s : State} {cA : ClassId} {kA : Class} {comp : ClassId} {ty : FieldType} (h1 : s.vm.classes[cA]? = some kA) (h2 : kA.kind = .array comp ty) : ArrOfT s cA ty := fun _ _ => ⟨(fun _ h => by cases h), kA, h1, comp, h2⟩
set_option maxHeartbeats 4000000 in
set_option maxRecDepth 100000 in
theorem whole_open (hlaw : en_Law) {p : Program} {e : Env} {s : State} {m : MethodId} {below : List Frame} {meth : Method} {c : Code} (l : Launch) {b L : Nat} {xs : Nat → Int32} (hL : L ≤ 3072) (C0 : lw_At p s m meth c b L xs) : W p l e room_1 s m #[Value.ref b] below meth c s.heap [] 0 0 (lw_Z below #[Value.ref b] s) (entryFrame m ([Value.ref b] : List Value).toArray 4) := by
  obtain ⟨hx, hb, hr, hml, hown, hts, hX, hbl, hlocks, hgv⟩ := C0
  have hts2 : ∀ w ∈ en_tb, w.before #[Value.ref b] s = true := fun w hw => hts w (List.mem_filter.mp hw).1
  have hs := flat_of_before _ hgv
  -- the classes
  have hkn : ∀ (ci : Nat) (q : vw_C), en_cs[ci]? = some q → ∃ (cC : ClassId) (iS : Nat → Nat), u_Kn s q.1 q.2.1 q.2.2 cC iS := by
    intro ci q hq
    obtain ⟨ty, f1, f2, f3, f4, f5, f6, f7⟩ := en_cok ci q hq
    exact u_known hts2 f1 (hts2 _ f6)
  have hkn2 : ∀ ci : Nat, ∃ w : ClassId × (Nat → Nat), ∀ q : vw_C, en_cs[ci]? = some q → u_Kn s q.1 q.2.1 q.2.2 w.1 w.2 := by
    intro ci
    cases hq : en_cs[ci]? with
    | none => exact ⟨(0, fun _ => 0), fun q h => by cases h⟩
    | some q =>
      obtain ⟨cC, iS, h⟩ := hkn ci q hq
      exact ⟨(cC, iS), fun q' h' => by cases h'; exact h⟩
  let D : va_G := (fun ci => (Classical.choose (hkn2 ci)).1, fun ci => (Classical.choose (hkn2 ci)).2)
  have hD : ∀ (ci : Nat) (q : vw_C), en_cs[ci]? = some q → u_Kn s q.1 q.2.1 q.2.2 (D.1 ci) (D.2 ci) := fun ci q hq => Classical.choose_spec (hkn2 ci) q hq
  -- the rows
  obtain ⟨c0, k0, p0, a1, a2, a3⟩ := Cond.arrayClass_spec (hts _ en_ac0)
  obtain ⟨c1, k1, p1, b1, b2, b3⟩ := Cond.arrayClass_spec (hts _ en_ac1)
  obtain ⟨p2, c2, k2, d1, -, d2, d3, d4⟩ := Cond.arrayOver_spec (hts _ (en_ao_tbl (en_el 0) (by decide +kernel)))
  obtain ⟨p3, c3, k3, e1, -, e2, e3, e4⟩ := Cond.arrayOver_spec (hts _ (en_ao_tbl (en_el 1) (by decide +kernel)))
  obtain ⟨p4, c4, k4, f1, -, f2, f3, f4⟩ := Cond.arrayOver_spec (hts _ (en_ao_tbl (en_el 2) (by decide +kernel)))
  let aC : Nat → ClassId := fun t => if t = 0 then c0 else if t = 1 then c1 else if t = 2 then c2 else if t = 3 then c3 else c4
  have hK : va_K D en_cs (en_ty aC) s := by
    refine ⟨hD, fun k q hq => ?_⟩
    match k, hq with
    | 0, hq => cases hq; exact ⟨en_arr a2 a3, a1⟩
    | 1, hq => cases hq; exact ⟨en_arr b2 b3, b1⟩
    | 2, hq => cases hq; exact ⟨en_arr d2 d3, k2, p2, d2, d3, d1, d4⟩
    | 3, hq => cases hq; exact ⟨en_arr e2 e3, k3, p3, e2, e3, e1, e4⟩
    | 4, hq => cases hq; exact ⟨en_arr f2 f3, k4, p4, f2, f3, f1, f4⟩
    | k + 5, hq => cases hq
  have hTX : en_TX en_nwl en_aol en_ncl s := ⟨fun w hw => ⟨(en_nw_tbl w hw).2.1, va_Nw.of (en_nw_tbl w hw).2.2 (hts w (en_nw_tbl w hw).1)⟩, fun C hC => va_AO.of (hts _ (en_ao_tbl C hC)), fun q hq => va_Nc.of (hs _ (en_nc_tbl q hq))⟩
  have X : en_Cx p c code 4 s m #[Value.ref b] "EvenStepsLaw" D aC b s.heap.size 0 (L, xs) := ⟨hx, hb, hml, hown, hts2, hK, hX, hbl, rfl, hTX⟩
  obtain ⟨zf, h1, h2, h3⟩ := hlaw L xs hL
  have hmt : en_nt en_mt 220 = some (⟨"EvenStepsLaw", "law", "([I)Z"⟩, code, 4, some .boolean, p_L_law) := rfl
  have h1 : en_bk (L, xs) (en_cl (L, xs) en_mt 60) p_L_law 0 (en_en 4 [.ref 0]) [] [] = some (some (.int 1), zf) := h1
  obtain ⟨k, hk⟩ := en_bk_ex h1
  obtain ⟨ok1, ok2, ok3⟩ := en_okM _ (en_nt_mem hmt)
  simp only [en_ckM, Bool.and_eq_true, decide_eq_true_eq] at ok1
  have hP : va_P D en_cs (en_rw aC b s.heap.size []) s.heap := fun k q h => by simp [en_rw] at h
  have hlo := en_lo_en b s.heap.size (n := 4) (as := [.ref 0]) (by decide)
  rw [lg_entry_eq]
  have key := en_w_bN (Q := lw_Z below #[Value.ref b] s) (p := p) (l := l) (e := e) (R := room_1) (below := below) (meth := meth) (S0 := 0) (rt := some .boolean) X (d := 60) (by decide) (fun mi as z r zf h => en_snd l D aC b s.heap.size (L, xs) 60 mi as z r zf h) (ini := false) (fun h => by cases h) ok1.2 ok2 (r := some (.int 1)) (zf := zf) (by show zf.length ≤ 0 + 600000; omega) (by show en_sz zf ≤ 0 + 7302250; omega) ?_ k 0 (en_en 4 [.ref 0]) [] [] hk s.heap [] _ 0 0 ⟨hP, va_S.rf⟩ hlo rfl rfl
  · exact key
  · intro op pc hd hrok H locs ls cells slots hS hc1 hc2
    refine va_forget (fun q hq => hS.2.2.2 q hq) ?_
    refine W.widen (k := 600000) (n := 7302250) (by omega) (by omega) ?_
    rcases hrok with ⟨rfl, x, h, -⟩ | ⟨-, h, -⟩ | ⟨-, h, -⟩ | ⟨-, h, -⟩
    · exact lw_ret hx hb hr hlocks hd
    · cases h
    · cases h
    · cases h
