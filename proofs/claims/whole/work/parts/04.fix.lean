/-! THE ENGINE, its first laws: an instruction goes one way whatever is behind it; the blocks' equation -/
section ENF
variable {ρ σ : Type}
theorem en_gI_nat (g : σ → Option ρ) (z : en_H) (a : Nat) (cs : List (Nat × Nat)) (k : Nat) (f : Int32 → Option σ) : (en_gI z a cs k f).bind g = en_gI z a cs k (fun x => (f x).bind g) := by
  unfold en_gI; repeat' split
  all_goals rfl
theorem en_gL_nat (g : σ → Option ρ) (z : en_H) (a : Nat) (cs : List (Nat × Nat)) (k : Nat) (f : Int64 → Option σ) : (en_gL z a cs k f).bind g = en_gL z a cs k (fun x => (f x).bind g) := by
  unfold en_gL; repeat' split
  all_goals rfl
theorem en_gA_nat (g : σ → Option ρ) (z : en_H) (a : Nat) (cs : List (Nat × Nat)) (k : Nat) (f0 : Option σ) (f : Nat → Option σ) : (en_gA z a cs k f0 f).bind g = en_gA z a cs k (f0.bind g) (fun x => (f x).bind g) := by
  unfold en_gA; repeat' split
  all_goals rfl
theorem en_pf_nat (g : σ → Option ρ) (z : en_H) (a : Nat) (cs : List (Nat × Nat)) (k : Nat) (v : Value) (f : en_H → Option σ) : (en_pf z a cs k v f).bind g = en_pf z a cs k v (fun x => (f x).bind g) := by
  unfold en_pf; repeat' split
  all_goals rfl
theorem en_aI_nat (g : σ → Option ρ) (sc : en_S) (z : en_H) (a : Nat) (i : Int32) (f : Int32 → Option σ) : (en_aI sc z a i f).bind g = en_aI sc z a i (fun x => (f x).bind g) := by
  unfold en_aI; repeat' split
  all_goals rfl
theorem en_aL_nat (g : σ → Option ρ) (z : en_H) (a : Nat) (i : Int32) (f : Int64 → Option σ) : (en_aL z a i f).bind g = en_aL z a i (fun x => (f x).bind g) := by
  unfold en_aL; repeat' split
  all_goals rfl
theorem en_aA_nat (g : σ → Option ρ) (z : en_H) (a : Nat) (i : Int32) (f0 : Option σ) (f : Nat → Option σ) : (en_aA z a i f0 f).bind g = en_aA z a i (f0.bind g) (fun x => (f x).bind g) := by
  unfold en_aA; repeat' split
  all_goals rfl
theorem en_sI_nat (g : σ → Option ρ) (z : en_H) (a : Nat) (i x : Int32) (f : en_H → Option σ) : (en_sI z a i x f).bind g = en_sI z a i x (fun x => (f x).bind g) := by
  unfold en_sI; repeat' split
  all_goals rfl
theorem en_sL_nat (g : σ → Option ρ) (z : en_H) (a : Nat) (i : Int32) (x : Int64) (f : en_H → Option σ) : (en_sL z a i x f).bind g = en_sL z a i x (fun x => (f x).bind g) := by
  unfold en_sL; repeat' split
  all_goals rfl
theorem en_sA_nat (g : σ → Option ρ) (z : en_H) (a : Nat) (i : Int32) (q : Nat) (f : en_H → Option σ) : (en_sA z a i q f).bind g = en_sA z a i q (fun x => (f x).bind g) := by
  unfold en_sA; repeat' split
  all_goals rfl
theorem en_sN_nat (g : σ → Option ρ) (z : en_H) (a : Nat) (i : Int32) (f : en_H → Option σ) : (en_sN z a i f).bind g = en_sN z a i (fun x => (f x).bind g) := by
  unfold en_sN; repeat' split
  all_goals rfl
theorem en_ln_nat (g : σ → Option ρ) (sc : en_S) (z : en_H) (a : Nat) (f : Int32 → Option σ) : (en_ln sc z a f).bind g = en_ln sc z a (fun x => (f x).bind g) := by
  unfold en_ln; repeat' split
  all_goals rfl
theorem en_sw_nat (g : σ → Option ρ) (x : Int32) (d : Option σ) (f : Nat → Option σ) : ∀ l, (en_sw x d f l).bind g = en_sw x (d.bind g) (fun j => (f j).bind g) l
  | [] => rfl
  | p :: l => by
    simp only [en_sw]
    split
    · rfl
    · exact en_sw_nat g x d f l
theorem en_vs_nat (g : σ → Option ρ) (f : Nat → Option σ) (c : Nat) : ∀ l, (en_vs f c l).bind g = en_vs (fun x => (f x).bind g) c l
  | [] => rfl
  | p :: l => by
    simp only [en_vs]
    split
    · rfl
    · exact en_vs_nat g f c l
theorem en_vt_nat (g : σ → Option ρ) (z : en_H) (b : Nat) (cs : List (Nat × Nat)) (f : Nat → Option σ) : (en_vt z b cs f).bind g = en_vt z b cs (fun x => (f x).bind g) := by
  unfold en_vt en_cc; split
  · exact en_vs_nat g f _ cs
  · rfl
theorem en_bd_nat (g : σ → Option ρ) (t : Nat) (o : Option en_R) (lv : en_L) (r : List Value) (nx : en_L → List Value → en_H → Option σ) : (en_bd t o lv r nx).bind g = en_bd t o lv r (fun a b c => (nx a b c).bind g) := by
  unfold en_bd en_bI en_bL en_bA en_bV; repeat' split
  all_goals rfl
theorem en_ite_nat (g : σ → Option ρ) {c : Prop} [Decidable c] (a b : Option σ) : (if c then a else b).bind g = if c then a.bind g else b.bind g := by
  split <;> rfl
set_option maxHeartbeats 4000000 in
theorem en_ex_nat (sc : en_S) (cal : Nat → List Value → en_H → Option en_R) (i : en_I) (lv : en_L) (st : List Value) (z : en_H) (rt : Option Value → en_H → Option ρ) (nx : en_L → List Value → en_H → Option ρ) (jp : Nat → en_L → List Value → en_H → Option ρ) :
    en_ex sc cal i lv st z rt nx jp = (en_ex sc cal i lv st z en_oR en_oN en_oJ).bind (en_di rt nx jp) := by
  obtain ⟨op, ln, k, tg, cs, cI, cL⟩ := i
  cases op
  case goto => rfl
  case new => rfl
  case ifCond c o => delta en_ex; dsimp only; split <;> (try split) <;> simp only [en_ite_nat, Option.bind_none] <;> rfl
  case if_icmp c o => delta en_ex; dsimp only; split <;> (try split) <;> simp only [en_ite_nat, Option.bind_none] <;> rfl
  case getfield => delta en_ex; dsimp only; split <;> (try split) <;> simp only [en_gI_nat, en_gL_nat, en_gA_nat, Option.bind_none] <;> rfl
  case putfield => delta en_ex; dsimp only; split <;> (try split) <;> simp only [en_ite_nat, en_pf_nat, Option.bind_none] <;> rfl
  case newarray t => delta en_ex; dsimp only; split <;> simp only [en_ite_nat, Option.bind_none] <;> cases t <;> rfl
  case invokestatic => delta en_ex; dsimp only; repeat' split
                       all_goals simp only [en_ite_nat, en_bd_nat, Option.bind_none] <;> rfl
  case invokespecial => delta en_ex; dsimp only; split <;> split <;> simp only [en_ite_nat, en_vt_nat, en_bd_nat, Option.bind_none] <;> rfl
  case invokevirtual => delta en_ex; dsimp only; split <;> simp only [en_ite_nat, en_vt_nat, en_bd_nat, Option.bind_none] <;> rfl
  case instanceof => delta en_ex; dsimp only; split <;> (try simp only [en_vt_nat, Option.bind_none]) <;> (try rfl)
                     congr; funext b; split <;> rfl
  case checkcast => delta en_ex; dsimp only; split <;> (try simp only [en_vt_nat, Option.bind_none]) <;> rfl
  case ireturn => delta en_ex; dsimp only; split <;> (try split) <;> (try simp only [en_ite_nat, Option.bind_none]) <;> rfl
  case idiv => delta en_ex; dsimp only; split <;> simp only [en_ite_nat, Option.bind_none] <;> rfl
  case irem => delta en_ex; dsimp only; split <;> simp only [en_ite_nat, Option.bind_none] <;> rfl
  case ldiv => delta en_ex; dsimp only; split <;> simp only [en_ite_nat, Option.bind_none] <;> rfl
  case lrem => delta en_ex; dsimp only; split <;> simp only [en_ite_nat, Option.bind_none] <;> rfl
  case anewarray => delta en_ex; dsimp only; split <;> simp only [en_ite_nat, Option.bind_none] <;> rfl
  case ifnull => delta en_ex; dsimp only; split <;> rfl
  case ifnonnull => delta en_ex; dsimp only; split <;> rfl
  case tableswitch => delta en_ex; dsimp only; split <;> simp only [en_sw_nat, Option.bind_none] <;> rfl
  case lookupswitch => delta en_ex; dsimp only; split <;> simp only [en_sw_nat, Option.bind_none] <;> rfl
  case lreturn => delta en_ex; dsimp only; split <;> rfl
  case areturn => delta en_ex; dsimp only; split <;> rfl
  case return_ => delta en_ex; dsimp only; split <;> rfl
  case iaload => delta en_ex; dsimp only; split <;> simp only [en_aI_nat, Option.bind_none] <;> rfl
  case laload => delta en_ex; dsimp only; split <;> simp only [en_aL_nat, Option.bind_none] <;> rfl
  case aaload => delta en_ex; dsimp only; split <;> simp only [en_aA_nat, Option.bind_none] <;> rfl
  case iastore => delta en_ex; dsimp only; split <;> simp only [en_sI_nat, Option.bind_none] <;> rfl
  case lastore => delta en_ex; dsimp only; split <;> simp only [en_sL_nat, Option.bind_none] <;> rfl
  case aastore => delta en_ex; dsimp only; split <;> simp only [en_sA_nat, en_sN_nat, Option.bind_none] <;> rfl
  case arraylength => delta en_ex; dsimp only; split <;> simp only [en_ln_nat, Option.bind_none] <;> rfl
  all_goals
    delta en_ex; dsimp only
    split <;> rfl
theorem en_rb_nat (sc : en_S) (cal : Nat → List Value → en_H → Option en_R) (rt : Option Value → en_H → Option ρ) (jp : Nat → en_L → List Value → en_H → Option ρ) (n : Nat) : ∀ (c : List en_I) (lv : en_L) (st : List Value) (z : en_H),
    en_rb sc cal rt jp n c lv st z = (en_rb sc cal en_oR en_oJ n c lv st z).bind (en_di rt (fun _ _ _ => none) jp)
  | [], lv, st, z => rfl
  | i :: c, lv, st, z => by
    simp only [en_rb]
    rw [en_ex_nat, en_ex_nat (jp := en_oJ) (rt := en_oR) (nx := en_rb sc cal en_oR en_oJ n c)]
    cases en_ex sc cal i lv st z en_oR en_oN en_oJ with
    | none => rfl
    | some o =>
      rcases o with ⟨_ | j, a, b, d⟩ | ⟨v, d⟩
      · exact en_rb_nat sc cal rt jp n c a b d
      · rfl
      · rfl
end ENF
theorem en_bN_mono (sc : en_S) (cal : Nat → List Value → en_H → Option en_R) (P : List en_B) : ∀ (n : Nat) (j : Nat) (lv : en_L) (st : List Value) (z : en_H) (r : en_R), en_bN sc cal P n j lv st z = some r → en_bN sc cal P (n + 1) j lv st z = some r
  | 0, j, lv, st, z, r, h => by simp [en_bN] at h
  | n + 1, j, lv, st, z, r, h => by
    rw [en_bN] at h ⊢
    cases hb : en_nt P j with
    | none => rw [hb] at h; cases h
    | some q =>
      obtain ⟨pc, b, c, k⟩ := q
      rw [hb] at h
      dsimp only at h ⊢
      rw [en_rb_nat] at h ⊢
      cases ho : en_rb sc cal en_oR en_oJ k c (en_mk b lv) st z with
      | none => rw [ho] at h; cases h
      | some o =>
        rw [ho] at h
        rcases o with ⟨_ | i, a, b, d⟩ | ⟨v, d⟩
        · cases h
        · exact en_bN_mono sc cal P n i a b d r h
        · exact h
theorem en_bN_le (sc : en_S) (cal : Nat → List Value → en_H → Option en_R) (P : List en_B) {n m : Nat} (hnm : n ≤ m) {j : Nat} {lv : en_L} {st : List Value} {z : en_H} {r : en_R} (h : en_bN sc cal P n j lv st z = some r) : en_bN sc cal P m j lv st z = some r := by
  induction hnm with
  | refl => exact h
  | step _ ih => exact en_bN_mono sc cal P _ j lv st z r ih
theorem en_bk_of {sc : en_S} {cal : Nat → List Value → en_H → Option en_R} {P : List en_B} {n j : Nat} {lv : en_L} {st : List Value} {z : en_H} {r : en_R} (h : en_bN sc cal P n j lv st z = some r) : en_bk sc cal P j lv st z = some r := by
  have hE : ∃ n r, en_bN sc cal P n j lv st z = some r := ⟨n, r, h⟩
  unfold en_bk
  rw [dif_pos hE]
  have h2 := Classical.choose_spec (Classical.choose_spec hE)
  have h3 := en_bN_le sc cal P (Nat.le_max_left n (Classical.choose hE)) h
  have h4 := en_bN_le sc cal P (Nat.le_max_right n (Classical.choose hE)) h2
  rw [h3] at h4
  exact h4.symm
theorem en_bk_ex {sc : en_S} {cal : Nat → List Value → en_H → Option en_R} {P : List en_B} {j : Nat} {lv : en_L} {st : List Value} {z : en_H} {r : en_R} (h : en_bk sc cal P j lv st z = some r) : ∃ n, en_bN sc cal P n j lv st z = some r := by
  unfold en_bk at h
  by_cases hE : ∃ n r, en_bN sc cal P n j lv st z = some r
  · rw [dif_pos hE] at h
    have h2 := Classical.choose_spec (Classical.choose_spec hE)
    exact ⟨_, h2.trans h⟩
  · rw [dif_neg hE] at h
    cases h
/-- the blocks' equation -/
theorem en_bk_eq (sc : en_S) (cal : Nat → List Value → en_H → Option en_R) (P : List en_B) (j : Nat) (lv : en_L) (st : List Value) (z : en_H) :
    en_bk sc cal P j lv st z = (match en_nt P j with
      | some (_, b, c, k) => en_rb sc cal en_rt (en_bk sc cal P) k c (en_mk b lv) st z
      | none => none) := by
  have key : ∀ r, en_bk sc cal P j lv st z = some r ↔ (match en_nt P j with
      | some (_, b, c, k) => en_rb sc cal en_rt (en_bk sc cal P) k c (en_mk b lv) st z
      | none => none) = some r := by
    intro r
    constructor
    · intro h
      obtain ⟨n, hn⟩ := en_bk_ex h
      cases n with
      | zero => simp [en_bN] at hn
      | succ n =>
        rw [en_bN] at hn
        cases hb : en_nt P j with
        | none => rw [hb] at hn; cases hn
        | some q =>
          obtain ⟨pc, b, c, k⟩ := q
          rw [hb] at hn
          dsimp only at hn ⊢
          rw [en_rb_nat] at hn ⊢
          cases ho : en_rb sc cal en_oR en_oJ k c (en_mk b lv) st z with
          | none => rw [ho] at hn; cases hn
          | some o =>
            rw [ho] at hn
            rcases o with ⟨_ | i, a, b, d⟩ | ⟨v, d⟩
            · cases hn
            · exact en_bk_of (n := n) hn
            · exact hn
    · intro h
      cases hb : en_nt P j with
      | none => rw [hb] at h; cases h
      | some q =>
        obtain ⟨pc, b, c, k⟩ := q
        rw [hb] at h
        dsimp only at h
        rw [en_rb_nat] at h
        cases ho : en_rb sc cal en_oR en_oJ k c (en_mk b lv) st z with
        | none => rw [ho] at h; cases h
        | some o =>
          rw [ho] at h
          rcases o with ⟨_ | i, a, b', d⟩ | ⟨v, d⟩
          · cases h
          · obtain ⟨n, hn⟩ := en_bk_ex (r := r) h
            refine en_bk_of (n := n + 1) ?_
            rw [en_bN, hb]
            dsimp only
            rw [en_rb_nat, ho]
            exact hn
          · refine en_bk_of (n := 1) ?_
            rw [en_bN, hb]
            dsimp only
            rw [en_rb_nat, ho]
            exact h
  cases hL : en_bk sc cal P j lv st z with
  | some r => exact ((key r).mp hL).symm
  | none =>
    cases hR : (match en_nt P j with
      | some (_, b, c, k) => en_rb sc cal en_rt (en_bk sc cal P) k c (en_mk b lv) st z
      | none => none) with
    | none => rfl
    | some r => rw [(key r).mpr hR] at hL; cases hL
theorem en_mk_mk : ∀ (b : List Bool) (l : en_L), en_mk b (en_mk b l) = en_mk b l
  | _, [] => by simp [en_mk]
  | true :: b, a :: l => by simp [en_mk, en_mk_mk b l]
  | false :: b, a :: l => by simp [en_mk, en_mk_mk b l]
  | [], a :: l => by simp [en_mk, en_mk_mk [] l]
/-- at a block: the locals that live there -/
noncomputable def en_at (sc : en_S) (cal : Nat → List Value → en_H → Option en_R) (P : List en_B) (j : Nat) (lv : en_L) (st : List Value) (z : en_H) : Option en_R := match en_nt P j with
  | some (_, b, _, _) => en_bk sc cal P j (en_mk b lv) st z
  | none => none
theorem en_at_eq (sc : en_S) (cal : Nat → List Value → en_H → Option en_R) (P : List en_B) (j : Nat) (lv : en_L) (st : List Value) (z : en_H) : en_bk sc cal P j lv st z = en_at sc cal P j lv st z := by
  unfold en_at
  cases hb : en_nt P j with
  | none => rw [en_bk_eq, hb]
  | some q =>
    obtain ⟨pc, b, c, k⟩ := q
    dsimp only
    rw [en_bk_eq, hb, en_bk_eq sc cal P j (en_mk b lv), hb]
    dsimp only
    rw [en_mk_mk]
/-- some blocks unfolded: all but those in 'stop' -/
noncomputable def en_un (sc : en_S) (cal : Nat → List Value → en_H → Option en_R) (P : List en_B) (stop : List Nat) : Nat → Nat → en_L → List Value → en_H → Option en_R
  | 0, j, lv, st, z => en_at sc cal P j lv st z
  | n + 1, j, lv, st, z => match en_nt P j with
    | some (_, b, c, k) => en_rb sc cal en_rt (fun j lv st z => match stop.elem j with
      | true => en_at sc cal P j lv st z
      | false => en_un sc cal P stop n j lv st z) k c (en_mk b lv) st z
    | none => none
theorem en_un_eq (sc : en_S) (cal : Nat → List Value → en_H → Option en_R) (P : List en_B) (stop : List Nat) : ∀ (n j : Nat) (lv : en_L) (st : List Value) (z : en_H), en_bk sc cal P j lv st z = en_un sc cal P stop n j lv st z
  | 0, j, lv, st, z => en_at_eq sc cal P j lv st z
  | n + 1, j, lv, st, z => by
    rw [en_bk_eq, en_un]
    cases hb : en_nt P j with
    | none => rfl
    | some q =>
      obtain ⟨pc, b, c, k⟩ := q
      dsimp only
      congr
      funext j lv st z
      split
      · exact en_at_eq sc cal P j lv st z
      · exact en_un_eq sc cal P stop n j lv st z
/-- a method: its name, its code, its locals, what it answers, its blocks -/
abbrev en_M : Type := MethodName × ByteArray × Nat × Option FieldType × List en_B
def en_en : Nat → List Value → en_L
  | n, [] => List.replicate n none
  | n + 2, .long x :: r => some (.long x) :: none :: en_en n r
  | n + 2, .double x :: r => some (.double x) :: none :: en_en n r
  | n + 1, v :: r => some v :: en_en n r
  | 0, _ :: _ => []
noncomputable def en_cl (sc : en_S) (mt : List en_M) : Nat → Nat → List Value → en_H → Option en_R
  | 0, _, _, _ => none
  | d + 1, mi, as, z => match en_nt mt mi with
    | some (_, _, n, _, P) => if en_ct as ≤ n then en_bk sc (en_cl sc mt d) P 0 (en_en n as) [] z else none
    | none => none
