/-! THE ENGINE IS SOUND, third part: what is asked of the tables -/
/-- what is known of a made object's own class -/
def en_CF (ci : Nat) (q : vw_C) (ty : Nat → FieldType) : Prop := (∀ w ∈ u_ws q.1 q.2.1 q.2.2, w ∈ en_tb) ∧ (∀ k, k < q.2.2 → parseFieldDescriptor (q.2.1 k).2.2.1 = some (ty k)) ∧ (∀ a, a < q.2.2 → ∀ b, b < q.2.2 → a ≠ b → (q.2.1 a).2.1 ≠ (q.2.1 b).2.1) ∧ (∀ j, j < q.2.2 → defaultValue (ty j) = vp_V (en_df ci) j) ∧ (en_df ci).length = q.2.2 ∧ Cond.instantiable q.1 q.2.2 ∈ en_tb ∧ Cond.initialized q.1 ∈ en_tb
/-- the pc of a block -/
def en_pc (P : List en_B) (j : Nat) : Nat := match en_nt P j with
  | some q => q.1
  | none => 0
def en_ckJ (P : List en_B) (pc : Nat) (off : Int) (j : Nat) : Bool := decide (j < P.length) && decide ((pc : Int) + off = (en_pc P j : Int))
/-- a switch: places 0, 1, .. and their blocks -/
def en_ckT (P : List en_B) (pc : Nat) : Nat → List Int → List (Nat × Nat) → Bool
  | _, [], [] => true
  | n, o :: os, q :: qs => q.1 == n && (en_ckJ P pc o q.2 && en_ckT P pc (n + 1) os qs)
  | _, _, _ => false
def en_ckL (P : List en_B) (pc : Nat) : List (Int × Int) → List (Nat × Nat) → Bool
  | [], [] => true
  | o :: os, q :: qs => decide (o.1 = (q.1 : Int)) && (decide (q.1 < 2147483648) && (en_ckJ P pc o.2 q.2 && en_ckL P pc os qs))
  | _, _ => false
def en_isO : Option FieldType → Bool
  | some (.object _) => true
  | some (.array _) => true
  | _ => false
/-- the numbers of an instruction are as they should be -/
def en_ckI (n : Nat) (rt : Option FieldType) (P : List en_B) (pc : Nat) (i : en_I) : Bool := match i.1 with
  | .goto o => i.2.1 == 3 && en_ckJ P pc o i.2.2.1
  | .ifCond _ o => i.2.1 == 3 && en_ckJ P pc o i.2.2.1
  | .if_icmp _ o => i.2.1 == 3 && en_ckJ P pc o i.2.2.1
  | .ifnull o => i.2.1 == 3 && en_ckJ P pc o i.2.2.1
  | .ifnonnull o => i.2.1 == 3 && en_ckJ P pc o i.2.2.1
  | .tableswitch d lo hi os => en_ckJ P pc d i.2.2.1 && (decide (lo = 0) && (decide (hi + 1 = (os.size : Int)) && (decide (os.size < 1000) && en_ckT P pc 0 os.toList i.2.2.2.2.1)))
  | .lookupswitch d os => en_ckJ P pc d i.2.2.1 && ((os.toList.zip (os.toList.drop 1)).all (fun (a, next) => a.1 < next.1) && en_ckL P pc os.toList i.2.2.2.2.1)
  | .ireturn => i.2.1 == 1 && decide ((i.2.2.2.1 = 3 ∧ rt = some .boolean) ∨ (i.2.2.2.1 ≠ 3 ∧ rt = some .int))
  | .lreturn => i.2.1 == 1 && decide (rt = some .long)
  | .areturn => i.2.1 == 1 && en_isO rt
  | .return_ => i.2.1 == 1 && decide (rt = none)
  | .getfield _ => i.2.1 == 3
  | .putfield _ => i.2.1 == 3
  | .new _ => i.2.1 == 3
  | .newarray _ => i.2.1 == 2
  | .anewarray _ => i.2.1 == 3 && (decide (2 ≤ i.2.2.1) && decide (i.2.2.1 < 5))
  | .instanceof _ => i.2.1 == 3
  | .checkcast _ => i.2.1 == 3
  | .invokestatic _ => i.2.1 == 3
  | .invokespecial _ => i.2.1 == 3
  | .invokevirtual _ => i.2.1 == 3
  | _ => en_ckP n i
def en_ed : Instr → Bool
  | .goto _ => true
  | .ireturn => true
  | .lreturn => true
  | .areturn => true
  | .return_ => true
  | .tableswitch .. => true
  | .lookupswitch .. => true
  | _ => false
def en_ckC (cc : ByteArray) (n : Nat) (rt : Option FieldType) (P : List en_B) (nx : Nat) : Nat → List en_I → Bool
  | pc, [] => decide (nx < P.length) && decide (pc = en_pc P nx)
  | pc, i :: c => (match decode cc pc with
    | .ok (op, k) => decide (op = i.1) && decide (k = i.2.1)
    | _ => false) && (en_ckI n rt P pc i && (en_ed i.1 || en_ckC cc n rt P nx (pc + i.2.1) c))
def en_ckM (M : en_M) : Bool := decide (en_pc M.2.2.2.2 0 = 0) && M.2.2.2.2.all (fun q => en_ckC M.2.1 M.2.2.1 M.2.2.2.1 M.2.2.2.2 q.2.2.2 q.1 q.2.2.1)
/-- a field that is read -/
def en_FG (own : String) (x k : Nat) (cs : List (Nat × Nat)) : Prop := ∃ ref, ∀ q ∈ cs, ∃ C T N, en_cs[q.1]? = some (C, T, N) ∧ k < N ∧ Cond.fieldLink own x ref (T k).2.1 (T k).2.2.1 ∈ en_tb ∧ ((T k).1 = ref ∨ Cond.sameField ref (T k).1 (T k).2.1 (T k).2.2.1 ∈ en_tb)
/-- what a field of a tag takes -/
def en_ft (tag : Nat) (ty : FieldType) : Bool := match tag, ty with
  | 0, .int => true
  | 1, .long => true
  | 2, .object _ => true
  | 2, .array _ => true
  | 3, .boolean => true
  | _, _ => false
/-- a field that is written -/
def en_FP (own : String) (ini : Bool) (x k tag : Nat) (cs : List (Nat × Nat)) : Prop := ∃ ref, ∀ q ∈ cs, ∃ C T N ty, en_cs[q.1]? = some (C, T, N) ∧ k < N ∧ Cond.fieldLink own x ref (T k).2.1 (T k).2.2.1 ∈ en_tb ∧ ((T k).1 = ref ∨ Cond.sameField ref (T k).1 (T k).2.1 (T k).2.2.1 ∈ en_tb) ∧ parseFieldDescriptor (T k).2.2.1 = some ty ∧ en_ft tag ty = true ∧ ((T k).2.2.2 = false ∨ ((T k).2.2.2 = true ∧ ini = true ∧ (T k).1 = own))
/-- a method of the table: its name, its code, its words -/
def en_ME (mi : Nat) (y : MethodName) (cc : ByteArray) (n : Nat) (ret : Option FieldType) : Prop := (∃ P, en_nt en_mt mi = some (y, cc, n, ret, P)) ∧ Cond.code y cc n ret ∈ en_tb ∧ Cond.initialized y.cls ∈ en_tb ∧ (y.cls ≠ "java/lang/invoke/MethodHandle" ∧ y.cls ≠ "java/lang/invoke/VarHandle") ∧ n ≤ 60
def en_np (d : String) (k : Nat) : Prop := (parseMethodDescriptor d).map (fun d => d.parameters.length) = some k
def en_LS (own : String) (x k : Nat) (cs : List (Nat × Nat)) : Prop := ∃ q mi y cc n ret, cs = [(q, mi)] ∧ en_ME mi y cc n ret ∧ en_np y.desc k ∧ Cond.static y ∈ en_tb ∧ (Cond.methodLink own x y ∈ en_tb ∨ ∃ host, Cond.methodLinkNest own x y host ∈ en_nwl)
def en_LI (own : String) (x k : Nat) (cs : List (Nat × Nat)) : Prop := ∃ y cc n, (∀ q ∈ cs, en_ME q.2 y cc n none) ∧ en_np y.desc k ∧ Cond.instanceMethod y ∈ en_tb ∧ y.name = "<init>" ∧ Cond.methodLink own x y ∈ en_tb
def en_LU (own : String) (x k : Nat) (cs : List (Nat × Nat)) : Prop := ∃ xm owner cc n ret, (∀ q ∈ cs, en_ME q.2 ⟨owner, xm.name, xm.desc⟩ cc n ret ∧ ∃ r, en_cs[q.1]? = some r) ∧ en_np xm.desc k ∧ Cond.instanceMethod ⟨owner, xm.name, xm.desc⟩ ∈ en_tb ∧ xm.name ≠ "<init>" ∧ Cond.methodLink own x xm ∈ en_tb ∧ Cond.sameMethod xm.cls owner xm.name xm.desc ∈ en_tb ∧ Cond.superclass own xm.cls ∈ en_tb ∧ (xm.cls = owner ∨ Cond.superclass xm.cls owner ∈ en_tb)
def en_LV (own : String) (x k : Nat) (cs : List (Nat × Nat)) : Prop := ∀ q ∈ cs, ∃ C T N xm y cc n ret owner, en_cs[q.1]? = some (C, T, N) ∧ en_ME q.2 y cc n ret ∧ en_np xm.desc k ∧ Cond.methodLink own x xm ∈ en_tb ∧ Cond.selects C xm y ∈ en_tb ∧ Cond.instanceMethod y ∈ en_tb ∧
  ((xm = y ∧ y.cls = C) ∨ (Cond.sameMethod xm.cls owner xm.name xm.desc ∈ en_tb ∧ (owner ≠ "java/lang/invoke/MethodHandle" ∧ owner ≠ "java/lang/invoke/VarHandle") ∧
    (y = ⟨owner, xm.name, xm.desc⟩ ∨ (∃ b0 m0 r0, Cond.code ⟨owner, xm.name, xm.desc⟩ b0 m0 r0 ∈ en_tb ∧ Cond.instanceMethod ⟨owner, xm.name, xm.desc⟩ ∈ en_tb) ∨ Cond.declares ⟨owner, xm.name, xm.desc⟩ ∈ en_nwl)))
/-- what an instruction asks of the tables -/
def en_lkI (own : String) (ini : Bool) (i : en_I) : Prop := match i.1 with
  | .getfield x => en_FG own x i.2.2.1 i.2.2.2.2.1
  | .putfield x => en_FP own ini x i.2.2.1 i.2.2.2.1 i.2.2.2.2.1
  | .new x => ∃ C T N, en_cs[i.2.2.1]? = some (C, T, N) ∧ Cond.classLink own x C ∈ en_tb
  | .newarray t => (t = .int ∧ Cond.arrayClass .int ∈ en_tb) ∨ (t = .long ∧ Cond.arrayClass .long ∈ en_tb)
  | .anewarray x => Cond.classLink own x (en_el (i.2.2.1 - 2)) ∈ en_tb ∧ en_el (i.2.2.1 - 2) ∈ en_aol
  | .instanceof x => ∃ C, Cond.classLink own x C ∈ en_tb ∧ ∀ q ∈ i.2.2.2.2.1, ∃ r, en_cs[q.1]? = some r ∧ ((q.2 = 0 ∧ (r.1, C) ∈ en_ncl) ∨ (q.2 ≠ 0 ∧ (r.1 = C ∨ Cond.castable r.1 C ∈ en_nwl)))
  | .checkcast x => ∃ C, Cond.classLink own x C ∈ en_tb ∧ ∀ q ∈ i.2.2.2.2.1, ∃ r, en_cs[q.1]? = some r ∧ (r.1 = C ∨ Cond.castable r.1 C ∈ en_nwl)
  | .invokestatic x => en_LS own x i.2.2.1 i.2.2.2.2.1
  | .invokespecial x => (i.2.2.2.1 = 9 ∧ Cond.methodLink own x objectInit ∈ en_tb ∧ Cond.instanceMethod objectInit ∈ en_tb ∧ Cond.code objectInit ⟨#[0xb1]⟩ 1 none ∈ en_tb) ∨ (i.2.2.2.1 ≠ 9 ∧ (en_LI own x i.2.2.1 i.2.2.2.2.1 ∨ en_LU own x i.2.2.1 i.2.2.2.2.1))
  | .invokevirtual x => en_LV own x i.2.2.1 i.2.2.2.2.1
  | _ => en_lkP own i
def en_lkC (own : String) (ini : Bool) : List en_I → Prop
  | [] => True
  | i :: c => en_lkI own ini i ∧ en_lkC own ini c
def en_lkM (M : en_M) : Prop := ∀ q ∈ M.2.2.2.2, en_lkC M.1.cls (M.1.name == "<init>") q.2.2.1
