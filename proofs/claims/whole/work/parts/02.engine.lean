/-! THE ENGINE: a small evaluator of the bytecode over a list of cells (en_ex, one instruction; en_rb, a block; en_bk, the blocks of a method; en_cl, a call). References are numbers: 0 the script, a + 1 the cell a. -/
abbrev en_L : Type := List (Option Value)
abbrev en_H : Type := List va_E
abbrev en_R : Type := Option Value × en_H
/-- an instruction: itself, its length, two numbers, pairs of numbers, constants -/
abbrev en_I : Type := Instr × Nat × Nat × Nat × List (Nat × Nat) × Int32 × Int64
/-- a block: its pc, which locals live, its instructions, the block behind it -/
abbrev en_B : Type := Nat × List Bool × List en_I × Nat
/-- the script: its length, its ints -/
abbrev en_S : Type := Nat × (Nat → Int32)
def en_nt {α : Type} : List α → Nat → Option α
  | [], _ => none
  | a :: _, 0 => some a
  | _ :: l, n + 1 => en_nt l n
theorem en_nt_eq {α : Type} : ∀ (l : List α) (n : Nat), en_nt l n = l[n]?
  | [], n => by simp [en_nt]
  | a :: l, 0 => by simp [en_nt]
  | a :: l, n + 1 => by simp [en_nt, en_nt_eq l n]
def en_gl (lv : en_L) (k : Nat) : Option Value := match en_nt lv k with
  | some v => v
  | none => none
def en_c1 : Option Value → Option Value
  | some (.int x) => some (.int x)
  | some (.ref a) => some (.ref a)
  | some .null => some .null
  | _ => none
def en_s1 : en_L → Nat → Value → en_L
  | [], _, _ => []
  | _ :: l, 0, v => some v :: l
  | a :: l, 1, v => en_c1 a :: en_s1 l 0 v
  | a :: l, n + 2, v => a :: en_s1 l (n + 1) v
def en_s2 : en_L → Nat → Value → en_L
  | [], _, _ => []
  | [_], 0, _ => [none]
  | _ :: _ :: l, 0, v => some v :: none :: l
  | a :: l, 1, v => en_c1 a :: en_s2 l 0 v
  | a :: l, n + 2, v => a :: en_s2 l (n + 1) v
def en_mk : List Bool → en_L → en_L
  | _, [] => []
  | true :: b, a :: l => a :: en_mk b l
  | false :: b, _ :: l => none :: en_mk b l
  | [], _ :: l => none :: en_mk [] l
def en_p2I (f : Int32 → Int32 → Int32) (lv : en_L) (st : List Value) : Option (en_L × List Value) := match st with
  | .int y :: .int x :: r => some (lv, .int (f x y) :: r)
  | _ => none
def en_p2L (f : Int64 → Int64 → Int64) (lv : en_L) (st : List Value) : Option (en_L × List Value) := match st with
  | .long y :: .long x :: r => some (lv, .long (f x y) :: r)
  | _ => none
def en_pSh (f : Int64 → Int32 → Int64) (lv : en_L) (st : List Value) : Option (en_L × List Value) := match st with
  | .int y :: .long x :: r => some (lv, .long (f x y) :: r)
  | _ => none
def en_ldI (lv : en_L) (k : Nat) (st : List Value) : Option (en_L × List Value) := match en_gl lv k with
  | some (.int x) => some (lv, .int x :: st)
  | _ => none
def en_ldL (lv : en_L) (k : Nat) (st : List Value) : Option (en_L × List Value) := match en_gl lv k with
  | some (.long x) => some (lv, .long x :: st)
  | _ => none
def en_ldA (lv : en_L) (k : Nat) (st : List Value) : Option (en_L × List Value) := match en_gl lv k with
  | some (.ref a) => some (lv, .ref a :: st)
  | some .null => some (lv, .null :: st)
  | _ => none
def en_stI (lv : en_L) (k : Nat) (st : List Value) : Option (en_L × List Value) := match st with
  | .int x :: r => some (en_s1 lv k (.int x), r)
  | _ => none
def en_stL (lv : en_L) (k : Nat) (st : List Value) : Option (en_L × List Value) := match st with
  | .long x :: r => some (en_s2 lv k (.long x), r)
  | _ => none
def en_stA (lv : en_L) (k : Nat) (st : List Value) : Option (en_L × List Value) := match st with
  | .ref a :: r => some (en_s1 lv k (.ref a), r)
  | .null :: r => some (en_s1 lv k .null, r)
  | _ => none
/-- values of one word -/
def en_w1 : Value → Bool
  | .int _ => true
  | .ref _ => true
  | .null => true
  | _ => false
/-- what an instruction does that looks at locals and stack alone -/
def en_pu (i : en_I) (lv : en_L) (st : List Value) : Option (en_L × List Value) := match i.1 with
  | .iconst _ => some (lv, .int i.2.2.2.2.2.1 :: st)
  | .bipush _ => some (lv, .int i.2.2.2.2.2.1 :: st)
  | .sipush _ => some (lv, .int i.2.2.2.2.2.1 :: st)
  | .ldc _ => some (lv, .int i.2.2.2.2.2.1 :: st)
  | .ldc_w _ => some (lv, .int i.2.2.2.2.2.1 :: st)
  | .lconst _ => some (lv, .long i.2.2.2.2.2.2 :: st)
  | .ldc2_w _ => some (lv, .long i.2.2.2.2.2.2 :: st)
  | .aconst_null => some (lv, .null :: st)
  | .iload _ => en_ldI lv i.2.2.1 st
  | .iload_n _ => en_ldI lv i.2.2.1 st
  | .lload _ => en_ldL lv i.2.2.1 st
  | .lload_n _ => en_ldL lv i.2.2.1 st
  | .aload _ => en_ldA lv i.2.2.1 st
  | .aload_n _ => en_ldA lv i.2.2.1 st
  | .istore _ => en_stI lv i.2.2.1 st
  | .istore_n _ => en_stI lv i.2.2.1 st
  | .lstore _ => en_stL lv i.2.2.1 st
  | .lstore_n _ => en_stL lv i.2.2.1 st
  | .astore _ => en_stA lv i.2.2.1 st
  | .astore_n _ => en_stA lv i.2.2.1 st
  | .iinc _ _ => match en_gl lv i.2.2.1 with
    | some (.int x) => some (en_s1 lv i.2.2.1 (.int (x + i.2.2.2.2.2.1)), st)
    | _ => none
  | .iadd => en_p2I (fun x y => x + y) lv st
  | .isub => en_p2I (fun x y => x - y) lv st
  | .imul => en_p2I (fun x y => x * y) lv st
  | .iand => en_p2I (fun x y => x &&& y) lv st
  | .ior => en_p2I (fun x y => x ||| y) lv st
  | .ixor => en_p2I (fun x y => x ^^^ y) lv st
  | .ishl => en_p2I (fun x y => x <<< (y &&& 31)) lv st
  | .ishr => en_p2I (fun x y => x >>> (y &&& 31)) lv st
  | .iushr => en_p2I (fun x y => (x.toUInt32 >>> (y.toUInt32 &&& Int32.toUInt32 31)).toInt32) lv st
  | .ladd => en_p2L (fun x y => x + y) lv st
  | .lsub => en_p2L (fun x y => x - y) lv st
  | .lmul => en_p2L (fun x y => x * y) lv st
  | .land => en_p2L (fun x y => x &&& y) lv st
  | .lor => en_p2L (fun x y => x ||| y) lv st
  | .lxor => en_p2L (fun x y => x ^^^ y) lv st
  | .lshl => en_pSh (fun x y => x <<< (y.toInt64 &&& 63)) lv st
  | .lshr => en_pSh (fun x y => x >>> (y.toInt64 &&& 63)) lv st
  | .lushr => en_pSh (fun x y => (x.toUInt64 >>> (y.toInt64.toUInt64 &&& Int64.toUInt64 63)).toInt64) lv st
  | .ineg => match st with
    | .int x :: r => some (lv, .int (-x) :: r)
    | _ => none
  | .lneg => match st with
    | .long x :: r => some (lv, .long (-x) :: r)
    | _ => none
  | .i2l => match st with
    | .int x :: r => some (lv, .long x.toInt64 :: r)
    | _ => none
  | .l2i => match st with
    | .long x :: r => some (lv, .int x.toInt32 :: r)
    | _ => none
  | .lcmp => match st with
    | .long y :: .long x :: r => some (lv, .int (lg_cmp x y) :: r)
    | _ => none
  | .dup => match st with
    | v :: r => match en_w1 v with
      | true => some (lv, v :: v :: r)
      | false => none
    | _ => none
  | .dup_x1 => match st with
    | v :: w :: r => match en_w1 v, en_w1 w with
      | true, true => some (lv, v :: w :: v :: r)
      | _, _ => none
    | _ => none
  | .dup2 => match st with
    | .long x :: r => some (lv, .long x :: .long x :: r)
    | v :: w :: r => match en_w1 v, en_w1 w with
      | true, true => some (lv, v :: w :: v :: w :: r)
      | _, _ => none
    | _ => none
  | _ => none
def en_ce (z : en_H) : Nat → Option va_E
  | 0 => none
  | a + 1 => en_nt z a
def en_fd : List (Nat × Nat) → Nat → Option Nat
  | [], _ => none
  | p :: l, c => if p.1 = c then some p.2 else en_fd l c
section EN
variable {ρ : Type}
def en_gI (z : en_H) (a : Nat) (cs : List (Nat × Nat)) (k : Nat) (f : Int32 → Option ρ) : Option ρ := match en_ce z a with
  | some (.inr (ci, fs)) => match en_fd cs ci with
    | some _ => match en_nt fs k with
      | some (.int x) => f x
      | _ => none
    | none => none
  | _ => none
def en_gL (z : en_H) (a : Nat) (cs : List (Nat × Nat)) (k : Nat) (f : Int64 → Option ρ) : Option ρ := match en_ce z a with
  | some (.inr (ci, fs)) => match en_fd cs ci with
    | some _ => match en_nt fs k with
      | some (.long x) => f x
      | _ => none
    | none => none
  | _ => none
def en_gA (z : en_H) (a : Nat) (cs : List (Nat × Nat)) (k : Nat) (f0 : Option ρ) (f : Nat → Option ρ) : Option ρ := match en_ce z a with
  | some (.inr (ci, fs)) => match en_fd cs ci with
    | some _ => match en_nt fs k with
      | some (.ref x) => f x
      | some .null => f0
      | _ => none
    | none => none
  | _ => none
def en_pf (z : en_H) (a : Nat) (cs : List (Nat × Nat)) (k : Nat) (v : Value) (f : en_H → Option ρ) : Option ρ := match a with
  | 0 => none
  | b + 1 => match en_nt z b with
    | some (.inr (ci, fs)) => match en_fd cs ci with
      | some _ => match en_nt fs k with
        | some _ => f (z.set b (.inr (ci, fs.set k v)))
        | none => none
      | none => none
    | _ => none
/-- a place of a row -/
abbrev en_ix (i : Int32) (n : Nat) : Prop := 0 ≤ i.toInt ∧ i.toInt < (n : Int)
def en_aI (sc : en_S) (z : en_H) (a : Nat) (i : Int32) (f : Int32 → Option ρ) : Option ρ := match a with
  | 0 => if en_ix i sc.1 then f (sc.2 i.toNatClampNeg) else none
  | b + 1 => match en_nt z b with
    | some (.inl (0, n, .inl g)) => if en_ix i n then f (g i.toNatClampNeg) else none
    | _ => none
def en_aL (z : en_H) (a : Nat) (i : Int32) (f : Int64 → Option ρ) : Option ρ := match en_ce z a with
  | some (.inl (1, n, .inr (.inl g))) => if en_ix i n then f (g i.toNatClampNeg) else none
  | _ => none
def en_aA (z : en_H) (a : Nat) (i : Int32) (f0 : Option ρ) (f : Nat → Option ρ) : Option ρ := match en_ce z a with
  | some (.inl (t + 2, n, .inr (.inr (.inr (.inr g))))) => if t < 3 ∧ en_ix i n then (match g i.toNatClampNeg with
      | some q => f q
      | none => f0) else none
  | _ => none
def en_sI (z : en_H) (a : Nat) (i x : Int32) (f : en_H → Option ρ) : Option ρ := match a with
  | 0 => none
  | b + 1 => match en_nt z b with
    | some (.inl (0, n, .inl g)) => if en_ix i n then f (z.set b (.inl (0, n, .inl (upd g i.toNatClampNeg x)))) else none
    | _ => none
def en_sL (z : en_H) (a : Nat) (i : Int32) (x : Int64) (f : en_H → Option ρ) : Option ρ := match a with
  | 0 => none
  | b + 1 => match en_nt z b with
    | some (.inl (1, n, .inr (.inl g))) => if en_ix i n then f (z.set b (.inl (1, n, .inr (.inl (vp_updL g i.toNatClampNeg x))))) else none
    | _ => none
def en_sA (z : en_H) (a : Nat) (i : Int32) (q : Nat) (f : en_H → Option ρ) : Option ρ := match a with
  | 0 => none
  | b + 1 => match en_nt z b with
    | some (.inl (t + 2, n, .inr (.inr (.inr (.inr g))))) => if en_ix i n then (match en_ce z q with
        | some (.inr (ci, _)) => match en_fd (en_as t) ci with
          | some _ => f (z.set b (.inl (t + 2, n, .inr (.inr (.inr (.inr (va_up g i.toNatClampNeg (some q))))))))
          | none => none
        | _ => none) else none
    | _ => none
def en_sN (z : en_H) (a : Nat) (i : Int32) (f : en_H → Option ρ) : Option ρ := match a with
  | 0 => none
  | b + 1 => match en_nt z b with
    | some (.inl (t + 2, n, .inr (.inr (.inr (.inr g))))) => if t < 3 ∧ en_ix i n then f (z.set b (.inl (t + 2, n, .inr (.inr (.inr (.inr (va_up g i.toNatClampNeg none))))))) else none
    | _ => none
def en_ln (sc : en_S) (z : en_H) (a : Nat) (f : Int32 → Option ρ) : Option ρ := match a with
  | 0 => f (Int32.ofNat sc.1)
  | b + 1 => match en_nt z b with
    | some (.inl (t, n, _)) => if t < 5 then f (Int32.ofNat n) else none
    | _ => none
def en_sw (x : Int32) (d : Option ρ) (f : Nat → Option ρ) : List (Nat × Nat) → Option ρ
  | [] => d
  | p :: l => if x = Int32.ofNat p.1 then f p.2 else en_sw x d f l
def en_bI (o : Option en_R) (f : Int32 → en_H → Option ρ) : Option ρ := match o with
  | some (some (.int x), z) => f x z
  | _ => none
def en_bL (o : Option en_R) (f : Int64 → en_H → Option ρ) : Option ρ := match o with
  | some (some (.long x), z) => f x z
  | _ => none
def en_bA (o : Option en_R) (f0 : en_H → Option ρ) (f : Nat → en_H → Option ρ) : Option ρ := match o with
  | some (some (.ref x), z) => f x z
  | some (some .null, z) => f0 z
  | _ => none
def en_bV (o : Option en_R) (f : en_H → Option ρ) : Option ρ := match o with
  | some (none, z) => f z
  | _ => none
def en_bd (t : Nat) (o : Option en_R) (lv : en_L) (r : List Value) (nx : en_L → List Value → en_H → Option ρ) : Option ρ := match t with
  | 0 => en_bI o (fun x z => nx lv (.int x :: r) z)
  | 1 => en_bL o (fun x z => nx lv (.long x :: r) z)
  | 2 => en_bA o (fun z => nx lv (.null :: r) z) (fun q z => nx lv (.ref q :: r) z)
  | 3 => en_bI o (fun x z => nx lv (.int x :: r) z)
  | 4 => en_bV o (fun z => nx lv r z)
  | _ => none
def en_sp : Nat → List Value → List Value → Option (List Value × List Value)
  | 0, acc, st => some (acc, st)
  | n + 1, acc, v :: st => en_sp n (v :: acc) st
  | _ + 1, _, [] => none
def en_ct : List Value → Nat
  | [] => 0
  | v :: l => v.category + en_ct l
def en_vs (f : Nat → Option ρ) (c : Nat) : List (Nat × Nat) → Option ρ
  | [] => none
  | p :: l => if p.1 = c then f p.2 else en_vs f c l
def en_cc (z : en_H) (b : Nat) (g : Nat → Option ρ) : Option ρ := match en_ce z b with
  | some (.inr (ci, _)) => g ci
  | _ => none
def en_vt (z : en_H) (b : Nat) (cs : List (Nat × Nat)) (f : Nat → Option ρ) : Option ρ := en_cc z b (fun c => en_vs f c cs)
/-- one instruction: rt ends, nx goes on, jp jumps to a block -/
def en_ex (sc : en_S) (cal : Nat → List Value → en_H → Option en_R) (i : en_I) (lv : en_L) (st : List Value) (z : en_H) (rt : Option Value → en_H → Option ρ) (nx : en_L → List Value → en_H → Option ρ) (jp : Nat → en_L → List Value → en_H → Option ρ) : Option ρ := match i.1 with
  | .idiv => match st with
    | .int y :: .int x :: r => if y = 0 then none else nx lv (.int (x / y) :: r) z
    | _ => none
  | .irem => match st with
    | .int y :: .int x :: r => if y = 0 then none else nx lv (.int (x - x / y * y) :: r) z
    | _ => none
  | .ldiv => match st with
    | .long y :: .long x :: r => if y = 0 then none else nx lv (.long (x / y) :: r) z
    | _ => none
  | .lrem => match st with
    | .long y :: .long x :: r => if y = 0 then none else nx lv (.long (x - x / y * y) :: r) z
    | _ => none
  | .goto _ => jp i.2.2.1 lv st z
  | .ifCond c _ => match st with
    | .int x :: r => match c with
      | .eq => if x = 0 then jp i.2.2.1 lv r z else nx lv r z
      | .ne => if x = 0 then nx lv r z else jp i.2.2.1 lv r z
      | .lt => if x < 0 then jp i.2.2.1 lv r z else nx lv r z
      | .ge => if 0 ≤ x then jp i.2.2.1 lv r z else nx lv r z
      | .gt => if 0 < x then jp i.2.2.1 lv r z else nx lv r z
      | .le => if x ≤ 0 then jp i.2.2.1 lv r z else nx lv r z
    | _ => none
  | .if_icmp c _ => match st with
    | .int y :: .int x :: r => match c with
      | .eq => if x = y then jp i.2.2.1 lv r z else nx lv r z
      | .ne => if x = y then nx lv r z else jp i.2.2.1 lv r z
      | .lt => if x < y then jp i.2.2.1 lv r z else nx lv r z
      | .ge => if y ≤ x then jp i.2.2.1 lv r z else nx lv r z
      | .gt => if y < x then jp i.2.2.1 lv r z else nx lv r z
      | .le => if x ≤ y then jp i.2.2.1 lv r z else nx lv r z
    | _ => none
  | .ifnull _ => match st with
    | .null :: r => jp i.2.2.1 lv r z
    | .ref _ :: r => nx lv r z
    | _ => none
  | .ifnonnull _ => match st with
    | .null :: r => nx lv r z
    | .ref _ :: r => jp i.2.2.1 lv r z
    | _ => none
  | .tableswitch _ _ _ _ => match st with
    | .int x :: r => en_sw x (jp i.2.2.1 lv r z) (fun j => jp j lv r z) i.2.2.2.2.1
    | _ => none
  | .lookupswitch _ _ => match st with
    | .int x :: r => en_sw x (jp i.2.2.1 lv r z) (fun j => jp j lv r z) i.2.2.2.2.1
    | _ => none
  | .ireturn => match st with
    | [.int x] => match i.2.2.2.1 with
      | 3 => if x &&& 1 = x then rt (some (.int x)) z else none
      | _ => rt (some (.int x)) z
    | _ => none
  | .lreturn => match st with
    | [.long x] => rt (some (.long x)) z
    | _ => none
  | .areturn => match st with
    | [.ref a] => rt (some (.ref a)) z
    | [.null] => rt (some .null) z
    | _ => none
  | .return_ => match st with
    | [] => rt none z
    | _ => none
  | .getfield _ => match st with
    | .ref a :: r => match i.2.2.2.1 with
      | 1 => en_gL z a i.2.2.2.2.1 i.2.2.1 (fun x => nx lv (.long x :: r) z)
      | 2 => en_gA z a i.2.2.2.2.1 i.2.2.1 (nx lv (.null :: r) z) (fun q => nx lv (.ref q :: r) z)
      | _ => en_gI z a i.2.2.2.2.1 i.2.2.1 (fun x => nx lv (.int x :: r) z)
    | _ => none
  | .putfield _ => match st with
    | .int x :: .ref a :: r => match i.2.2.2.1 with
      | 0 => en_pf z a i.2.2.2.2.1 i.2.2.1 (.int x) (fun z => nx lv r z)
      | 3 => if x &&& 1 = x then en_pf z a i.2.2.2.2.1 i.2.2.1 (.int x) (fun z => nx lv r z) else none
      | _ => none
    | .long x :: .ref a :: r => match i.2.2.2.1 with
      | 1 => en_pf z a i.2.2.2.2.1 i.2.2.1 (.long x) (fun z => nx lv r z)
      | _ => none
    | .ref q :: .ref a :: r => match i.2.2.2.1 with
      | 2 => en_pf z a i.2.2.2.2.1 i.2.2.1 (.ref q) (fun z => nx lv r z)
      | _ => none
    | .null :: .ref a :: r => match i.2.2.2.1 with
      | 2 => en_pf z a i.2.2.2.2.1 i.2.2.1 .null (fun z => nx lv r z)
      | _ => none
    | _ => none
  | .iaload => match st with
    | .int j :: .ref a :: r => en_aI sc z a j (fun x => nx lv (.int x :: r) z)
    | _ => none
  | .laload => match st with
    | .int j :: .ref a :: r => en_aL z a j (fun x => nx lv (.long x :: r) z)
    | _ => none
  | .aaload => match st with
    | .int j :: .ref a :: r => en_aA z a j (nx lv (.null :: r) z) (fun q => nx lv (.ref q :: r) z)
    | _ => none
  | .iastore => match st with
    | .int x :: .int j :: .ref a :: r => en_sI z a j x (fun z => nx lv r z)
    | _ => none
  | .lastore => match st with
    | .long x :: .int j :: .ref a :: r => en_sL z a j x (fun z => nx lv r z)
    | _ => none
  | .aastore => match st with
    | .ref q :: .int j :: .ref a :: r => en_sA z a j q (fun z => nx lv r z)
    | .null :: .int j :: .ref a :: r => en_sN z a j (fun z => nx lv r z)
    | _ => none
  | .arraylength => match st with
    | .ref a :: r => en_ln sc z a (fun x => nx lv (.int x :: r) z)
    | _ => none
  | .new _ => nx lv (.ref (z.length + 1) :: st) (z ++ [.inr (i.2.2.1, en_df i.2.2.1)])
  | .newarray t => match st with
    | .int n :: r => if en_ix n 1000000 then (match t with
        | .int => nx lv (.ref (z.length + 1) :: r) (z ++ [.inl (0, n.toNatClampNeg, .inl (fun _ => 0))])
        | .long => nx lv (.ref (z.length + 1) :: r) (z ++ [.inl (1, n.toNatClampNeg, .inr (.inl (fun _ => 0)))])
        | _ => none) else none
    | _ => none
  | .anewarray _ => match st with
    | .int n :: r => if en_ix n 1000000 then nx lv (.ref (z.length + 1) :: r) (z ++ [.inl (i.2.2.1, n.toNatClampNeg, .inr (.inr (.inr (.inr (fun _ => none)))))]) else none
    | _ => none
  | .instanceof _ => match st with
    | .null :: r => nx lv (.int 0 :: r) z
    | .ref a :: r => en_vt z a i.2.2.2.2.1 (fun b => match b with
      | 0 => nx lv (.int 0 :: r) z
      | _ => nx lv (.int 1 :: r) z)
    | _ => none
  | .checkcast _ => match st with
    | .null :: r => nx lv (.null :: r) z
    | .ref a :: r => en_vt z a i.2.2.2.2.1 (fun _ => nx lv (.ref a :: r) z)
    | _ => none
  | .invokestatic _ => match en_sp i.2.2.1 [] st with
    | some (as, r) => if en_ct r ≤ 8 then (match i.2.2.2.2.1 with
        | [(_, mi)] => en_bd i.2.2.2.1 (cal mi as z) lv r nx
        | _ => none) else none
    | none => none
  | .invokespecial _ => match i.2.2.2.1 with
    | 9 => match st with
      | .ref _ :: r => if en_ct r ≤ 8 then nx lv r z else none
      | _ => none
    | _ => match en_sp i.2.2.1 [] st with
      | some (as, .ref b :: r) => if en_ct r ≤ 8 then en_vt z b i.2.2.2.2.1 (fun mi => en_bd i.2.2.2.1 (cal mi (.ref b :: as) z) lv r nx) else none
      | _ => none
  | .invokevirtual _ => match en_sp i.2.2.1 [] st with
    | some (as, .ref b :: r) => if en_ct r ≤ 8 then en_vt z b i.2.2.2.2.1 (fun mi => en_bd i.2.2.2.1 (cal mi (.ref b :: as) z) lv r nx) else none
    | _ => none
  | _ => match en_pu i lv st with
    | some (lv', st') => nx lv' st' z
    | none => none
def en_rb (sc : en_S) (cal : Nat → List Value → en_H → Option en_R) (rt : Option Value → en_H → Option ρ) (jp : Nat → en_L → List Value → en_H → Option ρ) (n : Nat) : List en_I → en_L → List Value → en_H → Option ρ
  | [], lv, st, z => jp n lv st z
  | i :: c, lv, st, z => en_ex sc cal i lv st z rt (en_rb sc cal rt jp n c) jp
end EN
abbrev en_rt : Option Value → en_H → Option en_R := fun v z => some (v, z)
def en_bN (sc : en_S) (cal : Nat → List Value → en_H → Option en_R) (P : List en_B) : Nat → Nat → en_L → List Value → en_H → Option en_R
  | 0, _, _, _, _ => none
  | n + 1, j, lv, st, z => match en_nt P j with
    | some (_, b, c, k) => en_rb sc cal en_rt (en_bN sc cal P n) k c (en_mk b lv) st z
    | none => none
/-- a value that gets a name -/
def en_le {α ρ : Type} (a : α) (f : α → Option ρ) : Option ρ := f a
/-- a new cell -/
def en_nw {ρ : Type} (z : en_H) (c : va_E) (f : Nat → en_H → Option ρ) : Option ρ := f (z.length + 1) (z ++ [c])
def en_io {ρ : Type} (z : en_H) (a : Nat) (cs : List (Nat × Nat)) (f0 f1 : Option ρ) : Option ρ := en_vt z a cs (fun b => match b with
  | 0 => f0
  | _ => f1)
def en_us (x y : Int32) : Int32 := (x.toUInt32 >>> (y.toUInt32 &&& Int32.toUInt32 31)).toInt32
def en_ul (x : Int64) (y : Int32) : Int64 := (x.toUInt64 >>> (y.toInt64.toUInt64 &&& Int64.toUInt64 63)).toInt64
/-- the blocks of a method, from block j on: what it comes to, if it ends -/
noncomputable def en_bk (sc : en_S) (cal : Nat → List Value → en_H → Option en_R) (P : List en_B) (j : Nat) (lv : en_L) (st : List Value) (z : en_H) : Option en_R :=
  @dite _ (∃ n r, en_bN sc cal P n j lv st z = some r) (Classical.propDecidable _) (fun h => some (Classical.choose (Classical.choose_spec h))) (fun _ => none)
/-- where an instruction goes, told as data -/
abbrev en_O : Type := (Option Nat × en_L × List Value × en_H) ⊕ (Option Value × en_H)
def en_di {ρ : Type} (rt : Option Value → en_H → Option ρ) (nx : en_L → List Value → en_H → Option ρ) (jp : Nat → en_L → List Value → en_H → Option ρ) : en_O → Option ρ
  | .inl (none, lv, st, z) => nx lv st z
  | .inl (some j, lv, st, z) => jp j lv st z
  | .inr (v, z) => rt v z
abbrev en_oR : Option Value → en_H → Option en_O := fun v z => some (.inr (v, z))
abbrev en_oN : en_L → List Value → en_H → Option en_O := fun lv st z => some (.inl (none, lv, st, z))
abbrev en_oJ : Nat → en_L → List Value → en_H → Option en_O := fun j lv st z => some (.inl (some j, lv, st, z))
