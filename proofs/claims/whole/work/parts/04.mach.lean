/-! THE SMALL MACHINE: made cells at addresses 2, 3, .. (0 is the script, 1 the static row of types), ints, longs and references in three memories; a run by fuel. -/
abbrev mm_S : Type := List (Nat × Nat)
abbrev mm_I : Type := Nat → Nat → Int32
abbrev mm_L : Type := Nat → Nat → Int64
abbrev mm_R : Type := Nat → Nat → Option Nat
abbrev mm_O : Type := Option Value × mm_S × mm_I × mm_L × mm_R
abbrev mm_ls : Type := List (Option Value)
def mm_up {α : Type} (f : Nat → Nat → α) (a j : Nat) (v : α) : Nat → Nat → α := fun a' j' => if a' = a ∧ j' = j then v else f a' j'
def mm_rw {α : Type} (f : Nat → Nat → α) (a : Nat) (g : Nat → α) : Nat → Nat → α := fun a' j' => if a' = a then g j' else f a' j'
def iI (z : Int) : Int32 := Int32.ofInt z
def lL (z : Int) : Int64 := Int64.ofInt z
/-! tables -/
def mm_dflt : MethodName × ByteArray × Nat × Option FieldType × Nat × Nat × Nat := (⟨"", "", ""⟩, ⟨#[]⟩, 0, none, 0, 9, 99)
def mm_m (k : Nat) : MethodName × ByteArray × Nat × Option FieldType × Nat × Nat × Nat := (mm_M[k]?).getD mm_dflt
def mm_y (k : Nat) : MethodName := (mm_m k).1
def mm_b (k : Nat) : ByteArray := (mm_m k).2.1
def mm_ml (k : Nat) : Nat := (mm_m k).2.2.1
def mm_rt (k : Nat) : Option FieldType := (mm_m k).2.2.2.1
def mm_np (k : Nat) : Nat := (mm_m k).2.2.2.2.1
def mm_kd (k : Nat) : Nat := (mm_m k).2.2.2.2.2.1
def mm_ci (k : Nat) : Nat := (mm_m k).2.2.2.2.2.2
def mm_lk {α : Type} : List (Nat × α) → Nat → Option α
  | [], _ => none
  | q :: r, n => bif Nat.beq q.1 n then some q.2 else mm_lk r n
def mm_cd (k : Nat) : List (Nat × Instr × Nat × Int) := (mm_cds[k]?).getD []
def mm_fetch (k pc : Nat) : Option (Instr × Nat × Int) := mm_lk (mm_cd k) pc
/-- how many fields class c has -/
def mm_N (c : Nat) : Nat := ((mm_fts[c]?).getD []).length
/-- field j of class c: 0 int, 1 reference, 2 boolean -/
def mm_ft (c j : Nat) : Nat := (((mm_fts[c]?).getD [])[j]?).getD 9
def mm_fin (c j : Nat) : Bool := match vwCl[c]? with
  | some q => (q.2.1 j).2.2.2
  | none => true
/-! locals -/
def mm_ld (ls : mm_ls) (i : Nat) : Option Value := match ls[i]? with
  | some (some v) => some v
  | _ => none
def mm_clr : Option Value → Option Value
  | some (.long _) => none
  | some (.double _) => none
  | x => x
def mm_st1 : mm_ls → Nat → Value → Option mm_ls
  | _ :: r, 0, v => some (some v :: r)
  | l :: _ :: r, 1, v => some (mm_clr l :: some v :: r)
  | l :: r, i + 2, v => (mm_st1 r (i + 1) v).map (fun r' => l :: r')
  | _, _, _ => none
def mm_st2 : mm_ls → Nat → Value → Option mm_ls
  | _ :: _ :: r, 0, v => some (some v :: none :: r)
  | l :: _ :: _ :: r, 1, v => some (mm_clr l :: some v :: none :: r)
  | l :: r, i + 2, v => (mm_st2 r (i + 1) v).map (fun r' => l :: r')
  | _, _, _ => none
def mm_lay : List Value → mm_ls
  | [] => []
  | .long x :: r => some (.long x) :: none :: mm_lay r
  | .double x :: r => some (.double x) :: none :: mm_lay r
  | v :: r => some v :: mm_lay r
def mm_entry (k : Nat) (as : List Value) : mm_ls := mm_lay as ++ List.replicate (mm_ml k - (mm_lay as).length) none
/-! instructions that touch locals and stack alone -/
def mm_bin (i : Instr) (x y : Int32) : Option Int32 := match i with
  | .iadd => some (x + y)
  | .isub => some (x - y)
  | .imul => some (x * y)
  | .iand => some (x &&& y)
  | .ior => some (x ||| y)
  | .ixor => some (x ^^^ y)
  | .ishl => some (x <<< (y &&& 31))
  | .ishr => some (x >>> (y &&& 31))
  | .iushr => some ((x.toUInt32 >>> (y.toUInt32 &&& Int32.toUInt32 31)).toInt32)
  | .irem => if y = 0 then none else some (x - x / y * y)
  | _ => none
def mm_lbin (i : Instr) (x y : Int64) : Option Value := match i with
  | .ladd => some (.long (x + y))
  | .lmul => some (.long (x * y))
  | .land => some (.long (x &&& y))
  | .lor => some (.long (x ||| y))
  | .ldiv => if y = 0 then none else some (.long (x / y))
  | .lrem => if y = 0 then none else some (.long (x - x / y * y))
  | .lcmp => some (.int (lg_cmp x y))
  | _ => none
def mm_un (i : Instr) (v : Value) : Option Value := match i, v with
  | .ineg, .int x => some (.int (-x))
  | .i2l, .int x => some (.long x.toInt64)
  | .i2b, .int x => some (.int x.toInt8.toInt32)
  | .i2s, .int x => some (.int x.toInt16.toInt32)
  | .l2i, .long x => some (.int x.toInt32)
  | .lneg, .long x => some (.long (-x))
  | _, _ => none
/-- a local's place and what it must be: 1 int, 2 long, 3 reference -/
def mm_ldop (i : Instr) : Option (Nat × Nat) := match i with
  | .iload k => some (k, 1)
  | .iload_n k => some (k.val, 1)
  | .lload k => some (k, 2)
  | .lload_n k => some (k.val, 2)
  | .aload k => some (k, 3)
  | .aload_n k => some (k.val, 3)
  | _ => none
def mm_stop (i : Instr) : Option (Nat × Nat) := match i with
  | .istore k => some (k, 1)
  | .istore_n k => some (k.val, 1)
  | .lstore k => some (k, 2)
  | .lstore_n k => some (k.val, 2)
  | .astore k => some (k, 3)
  | .astore_n k => some (k.val, 3)
  | _ => none
def mm_is (v : Value) (t : Nat) : Bool := match v with
  | .int _ => t == 1
  | .long _ => t == 2
  | .ref _ => t == 3
  | .null => t == 3
  | _ => false
def mm_cst (i : Instr) (res : Int) : Option Value := match i with
  | .iconst n => some (.int (iI n))
  | .bipush n => some (.int (iI n))
  | .sipush n => some (.int (iI n))
  | .lconst n => some (.long (lL n.val))
  | .ldc2_w _ => some (.long (lL res))
  | .ldc_w _ => some (.int (iI res))
  | .aconst_null => some .null
  | _ => none
def mm_shuf (i : Instr) (st : List Value) : Option (List Value) := match i, st with
  | .dup, v :: r => if v.category = 1 then some (v :: v :: r) else none
  | .pop, v :: r => if v.category = 1 then some r else none
  | .dup2, v :: w :: r => if v.category = 1 ∧ w.category = 1 then some (v :: w :: v :: w :: r) else none
  | _, _ => none
/-- the kind of an instruction: 1 constant, 2 load, 3 store, 4 iinc, 5 two ints, 6 two longs, 7 one value, 8 stack, 9 jump, 10 memory, 11 end, 12 call -/
def mm_kind (i : Instr) : Nat := match i with
  | .iconst _ | .bipush _ | .sipush _ | .lconst _ | .ldc2_w _ | .ldc_w _ | .aconst_null => 1
  | .iload _ | .iload_n _ | .lload _ | .lload_n _ | .aload _ | .aload_n _ => 2
  | .istore _ | .istore_n _ | .lstore _ | .lstore_n _ | .astore _ | .astore_n _ => 3
  | .iinc _ _ => 4
  | .iadd | .isub | .imul | .iand | .ior | .ixor | .ishl | .ishr | .iushr | .irem => 5
  | .ladd | .lmul | .land | .lor | .ldiv | .lrem | .lcmp => 6
  | .lshl => 13
  | .ineg | .i2l | .i2b | .i2s | .l2i | .lneg => 7
  | .dup | .pop | .dup2 => 8
  | .goto _ | .ifCond _ _ | .if_icmp _ _ | .ifnull _ | .ifnonnull _ | .tableswitch _ _ _ _ | .lookupswitch _ _ => 9
  | .getfield _ | .putfield _ | .iaload | .iastore | .laload | .lastore | .baload | .bastore | .aaload | .aastore | .arraylength | .newarray _ | .anewarray _ | .new _ | .getstatic _ => 10
  | .ireturn | .lreturn | .areturn | .return_ => 11
  | .invokevirtual _ | .invokespecial _ | .invokestatic _ => 12
  | _ => 0
/-- java.lang.Math, which the machine has by itself: -3 abs of a long, -4 max, -5 min -/
def mm_math (res : Int) (st : List Value) : Option (List Value) :=
  if res = -3 then (match st with
    | .long x :: r => if (r.map fun v => v.category).sum ≤ 8 then some (.long (if 0 < x then x else -x) :: r) else none
    | _ => none)
  else if res = -4 then (match st with
    | .int y :: .int x :: r => if (r.map fun v => v.category).sum ≤ 8 then some (.int (if x < y then y else x) :: r) else none
    | _ => none)
  else if res = -5 then (match st with
    | .int y :: .int x :: r => if (r.map fun v => v.category).sum ≤ 8 then some (.int (if y < x then y else x) :: r) else none
    | _ => none)
  else none
def mm_pure (i : Instr) (res : Int) (ls : mm_ls) (st : List Value) : Option (mm_ls × List Value) :=
  match mm_kind i with
  | 1 => match mm_cst i res with
    | some v => some (ls, v :: st)
    | none => none
  | 2 => match mm_ldop i with
    | some (k, t) => match mm_ld ls k with
      | some v => if mm_is v t = true then some (ls, v :: st) else none
      | none => none
    | none => none
  | 3 => match mm_stop i, st with
    | some (k, t), v :: r => if mm_is v t = true then
        (match (if t = 2 then mm_st2 ls k v else mm_st1 ls k v) with
          | some ls' => some (ls', r)
          | none => none) else none
    | _, _ => none
  | 4 => match i with
    | .iinc k n => match mm_ld ls k with
      | some (.int x) => match mm_st1 ls k (.int (x + iI n)) with
        | some ls' => some (ls', st)
        | none => none
      | _ => none
    | _ => none
  | 5 => match st with
    | .int y :: .int x :: r => match mm_bin i x y with
      | some z => some (ls, .int z :: r)
      | none => none
    | _ => none
  | 6 => match st with
    | .long y :: .long x :: r => match mm_lbin i x y with
      | some z => some (ls, z :: r)
      | none => none
    | _ => none
  | 7 => match st with
    | v :: r => match mm_un i v with
      | some z => some (ls, z :: r)
      | none => none
    | _ => none
  | 8 => match mm_shuf i st with
    | some r => some (ls, r)
    | none => none
  | 12 => match i with
    | .invokestatic _ => match mm_math res st with
      | some r => some (ls, r)
      | none => none
    | _ => none
  | 13 => match st with
    | .int y :: .long x :: r => some (ls, .long (x <<< (y.toInt64 &&& 63)) :: r)
    | _ => none
  | _ => none
/-! jumps -/
def mm_c1 (c : Jvm.ClassFile.Cond) (x : Int) : Bool := match c with
  | .eq => decide (x = 0)
  | .ne => decide (¬ x = 0)
  | .lt => decide (x < 0)
  | .ge => decide (0 ≤ x)
  | .gt => decide (0 < x)
  | .le => decide (x ≤ 0)
def mm_c2 (c : Jvm.ClassFile.Cond) (x y : Int) : Bool := match c with
  | .eq => decide (x = y)
  | .ne => decide (¬ x = y)
  | .lt => decide (x < y)
  | .ge => decide (y ≤ x)
  | .gt => decide (y < x)
  | .le => decide (x ≤ y)
def mm_off (i : Instr) (len : Nat) (st : List Value) : Option (Int × List Value) := match i, st with
  | .goto o, st => some (o, st)
  | .ifCond c o, .int x :: r => some (if mm_c1 c x.toInt = true then o else len, r)
  | .if_icmp c o, .int y :: .int x :: r => some (if mm_c2 c x.toInt y.toInt = true then o else len, r)
  | .ifnull o, .null :: r => some (o, r)
  | .ifnull _, .ref _ :: r => some (len, r)
  | .ifnonnull _, .null :: r => some (len, r)
  | .ifnonnull o, .ref _ :: r => some (o, r)
  | .tableswitch d lo hi offs, .int x :: r => if x.toInt < lo ∨ hi < x.toInt then some (d, r) else match offs.toList[(x.toInt - lo).toNat]? with
      | some o => some (o, r)
      | none => none
  | .lookupswitch d ps, .int x :: r => some (Op.lookupswitch.offset ps.toList d x.toInt, r)
  | _, _ => none
def mm_tgt (pc : Nat) (o : Int) : Option Nat := if 0 ≤ (pc : Int) + o then some ((pc : Int) + o).toNat else none
def mm_jump (i : Instr) (len pc : Nat) (st : List Value) : Option (Nat × List Value) :=
  match mm_kind i with
  | 9 => match mm_off i len st with
    | some (o, r) => match mm_tgt pc o with
      | some t => some (t, r)
      | none => none
    | none => none
  | _ => none
/-! memory -/
def mm_mem (m : Nat) (i : Instr) (res : Int) (st : List Value) (S : mm_S) (I : mm_I) (L : mm_L) (R : mm_R) : Option (List Value × mm_S × mm_I × mm_L × mm_R) :=
  match i, st with
  | .getfield _, .ref a :: r =>
    if S[a]? = some (res.toNat / 1000, mm_N (res.toNat / 1000)) then some ((if mm_ft (res.toNat / 1000) (res.toNat % 1000) = 1 then va_rf (R a (res.toNat % 1000)) else .int (I a (res.toNat % 1000))) :: r, S, I, L, R) else none
  | .putfield _, v :: .ref a :: r =>
    if S[a]? = some (res.toNat / 1000, mm_N (res.toNat / 1000)) ∧ (mm_fin (res.toNat / 1000) (res.toNat % 1000) = false ∨ (mm_kd m = 2 ∧ mm_ci m = res.toNat / 1000)) then
      match mm_ft (res.toNat / 1000) (res.toNat % 1000), v with
      | 0, .int x => some (r, S, mm_up I a (res.toNat % 1000) x, L, R)
      | 2, .int x => if x = 0 ∨ x = 1 then some (r, S, mm_up I a (res.toNat % 1000) x, L, R) else none
      | 1, .ref q => some (r, S, I, L, mm_up R a (res.toNat % 1000) (some q))
      | 1, .null => some (r, S, I, L, mm_up R a (res.toNat % 1000) none)
      | _, _ => none
    else none
  | .iaload, .int x :: .ref a :: r => match S[a]? with
    | some (k, n) => if k = 20 ∧ 0 ≤ x.toInt ∧ x.toInt < n then some (.int (I a x.toInt.toNat) :: r, S, I, L, R) else none
    | none => none
  | .baload, .int x :: .ref a :: r => match S[a]? with
    | some (k, n) => if k = 22 ∧ 0 ≤ x.toInt ∧ x.toInt < n then some (.int (I a x.toInt.toNat) :: r, S, I, L, R) else none
    | none => none
  | .laload, .int x :: .ref a :: r => match S[a]? with
    | some (k, n) => if k = 21 ∧ 0 ≤ x.toInt ∧ x.toInt < n then some (.long (L a x.toInt.toNat) :: r, S, I, L, R) else none
    | none => none
  | .aaload, .int x :: .ref a :: r => match S[a]? with
    | some (k, n) => if k = 23 ∧ 0 ≤ x.toInt ∧ x.toInt < n then some (va_rf (R a x.toInt.toNat) :: r, S, I, L, R) else none
    | none => none
  | .iastore, .int v :: .int x :: .ref a :: r => match S[a]? with
    | some (k, n) => if k = 20 ∧ 2 ≤ a ∧ 0 ≤ x.toInt ∧ x.toInt < n then some (r, S, mm_up I a x.toInt.toNat v, L, R) else none
    | none => none
  | .bastore, .int v :: .int x :: .ref a :: r => match S[a]? with
    | some (k, n) => if k = 22 ∧ (v = 0 ∨ v = 1) ∧ 0 ≤ x.toInt ∧ x.toInt < n then some (r, S, mm_up I a x.toInt.toNat v, L, R) else none
    | none => none
  | .lastore, .long v :: .int x :: .ref a :: r => match S[a]? with
    | some (k, n) => if k = 21 ∧ 0 ≤ x.toInt ∧ x.toInt < n then some (r, S, I, mm_up L a x.toInt.toNat v, R) else none
    | none => none
  | .aastore, .ref q :: .int x :: .ref a :: r => match S[a]?, S[q]? with
    | some (k, n), some (c, nq) => if k = 23 ∧ c = 7 ∧ nq = mm_N 7 ∧ 0 ≤ x.toInt ∧ x.toInt < n then some (r, S, I, L, mm_up R a x.toInt.toNat (some q)) else none
    | _, _ => none
  | .arraylength, .ref a :: r => match S[a]? with
    | some (k, n) => if 20 ≤ k ∧ k ≤ 23 then some (.int (Int32.ofNat n) :: r, S, I, L, R) else none
    | none => none
  | .newarray t, .int x :: r =>
    if (t = .int ∨ t = .long ∨ t = .boolean) ∧ 0 ≤ x.toInt ∧ x.toInt ≤ 1000 then
      some (.ref S.length :: r, S ++ [((if t = .int then 20 else if t = .long then 21 else 22), x.toInt.toNat)], mm_rw I S.length (fun _ => 0), mm_rw L S.length (fun _ => 0), mm_rw R S.length (fun _ => none))
    else none
  | .anewarray _, .int x :: r =>
    if 0 ≤ x.toInt ∧ x.toInt ≤ 1000 then
      some (.ref S.length :: r, S ++ [(23, x.toInt.toNat)], mm_rw I S.length (fun _ => 0), mm_rw L S.length (fun _ => 0), mm_rw R S.length (fun _ => none))
    else none
  | .new _, r =>
    some (.ref S.length :: r, S ++ [(res.toNat, mm_N res.toNat)], mm_rw I S.length (fun _ => 0), mm_rw L S.length (fun _ => 0), mm_rw R S.length (fun _ => none))
  | .getstatic _, r => some (.ref 1 :: r, S, I, L, R)
  | .invokespecial _, st => if res = -1 then (match st with
    | .ref _ :: r => if (r.map fun v => v.category).sum ≤ 8 then some (r, S, I, L, R) else none
    | _ => none) else none
  | .invokestatic _, st =>
    if res = -2 then (match st with
      | .int n :: .int dp :: .ref b :: .int sp :: .ref a :: r => match S[a]?, S[b]? with
        | some (ka, la), some (kb, lb) =>
        if 2 ≤ a ∧ 2 ≤ b ∧ ka = kb ∧ 0 ≤ n.toInt ∧ 0 ≤ sp.toInt ∧ 0 ≤ dp.toInt ∧ sp.toInt + n.toInt ≤ la ∧ dp.toInt + n.toInt ≤ lb ∧ (r.map fun v => v.category).sum ≤ 8 then
          (if ka = 20 then some (r, S, mm_rw I b (va_cpy (I a) (I b) sp.toInt.toNat dp.toInt.toNat n.toInt.toNat), L, R)
          else if ka = 21 then some (r, S, I, mm_rw L b (va_cpy (L a) (L b) sp.toInt.toNat dp.toInt.toNat n.toInt.toNat), R)
          else none)
        else none
        | _, _ => none
      | _ => none)
    else none
  | _, _ => none
/-- the end of a method: what it answers -/
def mm_ret (m : Nat) (i : Instr) (st : List Value) : Option (Option Value) := match i, st with
  | .ireturn, [.int v] => if mm_rt m = some .int then some (some (.int v)) else if mm_rt m = some .boolean ∧ (v = 0 ∨ v = 1) then some (some (.int v)) else none
  | .lreturn, [.long v] => if mm_rt m = some .long then some (some (.long v)) else none
  | .areturn, [.ref a] => match mm_rt m with
    | some (.object _) => some (some (.ref a))
    | _ => none
  | .areturn, [.null] => match mm_rt m with
    | some (.object _) => some (some .null)
    | _ => none
  | .return_, [] => if mm_rt m = none then some none else none
  | _, _ => none
def mm_cats (r : List Value) : Nat := (r.map fun v => v.category).sum
/-- a call: whom, with what, over which rest of the stack -/
def mm_call (i : Instr) (res : Int) (st : List Value) (S : mm_S) : Option (Nat × List Value × List Value) := match i with
  | .invokestatic _ => if 0 ≤ res ∧ mm_kd res.toNat = 0 ∧ mm_np res.toNat ≤ st.length ∧ mm_cats (st.drop (mm_np res.toNat)) ≤ 8 ∧ (mm_lay (st.take (mm_np res.toNat)).reverse).length ≤ mm_ml res.toNat then some (res.toNat, (st.take (mm_np res.toNat)).reverse, st.drop (mm_np res.toNat)) else none
  | .invokevirtual _ => match st.drop (mm_np res.toNat) with
    | .ref b :: r => if 0 ≤ res ∧ mm_kd res.toNat = 1 ∧ mm_np res.toNat ≤ st.length ∧ S[b]? = some (mm_ci res.toNat, mm_N (mm_ci res.toNat)) ∧ mm_cats r ≤ 8 ∧ (mm_lay (.ref b :: (st.take (mm_np res.toNat)).reverse)).length ≤ mm_ml res.toNat then some (res.toNat, .ref b :: (st.take (mm_np res.toNat)).reverse, r) else none
    | _ => none
  | .invokespecial _ => match st.drop (mm_np res.toNat) with
    | .ref b :: r => if 0 ≤ res ∧ mm_kd res.toNat = 2 ∧ mm_np res.toNat ≤ st.length ∧ S[b]? = some (mm_ci res.toNat, mm_N (mm_ci res.toNat)) ∧ mm_cats r ≤ 8 ∧ (mm_lay (.ref b :: (st.take (mm_np res.toNat)).reverse)).length ≤ mm_ml res.toNat then some (res.toNat, .ref b :: (st.take (mm_np res.toNat)).reverse, r) else none
    | _ => none
  | _ => none
/-- a run: fuel, calls that may stand open, method, place -/
def mm_ex : Nat → Nat → Nat → Nat → mm_ls → List Value → mm_S → mm_I → mm_L → mm_R → Option mm_O
  | 0, _, _, _, _, _, _, _, _, _ => none
  | n + 1, d, m, pc, ls, st, S, I, L, R =>
    match mm_fetch m pc with
    | none => none
    | some (i, len, res) =>
      match mm_pure i res ls st with
      | some (ls', st') => mm_ex n d m (pc + len) ls' st' S I L R
      | none =>
        match mm_jump i len pc st with
        | some (pc', st') => mm_ex n d m pc' ls st' S I L R
        | none =>
          match mm_mem m i res st S I L R with
          | some (st', S', I', L', R') => mm_ex n d m (pc + len) ls st' S' I' L' R'
          | none =>
            match mm_ret m i st with
            | some v => some (v, S, I, L, R)
            | none =>
              match mm_call i res st S, d with
              | some (k, as, rest), d' + 1 =>
                match mm_ex n d' k 0 (mm_entry k as) [] S I L R with
                | some (v, S', I', L', R') => mm_ex n (d' + 1) m (pc + len) ls (v.toList ++ rest) S' I' L' R'
                | none => none
              | _, _ => none
theorem mm_ex_up : ∀ (n d m pc : Nat) (ls : mm_ls) (st : List Value) (S : mm_S) (I : mm_I) (L : mm_L) (R : mm_R) (r : mm_O), mm_ex n d m pc ls st S I L R = some r → mm_ex (n + 1) d m pc ls st S I L R = some r := by
  intro n
  induction n with
  | zero => intro d m pc ls st S I L R r h; simp [mm_ex] at h
  | succ n ih =>
    intro d m pc ls st S I L R r h
    rw [mm_ex] at h ⊢
    cases hf : mm_fetch m pc with
    | none => rw [hf] at h; simp at h
    | some q =>
      obtain ⟨i, len, res⟩ := q
      rw [hf] at h
      dsimp only at h ⊢
      cases hp : mm_pure i res ls st with
      | some q => obtain ⟨ls', st'⟩ := q; rw [hp] at h; dsimp only at h ⊢; exact ih _ _ _ _ _ _ _ _ _ _ h
      | none =>
        rw [hp] at h; dsimp only at h ⊢
        cases hj : mm_jump i len pc st with
        | some q => obtain ⟨pc', st'⟩ := q; rw [hj] at h; dsimp only at h ⊢; exact ih _ _ _ _ _ _ _ _ _ _ h
        | none =>
          rw [hj] at h; dsimp only at h ⊢
          cases hm : mm_mem m i res st S I L R with
          | some q => obtain ⟨st', S', I', L', R'⟩ := q; rw [hm] at h; dsimp only at h ⊢; exact ih _ _ _ _ _ _ _ _ _ _ h
          | none =>
            rw [hm] at h; dsimp only at h ⊢
            cases hr : mm_ret m i st with
            | some v => rw [hr] at h; exact h
            | none =>
              rw [hr] at h; dsimp only at h ⊢
              cases hc : mm_call i res st S with
              | none => rw [hc] at h; simp at h
              | some q =>
                obtain ⟨k, as, rest⟩ := q
                rw [hc] at h
                cases d with
                | zero => simp at h
                | succ d =>
                  dsimp only at h ⊢
                  cases hx : mm_ex n d k 0 (mm_entry k as) [] S I L R with
                  | none => rw [hx] at h; simp at h
                  | some q =>
                    obtain ⟨v, S', I', L', R'⟩ := q
                    rw [hx] at h
                    rw [ih _ _ _ _ _ _ _ _ _ _ hx]
                    dsimp only at h ⊢
                    exact ih _ _ _ _ _ _ _ _ _ _ h
theorem mm_ex_le {n n' d m pc : Nat} {ls : mm_ls} {st : List Value} {S : mm_S} {I : mm_I} {L : mm_L} {R : mm_R} {r : mm_O} (h : mm_ex n d m pc ls st S I L R = some r) (hn : n ≤ n') : mm_ex n' d m pc ls st S I L R = some r := by
  induction hn with
  | refl => exact h
  | step _ ih => exact mm_ex_up _ _ _ _ _ _ _ _ _ _ _ ih
/-- the run without fuel -/
noncomputable def E (d m pc : Nat) (ls : mm_ls) (st : List Value) (S : mm_S) (I : mm_I) (L : mm_L) (R : mm_R) : Option mm_O :=
  @dite _ (∃ n r, mm_ex n d m pc ls st S I L R = some r) (Classical.propDecidable _) (fun h => some (Classical.choose (Classical.choose_spec h))) (fun _ => none)
theorem E_some {d m pc : Nat} {ls : mm_ls} {st : List Value} {S : mm_S} {I : mm_I} {L : mm_L} {R : mm_R} {r : mm_O} : E d m pc ls st S I L R = some r ↔ ∃ n, mm_ex n d m pc ls st S I L R = some r := by
  unfold E
  by_cases h : ∃ n r, mm_ex n d m pc ls st S I L R = some r
  · rw [dif_pos h]
    have h1 := Classical.choose_spec (Classical.choose_spec h)
    constructor
    · intro e
      rw [Option.some.inj e] at h1
      exact ⟨_, h1⟩
    · rintro ⟨n, hn⟩
      have a := mm_ex_le h1 (Nat.le_max_left _ n)
      have b := mm_ex_le hn (Nat.le_max_right (Classical.choose h) n)
      rw [a] at b
      exact b
  · rw [dif_neg h]
    constructor
    · intro e; cases e
    · rintro ⟨n, hn⟩
      exact absurd ⟨n, r, hn⟩ h
theorem E_eq {d m pc d' m' pc' : Nat} {ls ls' : mm_ls} {st st' : List Value} {S S' : mm_S} {I I' : mm_I} {L L' : mm_L} {R R' : mm_R} (h : ∀ r, E d m pc ls st S I L R = some r ↔ E d' m' pc' ls' st' S' I' L' R' = some r) : E d m pc ls st S I L R = E d' m' pc' ls' st' S' I' L' R' := by
  cases h1 : E d m pc ls st S I L R with
  | some r => exact ((h r).mp h1).symm
  | none =>
    cases h2 : E d' m' pc' ls' st' S' I' L' R' with
    | none => rfl
    | some r => rw [(h r).mpr h2] at h1; cases h1
section
variable {d m pc : Nat} {ls : mm_ls} {st : List Value} {S : mm_S} {I : mm_I} {L : mm_L} {R : mm_R} {i : Instr} {len : Nat} {res : Int}
theorem E_pure (hf : mm_fetch m pc = some (i, len, res)) {ls' : mm_ls} {st' : List Value} (hp : mm_pure i res ls st = some (ls', st')) : E d m pc ls st S I L R = E d m (pc + len) ls' st' S I L R := by
  refine E_eq fun r => ?_
  rw [E_some, E_some]
  constructor
  · rintro ⟨n, hn⟩
    cases n with
    | zero => simp [mm_ex] at hn
    | succ n => rw [mm_ex, hf] at hn; dsimp only at hn; rw [hp] at hn; exact ⟨n, hn⟩
  · rintro ⟨n, hn⟩
    refine ⟨n + 1, ?_⟩
    rw [mm_ex, hf]; dsimp only; rw [hp]; exact hn
theorem E_jump (hf : mm_fetch m pc = some (i, len, res)) (hp : mm_pure i res ls st = none) {pc' : Nat} {st' : List Value} (hj : mm_jump i len pc st = some (pc', st')) : E d m pc ls st S I L R = E d m pc' ls st' S I L R := by
  refine E_eq fun r => ?_
  rw [E_some, E_some]
  constructor
  · rintro ⟨n, hn⟩
    cases n with
    | zero => simp [mm_ex] at hn
    | succ n => rw [mm_ex, hf] at hn; dsimp only at hn; rw [hp] at hn; dsimp only at hn; rw [hj] at hn; exact ⟨n, hn⟩
  · rintro ⟨n, hn⟩
    refine ⟨n + 1, ?_⟩
    rw [mm_ex, hf]; dsimp only; rw [hp]; dsimp only; rw [hj]; exact hn
theorem E_mem (hf : mm_fetch m pc = some (i, len, res)) (hp : mm_pure i res ls st = none) (hj : mm_jump i len pc st = none) {st' : List Value} {S' : mm_S} {I' : mm_I} {L' : mm_L} {R' : mm_R} (hm : mm_mem m i res st S I L R = some (st', S', I', L', R')) : E d m pc ls st S I L R = E d m (pc + len) ls st' S' I' L' R' := by
  refine E_eq fun r => ?_
  rw [E_some, E_some]
  constructor
  · rintro ⟨n, hn⟩
    cases n with
    | zero => simp [mm_ex] at hn
    | succ n => rw [mm_ex, hf] at hn; dsimp only at hn; rw [hp] at hn; dsimp only at hn; rw [hj] at hn; dsimp only at hn; rw [hm] at hn; exact ⟨n, hn⟩
  · rintro ⟨n, hn⟩
    refine ⟨n + 1, ?_⟩
    rw [mm_ex, hf]; dsimp only; rw [hp]; dsimp only; rw [hj]; dsimp only; rw [hm]; exact hn
theorem E_ret (hf : mm_fetch m pc = some (i, len, res)) (hp : mm_pure i res ls st = none) (hj : mm_jump i len pc st = none) (hm : mm_mem m i res st S I L R = none) {v : Option Value} (hr : mm_ret m i st = some v) : E d m pc ls st S I L R = some (v, S, I, L, R) := by
  rw [E_some]
  refine ⟨1, ?_⟩
  rw [mm_ex, hf]; dsimp only; rw [hp]; dsimp only; rw [hj]; dsimp only; rw [hm]; dsimp only; rw [hr]
theorem E_call (hf : mm_fetch m pc = some (i, len, res)) (hp : mm_pure i res ls st = none) (hj : mm_jump i len pc st = none) (hm : mm_mem m i res st S I L R = none) (hr : mm_ret m i st = none) {k : Nat} {as rest : List Value} (hc : mm_call i res st S = some (k, as, rest)) :
    E (d + 1) m pc ls st S I L R = (E d k 0 (mm_entry k as) [] S I L R).bind (fun q => E (d + 1) m (pc + len) ls (q.1.toList ++ rest) q.2.1 q.2.2.1 q.2.2.2.1 q.2.2.2.2) := by
  cases hx : E d k 0 (mm_entry k as) [] S I L R with
  | none =>
    show _ = none
    cases h1 : E (d + 1) m pc ls st S I L R with
    | none => rfl
    | some r =>
      obtain ⟨n, hn⟩ := E_some.mp h1
      cases n with
      | zero => simp [mm_ex] at hn
      | succ n =>
        rw [mm_ex, hf] at hn; dsimp only at hn; rw [hp] at hn; dsimp only at hn; rw [hj] at hn; dsimp only at hn; rw [hm] at hn; dsimp only at hn; rw [hr] at hn; dsimp only at hn; rw [hc] at hn; dsimp only at hn
        cases h2 : mm_ex n d k 0 (mm_entry k as) [] S I L R with
        | none => rw [h2] at hn; cases hn
        | some q =>
          have h3 := E_some.mpr ⟨n, h2⟩
          rw [hx] at h3; cases h3
  | some q =>
    obtain ⟨v, S', I', L', R'⟩ := q
    show _ = E (d + 1) m (pc + len) ls (v.toList ++ rest) S' I' L' R'
    obtain ⟨n0, hn0⟩ := E_some.mp hx
    refine E_eq fun r => ?_
    rw [E_some, E_some]
    constructor
    · rintro ⟨n, hn⟩
      cases n with
      | zero => simp [mm_ex] at hn
      | succ n =>
        rw [mm_ex, hf] at hn; dsimp only at hn; rw [hp] at hn; dsimp only at hn; rw [hj] at hn; dsimp only at hn; rw [hm] at hn; dsimp only at hn; rw [hr] at hn; dsimp only at hn; rw [hc] at hn; dsimp only at hn
        cases h2 : mm_ex n d k 0 (mm_entry k as) [] S I L R with
        | none => rw [h2] at hn; cases hn
        | some q =>
          have h3 := E_some.mpr ⟨n, h2⟩
          rw [hx] at h3
          obtain rfl := Option.some.inj h3
          rw [h2] at hn
          exact ⟨n, hn⟩
    · rintro ⟨n, hn⟩
      refine ⟨max n n0 + 1, ?_⟩
      rw [mm_ex, hf]; dsimp only; rw [hp]; dsimp only; rw [hj]; dsimp only; rw [hm]; dsimp only; rw [hr]; dsimp only; rw [hc]; dsimp only
      rw [mm_ex_le hn0 (Nat.le_max_right n n0)]
      exact mm_ex_le hn (Nat.le_max_left n n0)
end
