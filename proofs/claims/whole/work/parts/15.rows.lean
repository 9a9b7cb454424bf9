/-! one equation of EE for each kind of instruction -/
section
variable {d m pc pc' t : Nat} {ls ls' : mm_ls} {r st : List Value} {S : mm_S} {J K : Nat → Nat → Int} {R : mm_R} {len : Nat} {res : Int} {x y z : Int} {a q : Nat}
theorem mi_up {j : Nat} : mm_up (mm_i J) a j (iI z) = mm_i (mm_up J a j z) := by
  funext a' j'; simp only [mm_up, mm_i]; split <;> rfl
theorem ml_up {j : Nat} : mm_up (mm_l K) a j (lL z) = mm_l (mm_up K a j z) := by
  funext a' j'; simp only [mm_up, mm_l]; split <;> rfl
theorem mi_rw {g : Nat → Int} : mm_rw (mm_i J) a (fun j => iI (g j)) = mm_i (mm_rw J a g) := by
  funext a' j'; simp only [mm_rw, mm_i]; split <;> rfl
theorem ml_rw {g : Nat → Int} : mm_rw (mm_l K) a (fun j => lL (g j)) = mm_l (mm_rw K a g) := by
  funext a' j'; simp only [mm_rw, mm_l]; split <;> rfl
theorem iI_0 : iI 0 = 0 := rfl
theorem lL_0 : lL 0 = 0 := rfl
theorem mi_rw0 : mm_rw (mm_i J) a (fun _ => 0) = mm_i (mm_rw J a (fun _ => 0)) := by rw [← mi_rw]; rfl
theorem ml_rw0 : mm_rw (mm_l K) a (fun _ => 0) = mm_l (mm_rw K a (fun _ => 0)) := by rw [← ml_rw]; rfl
/-- locals and stack alone -/
theorem EE_pure {i : Instr} (hf : mm_fetch m pc = some (i, len, res)) (hp : mm_pure i res ls st = some (ls', r)) : EE d m pc ls st S J K R = EE d m (pc + len) ls' r S J K R := E_pure hf hp
theorem EE_iadd (hf : mm_fetch m pc = some (.iadd, 1, res)) : EE d m pc ls (vi y :: vi x :: r) S J K R = EE d m (pc + 1) ls (vi (x + y) :: r) S J K R := by
  refine E_pure hf ?_; show some (ls, Value.int (iI x + iI y) :: r) = _; rw [iI_add]; rfl
theorem EE_isub (hf : mm_fetch m pc = some (.isub, 1, res)) : EE d m pc ls (vi y :: vi x :: r) S J K R = EE d m (pc + 1) ls (vi (x - y) :: r) S J K R := by
  refine E_pure hf ?_; show some (ls, Value.int (iI x - iI y) :: r) = _; rw [iI_sub]; rfl
theorem EE_imul (hf : mm_fetch m pc = some (.imul, 1, res)) : EE d m pc ls (vi y :: vi x :: r) S J K R = EE d m (pc + 1) ls (vi (x * y) :: r) S J K R := by
  refine E_pure hf ?_; show some (ls, Value.int (iI x * iI y) :: r) = _; rw [iI_mul]; rfl
theorem EE_iand (hf : mm_fetch m pc = some (.iand, 1, res)) : EE d m pc ls (vi y :: vi x :: r) S J K R = EE d m (pc + 1) ls (vi (jand x y) :: r) S J K R := by
  refine E_pure hf ?_; rw [jand, ← vi_of]; rfl
theorem EE_ior (hf : mm_fetch m pc = some (.ior, 1, res)) : EE d m pc ls (vi y :: vi x :: r) S J K R = EE d m (pc + 1) ls (vi (jor x y) :: r) S J K R := by
  refine E_pure hf ?_; rw [jor, ← vi_of]; rfl
theorem EE_ixor (hf : mm_fetch m pc = some (.ixor, 1, res)) : EE d m pc ls (vi y :: vi x :: r) S J K R = EE d m (pc + 1) ls (vi (jxor x y) :: r) S J K R := by
  refine E_pure hf ?_; rw [jxor, ← vi_of]; rfl
theorem EE_ishl (hf : mm_fetch m pc = some (.ishl, 1, res)) : EE d m pc ls (vi y :: vi x :: r) S J K R = EE d m (pc + 1) ls (vi (jshl x y) :: r) S J K R := by
  refine E_pure hf ?_; rw [jshl, ← vi_of]; rfl
theorem EE_ishr (hf : mm_fetch m pc = some (.ishr, 1, res)) : EE d m pc ls (vi y :: vi x :: r) S J K R = EE d m (pc + 1) ls (vi (jshr x y) :: r) S J K R := by
  refine E_pure hf ?_; rw [jshr, ← vi_of]; rfl
theorem EE_iushr (hf : mm_fetch m pc = some (.iushr, 1, res)) : EE d m pc ls (vi y :: vi x :: r) S J K R = EE d m (pc + 1) ls (vi (jushr x y) :: r) S J K R := by
  refine E_pure hf ?_; rw [jushr, ← vi_of]; rfl
theorem iI_ne0 (h0 : y ≠ 0) (h1 : -2147483648 ≤ y) (h2 : y ≤ 2147483647) : ¬ iI y = 0 := fun h => h0 (by have := congrArg Int32.toInt h; rw [iI_toInt h1 h2] at this; simpa using this)
theorem lL_ne0 (h0 : y ≠ 0) (h1 : -9223372036854775808 ≤ y) (h2 : y ≤ 9223372036854775807) : ¬ lL y = 0 := fun h => h0 (by have := congrArg Int64.toInt h; rw [lL_toInt h1 h2] at this; simpa using this)
theorem EE_irem (hf : mm_fetch m pc = some (.irem, 1, res)) (h0 : y ≠ 0) (h1 : -2147483648 ≤ y) (h2 : y ≤ 2147483647) : EE d m pc ls (vi y :: vi x :: r) S J K R = EE d m (pc + 1) ls (vi (jrem x y) :: r) S J K R := by
  refine E_pure hf ?_
  rw [jrem, ← vi_of]
  show (match (if iI y = 0 then none else some (iI x - iI x / iI y * iI y)) with
    | some z => some (ls, Value.int z :: r)
    | none => none) = _
  rw [if_neg (iI_ne0 h0 h1 h2)]
theorem EE_ladd (hf : mm_fetch m pc = some (.ladd, 1, res)) : EE d m pc ls (vl y :: vl x :: r) S J K R = EE d m (pc + 1) ls (vl (x + y) :: r) S J K R := by
  refine E_pure hf ?_; show some (ls, Value.long (lL x + lL y) :: r) = _; rw [lL_add]; rfl
theorem EE_lmul (hf : mm_fetch m pc = some (.lmul, 1, res)) : EE d m pc ls (vl y :: vl x :: r) S J K R = EE d m (pc + 1) ls (vl (x * y) :: r) S J K R := by
  refine E_pure hf ?_; show some (ls, Value.long (lL x * lL y) :: r) = _; rw [lL_mul]; rfl
theorem EE_land (hf : mm_fetch m pc = some (.land, 1, res)) : EE d m pc ls (vl y :: vl x :: r) S J K R = EE d m (pc + 1) ls (vl (jand64 x y) :: r) S J K R := by
  refine E_pure hf ?_; rw [jand64, ← vl_of]; rfl
theorem EE_lor (hf : mm_fetch m pc = some (.lor, 1, res)) : EE d m pc ls (vl y :: vl x :: r) S J K R = EE d m (pc + 1) ls (vl (jor64 x y) :: r) S J K R := by
  refine E_pure hf ?_; rw [jor64, ← vl_of]; rfl
theorem EE_lshl (hf : mm_fetch m pc = some (.lshl, 1, res)) : EE d m pc ls (vi y :: vl x :: r) S J K R = EE d m (pc + 1) ls (vl (jshl64 x y) :: r) S J K R := by
  refine E_pure hf ?_; rw [jshl64, ← vl_of]; rfl
theorem EE_ldiv (hf : mm_fetch m pc = some (.ldiv, 1, res)) (h0 : y ≠ 0) (h1 : -9223372036854775808 ≤ y) (h2 : y ≤ 9223372036854775807) : EE d m pc ls (vl y :: vl x :: r) S J K R = EE d m (pc + 1) ls (vl (jdiv64 x y) :: r) S J K R := by
  refine E_pure hf ?_
  rw [jdiv64, ← vl_of]
  show (match (if lL y = 0 then none else some (Value.long (lL x / lL y))) with
    | some z => some (ls, z :: r)
    | none => none) = _
  rw [if_neg (lL_ne0 h0 h1 h2)]
theorem EE_lrem (hf : mm_fetch m pc = some (.lrem, 1, res)) (h0 : y ≠ 0) (h1 : -9223372036854775808 ≤ y) (h2 : y ≤ 9223372036854775807) : EE d m pc ls (vl y :: vl x :: r) S J K R = EE d m (pc + 1) ls (vl (jrem64 x y) :: r) S J K R := by
  refine E_pure hf ?_
  rw [jrem64, ← vl_of]
  show (match (if lL y = 0 then none else some (Value.long (lL x - lL x / lL y * lL y))) with
    | some z => some (ls, z :: r)
    | none => none) = _
  rw [if_neg (lL_ne0 h0 h1 h2)]
theorem EE_lcmp (hf : mm_fetch m pc = some (.lcmp, 1, res)) (h1 : -9223372036854775808 ≤ x) (h2 : x ≤ 9223372036854775807) (h3 : -9223372036854775808 ≤ y) (h4 : y ≤ 9223372036854775807) : EE d m pc ls (vl y :: vl x :: r) S J K R = EE d m (pc + 1) ls (vi (jcmp x y) :: r) S J K R := by
  refine E_pure hf ?_
  show some (ls, Value.int (lg_cmp (lL x) (lL y)) :: r) = _
  have e : lg_cmp (lL x) (lL y) = iI (jcmp x y) := by
    unfold lg_cmp jcmp
    simp only [gt_iff_lt, Int64.lt_iff_toInt_lt, ← Int64.toInt_inj, lL_toInt h1 h2, lL_toInt h3 h4]
    by_cases ha : y < x
    · rw [if_pos ha, if_neg (by omega), if_neg (by omega)]; rfl
    · by_cases hb : x = y
      · rw [if_neg ha, if_pos hb, if_neg (by omega), if_pos hb]; rfl
      · rw [if_neg ha, if_neg hb, if_pos (by omega)]; rfl
  rw [e]; rfl
theorem EE_ineg (hf : mm_fetch m pc = some (.ineg, 1, res)) : EE d m pc ls (vi x :: r) S J K R = EE d m (pc + 1) ls (vi (-x) :: r) S J K R := by
  refine E_pure hf ?_; show some (ls, Value.int (-iI x) :: r) = _; rw [iI_neg]; rfl
theorem EE_lneg (hf : mm_fetch m pc = some (.lneg, 1, res)) : EE d m pc ls (vl x :: r) S J K R = EE d m (pc + 1) ls (vl (-x) :: r) S J K R := by
  refine E_pure hf ?_; show some (ls, Value.long (-lL x) :: r) = _; rw [lL_neg]; rfl
theorem EE_i2l (hf : mm_fetch m pc = some (.i2l, 1, res)) (h1 : -2147483648 ≤ x) (h2 : x ≤ 2147483647) : EE d m pc ls (vi x :: r) S J K R = EE d m (pc + 1) ls (vl x :: r) S J K R := by
  refine E_pure hf ?_; show some (ls, Value.long (iI x).toInt64 :: r) = _; rw [iI_i2l h1 h2]; rfl
theorem EE_i2b (hf : mm_fetch m pc = some (.i2b, 1, res)) : EE d m pc ls (vi x :: r) S J K R = EE d m (pc + 1) ls (vi (ji2b x) :: r) S J K R := by
  refine E_pure hf ?_; rw [ji2b, ← vi_of]; rfl
theorem EE_i2s (hf : mm_fetch m pc = some (.i2s, 1, res)) : EE d m pc ls (vi x :: r) S J K R = EE d m (pc + 1) ls (vi (ji2s x) :: r) S J K R := by
  refine E_pure hf ?_; rw [ji2s, ← vi_of]; rfl
theorem EE_l2i (hf : mm_fetch m pc = some (.l2i, 1, res)) : EE d m pc ls (vl x :: r) S J K R = EE d m (pc + 1) ls (vi (jl2i x) :: r) S J K R := by
  refine E_pure hf ?_; rw [jl2i, ← vi_of]; rfl
/-- java.lang.Math -/
theorem EE_abs {idx : Nat} (hf : mm_fetch m pc = some (.invokestatic idx, 3, -3)) (hc : mm_cats r ≤ 8) (h1 : -9223372036854775808 ≤ x) (h2 : x ≤ 9223372036854775807) : EE d m pc ls (vl x :: r) S J K R = EE d m (pc + 3) ls (vl (if 0 < x then x else -x) :: r) S J K R := by
  refine E_pure hf ?_
  show (match (if mm_cats r ≤ 8 then some (Value.long (if 0 < lL x then lL x else -lL x) :: r) else none) with
    | some q => some (ls, q)
    | none => none) = _
  rw [if_pos hc]
  have e : (0 < lL x) ↔ 0 < x := by rw [Int64.lt_iff_toInt_lt, lL_toInt h1 h2]; simp
  by_cases h : 0 < x
  · rw [if_pos (e.mpr h), if_pos h]; rfl
  · rw [if_neg (fun q => h (e.mp q)), if_neg h, lL_neg]; rfl
theorem EE_max {idx : Nat} (hf : mm_fetch m pc = some (.invokestatic idx, 3, -4)) (hc : mm_cats r ≤ 8) (h1 : -2147483648 ≤ x) (h2 : x ≤ 2147483647) (h3 : -2147483648 ≤ y) (h4 : y ≤ 2147483647) : EE d m pc ls (vi y :: vi x :: r) S J K R = EE d m (pc + 3) ls (vi (if x < y then y else x) :: r) S J K R := by
  refine E_pure hf ?_
  show (match (if mm_cats r ≤ 8 then some (Value.int (if iI x < iI y then iI y else iI x) :: r) else none) with
    | some q => some (ls, q)
    | none => none) = _
  rw [if_pos hc]
  have e : (iI x < iI y) ↔ x < y := by rw [Int32.lt_iff_toInt_lt, iI_toInt h1 h2, iI_toInt h3 h4]
  by_cases h : x < y
  · rw [if_pos (e.mpr h), if_pos h]; rfl
  · rw [if_neg (fun q => h (e.mp q)), if_neg h]; rfl
theorem EE_min {idx : Nat} (hf : mm_fetch m pc = some (.invokestatic idx, 3, -5)) (hc : mm_cats r ≤ 8) (h1 : -2147483648 ≤ x) (h2 : x ≤ 2147483647) (h3 : -2147483648 ≤ y) (h4 : y ≤ 2147483647) : EE d m pc ls (vi y :: vi x :: r) S J K R = EE d m (pc + 3) ls (vi (if y < x then y else x) :: r) S J K R := by
  refine E_pure hf ?_
  show (match (if mm_cats r ≤ 8 then some (Value.int (if iI y < iI x then iI y else iI x) :: r) else none) with
    | some q => some (ls, q)
    | none => none) = _
  rw [if_pos hc]
  have e : (iI y < iI x) ↔ y < x := by rw [Int32.lt_iff_toInt_lt, iI_toInt h1 h2, iI_toInt h3 h4]
  by_cases h : y < x
  · rw [if_pos (e.mpr h), if_pos h]; rfl
  · rw [if_neg (fun q => h (e.mp q)), if_neg h]; rfl
/-- jumps -/
theorem EE_goto {o : Int} (hf : mm_fetch m pc = some (.goto o, 3, res)) (ht : mm_tgt pc o = some t) : EE d m pc ls st S J K R = EE d m t ls st S J K R := by
  refine E_jump hf rfl ?_; unfold mm_jump; simp only [mm_kind, mm_off, ht]
theorem EE_if {c : Jvm.ClassFile.Cond} {o : Int} (hf : mm_fetch m pc = some (.ifCond c o, 3, res)) (ht : mm_tgt pc o = some t) (h1 : -2147483648 ≤ x) (h2 : x ≤ 2147483647) : EE d m pc ls (vi x :: r) S J K R = if mm_c1 c x = true then EE d m t ls r S J K R else EE d m (pc + 3) ls r S J K R := by
  have e : (iI x).toInt = x := iI_toInt h1 h2
  by_cases h : mm_c1 c x = true
  · rw [if_pos h]
    refine E_jump hf rfl ?_; unfold mm_jump; simp only [mm_kind, mm_off, vi, e, h, if_true, ht]
  · rw [if_neg h]
    refine E_jump hf rfl ?_; unfold mm_jump; simp only [mm_kind, mm_off, vi, e, if_neg h]
    rw [show mm_tgt pc ((3 : Nat) : Int) = some (pc + 3) by unfold mm_tgt; rw [if_pos (by omega)]; exact congrArg some (by omega)]
theorem EE_icmp {c : Jvm.ClassFile.Cond} {o : Int} (hf : mm_fetch m pc = some (.if_icmp c o, 3, res)) (ht : mm_tgt pc o = some t) (h1 : -2147483648 ≤ x) (h2 : x ≤ 2147483647) (h3 : -2147483648 ≤ y) (h4 : y ≤ 2147483647) : EE d m pc ls (vi y :: vi x :: r) S J K R = if mm_c2 c x y = true then EE d m t ls r S J K R else EE d m (pc + 3) ls r S J K R := by
  have e : (iI x).toInt = x := iI_toInt h1 h2
  have e2 : (iI y).toInt = y := iI_toInt h3 h4
  by_cases h : mm_c2 c x y = true
  · rw [if_pos h]
    refine E_jump hf rfl ?_; unfold mm_jump; simp only [mm_kind, mm_off, vi, e, e2, h, if_true, ht]
  · rw [if_neg h]
    refine E_jump hf rfl ?_; unfold mm_jump; simp only [mm_kind, mm_off, vi, e, e2, if_neg h]
    rw [show mm_tgt pc ((3 : Nat) : Int) = some (pc + 3) by unfold mm_tgt; rw [if_pos (by omega)]; exact congrArg some (by omega)]
theorem EE_ifeq {o : Int} (hf : mm_fetch m pc = some (.ifCond .eq o, 3, res)) (ht : mm_tgt pc o = some t) (h1 : -2147483648 ≤ x) (h2 : x ≤ 2147483647) : EE d m pc ls (vi x :: r) S J K R = if x = 0 then EE d m t ls r S J K R else EE d m (pc + 3) ls r S J K R := by
  rw [EE_if hf ht h1 h2]; simp only [mm_c1, decide_eq_true_eq]
theorem EE_ifne {o : Int} (hf : mm_fetch m pc = some (.ifCond .ne o, 3, res)) (ht : mm_tgt pc o = some t) (h1 : -2147483648 ≤ x) (h2 : x ≤ 2147483647) : EE d m pc ls (vi x :: r) S J K R = if x = 0 then EE d m (pc + 3) ls r S J K R else EE d m t ls r S J K R := by
  rw [EE_if hf ht h1 h2]; simp only [mm_c1, decide_eq_true_eq]; split <;> simp_all
theorem EE_iflt {o : Int} (hf : mm_fetch m pc = some (.ifCond .lt o, 3, res)) (ht : mm_tgt pc o = some t) (h1 : -2147483648 ≤ x) (h2 : x ≤ 2147483647) : EE d m pc ls (vi x :: r) S J K R = if x < 0 then EE d m t ls r S J K R else EE d m (pc + 3) ls r S J K R := by
  rw [EE_if hf ht h1 h2]; simp only [mm_c1, decide_eq_true_eq]
theorem EE_ifge {o : Int} (hf : mm_fetch m pc = some (.ifCond .ge o, 3, res)) (ht : mm_tgt pc o = some t) (h1 : -2147483648 ≤ x) (h2 : x ≤ 2147483647) : EE d m pc ls (vi x :: r) S J K R = if 0 ≤ x then EE d m t ls r S J K R else EE d m (pc + 3) ls r S J K R := by
  rw [EE_if hf ht h1 h2]; simp only [mm_c1, decide_eq_true_eq]
theorem EE_ifgt {o : Int} (hf : mm_fetch m pc = some (.ifCond .gt o, 3, res)) (ht : mm_tgt pc o = some t) (h1 : -2147483648 ≤ x) (h2 : x ≤ 2147483647) : EE d m pc ls (vi x :: r) S J K R = if 0 < x then EE d m t ls r S J K R else EE d m (pc + 3) ls r S J K R := by
  rw [EE_if hf ht h1 h2]; simp only [mm_c1, decide_eq_true_eq]
theorem EE_ifle {o : Int} (hf : mm_fetch m pc = some (.ifCond .le o, 3, res)) (ht : mm_tgt pc o = some t) (h1 : -2147483648 ≤ x) (h2 : x ≤ 2147483647) : EE d m pc ls (vi x :: r) S J K R = if x ≤ 0 then EE d m t ls r S J K R else EE d m (pc + 3) ls r S J K R := by
  rw [EE_if hf ht h1 h2]; simp only [mm_c1, decide_eq_true_eq]
theorem EE_cmpeq {o : Int} (hf : mm_fetch m pc = some (.if_icmp .eq o, 3, res)) (ht : mm_tgt pc o = some t) (h1 : -2147483648 ≤ x) (h2 : x ≤ 2147483647) (h3 : -2147483648 ≤ y) (h4 : y ≤ 2147483647) : EE d m pc ls (vi y :: vi x :: r) S J K R = if x = y then EE d m t ls r S J K R else EE d m (pc + 3) ls r S J K R := by
  rw [EE_icmp hf ht h1 h2 h3 h4]; simp only [mm_c2, decide_eq_true_eq]
theorem EE_cmpne {o : Int} (hf : mm_fetch m pc = some (.if_icmp .ne o, 3, res)) (ht : mm_tgt pc o = some t) (h1 : -2147483648 ≤ x) (h2 : x ≤ 2147483647) (h3 : -2147483648 ≤ y) (h4 : y ≤ 2147483647) : EE d m pc ls (vi y :: vi x :: r) S J K R = if x = y then EE d m (pc + 3) ls r S J K R else EE d m t ls r S J K R := by
  rw [EE_icmp hf ht h1 h2 h3 h4]; simp only [mm_c2, decide_eq_true_eq]; split <;> simp_all
theorem EE_cmplt {o : Int} (hf : mm_fetch m pc = some (.if_icmp .lt o, 3, res)) (ht : mm_tgt pc o = some t) (h1 : -2147483648 ≤ x) (h2 : x ≤ 2147483647) (h3 : -2147483648 ≤ y) (h4 : y ≤ 2147483647) : EE d m pc ls (vi y :: vi x :: r) S J K R = if x < y then EE d m t ls r S J K R else EE d m (pc + 3) ls r S J K R := by
  rw [EE_icmp hf ht h1 h2 h3 h4]; simp only [mm_c2, decide_eq_true_eq]
theorem EE_cmpge {o : Int} (hf : mm_fetch m pc = some (.if_icmp .ge o, 3, res)) (ht : mm_tgt pc o = some t) (h1 : -2147483648 ≤ x) (h2 : x ≤ 2147483647) (h3 : -2147483648 ≤ y) (h4 : y ≤ 2147483647) : EE d m pc ls (vi y :: vi x :: r) S J K R = if y ≤ x then EE d m t ls r S J K R else EE d m (pc + 3) ls r S J K R := by
  rw [EE_icmp hf ht h1 h2 h3 h4]; simp only [mm_c2, decide_eq_true_eq]
theorem EE_cmpgt {o : Int} (hf : mm_fetch m pc = some (.if_icmp .gt o, 3, res)) (ht : mm_tgt pc o = some t) (h1 : -2147483648 ≤ x) (h2 : x ≤ 2147483647) (h3 : -2147483648 ≤ y) (h4 : y ≤ 2147483647) : EE d m pc ls (vi y :: vi x :: r) S J K R = if y < x then EE d m t ls r S J K R else EE d m (pc + 3) ls r S J K R := by
  rw [EE_icmp hf ht h1 h2 h3 h4]; simp only [mm_c2, decide_eq_true_eq]
theorem EE_cmple {o : Int} (hf : mm_fetch m pc = some (.if_icmp .le o, 3, res)) (ht : mm_tgt pc o = some t) (h1 : -2147483648 ≤ x) (h2 : x ≤ 2147483647) (h3 : -2147483648 ≤ y) (h4 : y ≤ 2147483647) : EE d m pc ls (vi y :: vi x :: r) S J K R = if x ≤ y then EE d m t ls r S J K R else EE d m (pc + 3) ls r S J K R := by
  rw [EE_icmp hf ht h1 h2 h3 h4]; simp only [mm_c2, decide_eq_true_eq]
theorem tgt3 : mm_tgt pc ((3 : Nat) : Int) = some (pc + 3) := by unfold mm_tgt; rw [if_pos (by omega)]; exact congrArg some (by omega)
theorem EE_ifnullN {o : Int} (hf : mm_fetch m pc = some (.ifnull o, 3, res)) (ht : mm_tgt pc o = some t) : EE d m pc ls (.null :: r) S J K R = EE d m t ls r S J K R := by
  refine E_jump hf rfl ?_; unfold mm_jump; simp only [mm_kind, mm_off, ht]
theorem EE_ifnullR {o : Int} (hf : mm_fetch m pc = some (.ifnull o, 3, res)) : EE d m pc ls (.ref q :: r) S J K R = EE d m (pc + 3) ls r S J K R := by
  refine E_jump hf rfl ?_; unfold mm_jump; simp only [mm_kind, mm_off, tgt3]
theorem EE_ifnonnullN {o : Int} (hf : mm_fetch m pc = some (.ifnonnull o, 3, res)) : EE d m pc ls (.null :: r) S J K R = EE d m (pc + 3) ls r S J K R := by
  refine E_jump hf rfl ?_; unfold mm_jump; simp only [mm_kind, mm_off, tgt3]
theorem EE_ifnonnullR {o : Int} (hf : mm_fetch m pc = some (.ifnonnull o, 3, res)) (ht : mm_tgt pc o = some t) : EE d m pc ls (.ref q :: r) S J K R = EE d m t ls r S J K R := by
  refine E_jump hf rfl ?_; unfold mm_jump; simp only [mm_kind, mm_off, ht]
end
