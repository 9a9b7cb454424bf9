/-! the small machine over integers: memories J (ints), K (longs), references R -/
def vi (z : Int) : Value := .int (iI z)
def vl (z : Int) : Value := .long (lL z)
def mm_i (J : Nat → Nat → Int) : mm_I := fun a j => iI (J a j)
def mm_l (K : Nat → Nat → Int) : mm_L := fun a j => lL (K a j)
noncomputable def EE (d m pc : Nat) (ls : mm_ls) (st : List Value) (S : mm_S) (J K : Nat → Nat → Int) (R : mm_R) : Option mm_O := E d m pc ls st S (mm_i J) (mm_l K) R
def ok (v : Option Value) (S : mm_S) (J K : Nat → Nat → Int) (R : mm_R) : Option mm_O := some (v, S, mm_i J, mm_l K, R)
noncomputable def kb (o : Option mm_O) (d m pc : Nat) (ls : mm_ls) (rest : List Value) : Option mm_O := o.bind (fun q => E (d + 1) m pc ls (q.1.toList ++ rest) q.2.1 q.2.2.1 q.2.2.2.1 q.2.2.2.2)
theorem kb_some {v : Value} {S : mm_S} {J K : Nat → Nat → Int} {R : mm_R} {d m pc : Nat} {ls : mm_ls} {rest : List Value} : kb (ok (some v) S J K R) d m pc ls rest = EE (d + 1) m pc ls (v :: rest) S J K R := rfl
theorem kb_none {S : mm_S} {J K : Nat → Nat → Int} {R : mm_R} {d m pc : Nat} {ls : mm_ls} {rest : List Value} : kb (ok none S J K R) d m pc ls rest = EE (d + 1) m pc ls rest S J K R := rfl
theorem kb_ite {c : Prop} {_ : Decidable c} {a b : Option mm_O} {d m pc : Nat} {ls : mm_ls} {rest : List Value} : kb (if c then a else b) d m pc ls rest = if c then kb a d m pc ls rest else kb b d m pc ls rest := by split <;> rfl
theorem iI_toInt {z : Int} (h1 : -2147483648 ≤ z) (h2 : z ≤ 2147483647) : (iI z).toInt = z := Int32.toInt_ofInt_of_le (by omega) (by omega)
theorem lL_toInt {z : Int} (h1 : -9223372036854775808 ≤ z) (h2 : z ≤ 9223372036854775807) : (lL z).toInt = z := Int64.toInt_ofInt_of_le (by omega) (by omega)
theorem iI_of (x : Int32) : iI x.toInt = x := Int32.ofInt_toInt x
theorem lL_of (x : Int64) : lL x.toInt = x := Int64.ofInt_toInt x
theorem vi_of (x : Int32) : Value.int x = vi x.toInt := by rw [vi, iI_of]
theorem vl_of (x : Int64) : Value.long x = vl x.toInt := by rw [vl, lL_of]
theorem iI_add (x y : Int) : iI x + iI y = iI (x + y) := (Int32.ofInt_add x y).symm
theorem iI_sub (x y : Int) : iI x - iI y = iI (x - y) := (Int32.ofInt_sub x y).symm
theorem iI_mul (x y : Int) : iI x * iI y = iI (x * y) := (Int32.ofInt_mul x y).symm
theorem iI_neg (x : Int) : -iI x = iI (-x) := (Int32.ofInt_neg x).symm
theorem lL_add (x y : Int) : lL x + lL y = lL (x + y) := (Int64.ofInt_add x y).symm
theorem lL_sub (x y : Int) : lL x - lL y = lL (x - y) := (Int64.ofInt_sub x y).symm
theorem lL_mul (x y : Int) : lL x * lL y = lL (x * y) := (Int64.ofInt_mul x y).symm
theorem lL_neg (x : Int) : -lL x = lL (-x) := (Int64.ofInt_neg x).symm
def jand (x y : Int) : Int := (iI x &&& iI y).toInt
def jor (x y : Int) : Int := (iI x ||| iI y).toInt
def jxor (x y : Int) : Int := (iI x ^^^ iI y).toInt
def jshl (x y : Int) : Int := (iI x <<< (iI y &&& 31)).toInt
def jshr (x y : Int) : Int := (iI x >>> (iI y &&& 31)).toInt
def jushr (x y : Int) : Int := (((iI x).toUInt32 >>> ((iI y).toUInt32 &&& Int32.toUInt32 31)).toInt32).toInt
def jrem (x y : Int) : Int := (iI x - iI x / iI y * iI y).toInt
def jand64 (x y : Int) : Int := (lL x &&& lL y).toInt
def jor64 (x y : Int) : Int := (lL x ||| lL y).toInt
def jshl64 (x y : Int) : Int := (lL x <<< ((iI y).toInt64 &&& 63)).toInt
def jdiv64 (x y : Int) : Int := (lL x / lL y).toInt
def jrem64 (x y : Int) : Int := (lL x - lL x / lL y * lL y).toInt
def ji2b (x : Int) : Int := ((iI x).toInt8.toInt32).toInt
def ji2s (x : Int) : Int := ((iI x).toInt16.toInt32).toInt
def jl2i (x : Int) : Int := ((lL x).toInt32).toInt
def jcmp (x y : Int) : Int := if x < y then -1 else if x = y then 0 else 1
theorem iI_i2l {x : Int} (h1 : -2147483648 ≤ x) (h2 : x ≤ 2147483647) : (iI x).toInt64 = lL x := by
  rw [← lL_of (iI x).toInt64, Int32.toInt_toInt64, iI_toInt h1 h2]
