/-! how things are written -/
def lenN (v : Int) : Nat := if -128 ≤ v ∧ v ≤ 127 then 1 else if -32768 ≤ v ∧ v ≤ 32767 then 2 else if -8388608 ≤ v ∧ v ≤ 8388607 then 3 else 4
def nbL (v : Int) : Nat → List Int
  | 0 => []
  | k + 1 => jand (jshr v (8 * (k : Int))) 255 :: nbL v k
def leafB (g : Int → Int) (a : Da) : List Int := if a.1 = 110 then nbL a.2.1 (lenN a.2.1) else rowL g a.2.1.toNat a.2.2
def ckL (v : Int) : List Int → Int → Int
  | [], c => c
  | x :: l, c => ckL v l (ckS v c x)
def wrF (g : Int → Int) (v : Int) : (d : Nat) → Fo d → List Int
  | 0, _ => []
  | d + 1, F => List.foldr (fun (x : Da × Fo d) (r : List Int) => [x.1.1, ((if x.1.1 = 103 then wrF g v d x.2 else leafB g x.1).length : Int)] ++ (if x.1.1 = 103 then wrF g v d x.2 else leafB g x.1) ++ [ckL v (if x.1.1 = 103 then wrF g v d x.2 else leafB g x.1) 0] ++ r) [] F
def payT (g : Int → Int) (v : Int) (d : Nat) (x : Nd d) : List Int := if x.1.1 = 103 then wrF g v d x.2 else leafB g x.1
section
variable {g : Int → Int} {v : Int} {d : Nat}
theorem wrF_nil : wrF g v (d + 1) ([] : List (Nd d)) = [] := rfl
theorem wrF_cons {x : Nd d} {F : List (Nd d)} : wrF g v (d + 1) (x :: F : List (Nd d)) = [x.1.1, ((payT g v d x).length : Int)] ++ payT g v d x ++ [ckL v (payT g v d x) 0] ++ wrF g v (d + 1) (F : List (Nd d)) := rfl
theorem wrF_0 : wrF g v d (fo0 d) = [] := by cases d <;> rfl
theorem wrF_len {x : Nd d} {F : List (Nd d)} : (wrF g v (d + 1) (x :: F : List (Nd d))).length = 3 + (payT g v d x).length + (wrF g v (d + 1) (F : List (Nd d))).length := by
  rw [wrF_cons]; simp; omega
theorem nbL_len : ∀ k : Nat, (nbL v k).length = k := by
  intro k
  induction k with
  | zero => rfl
  | succ k ih => unfold nbL; rw [List.length_cons, ih]
theorem lenN_r : 1 ≤ lenN v ∧ lenN v ≤ 4 := by unfold lenN; (repeat' split) <;> omega
theorem leafB_len {a : Da} : (leafB g a).length = if a.1 = 110 then lenN a.2.1 else a.2.1.toNat := by
  unfold leafB
  split
  · exact nbL_len _
  · exact rowL_len _ _
/-- the entries, the first chunk at a place -/
def entL (g : Int → Int) (v : Int) : List (Nd 3) → Int → List Int
  | [], _ => []
  | x :: F, at_ => [x.1.1, at_, ((payT g v 3 x).length : Int)] ++ entL g v F (at_ + (payT g v 3 x).length + 1)
def chL (g : Int → Int) (v : Int) : List (Nd 3) → List Int
  | [] => []
  | x :: F => payT g v 3 x ++ [ckL v (payT g v 3 x) 0] ++ chL g v F
/-- the file that things come to -/
def fileL (g : Int → Int) (v : Int) (F : List (Nd 3)) : List Int := [67, 70, v, (F.length : Int)] ++ entL g v F (4 + 3 * (F.length : Int)) ++ chL g v F
theorem entL_len : ∀ (F : List (Nd 3)) (a : Int), (entL g v F a).length = 3 * F.length := by
  intro F
  induction F with
  | nil => intro a; rfl
  | cons x F ih => intro a; unfold entL; rw [List.length_append, ih, List.length_cons]; simp; omega
theorem chL_len {x : Nd 3} {F : List (Nd 3)} : (chL g v (x :: F)).length = (payT g v 3 x).length + 1 + (chL g v F).length := by
  rw [show chL g v (x :: F) = payT g v 3 x ++ [ckL v (payT g v 3 x) 0] ++ chL g v F from rfl]; simp; omega
theorem fileL_len {F : List (Nd 3)} : (fileL g v F).length = 4 + 3 * F.length + (chL g v F).length := by
  unfold fileL; simp [entL_len]; omega
end
theorem ckf_list {v : Int} {g : Int → Int} : ∀ (P : List Int) (p c : Int), (∀ (k : Nat) (h : k < P.length), g (p + k) = P[k]) → ckf v g P.length p c = ckL v P c := by
  intro P
  induction P with
  | nil => intro p c h; rfl
  | cons x P ih =>
    intro p c h
    have h0 := h 0 (by simp)
    rw [show p + ((0 : Nat) : Int) = p by omega] at h0
    rw [List.length_cons]
    show ckf v g P.length (p + 1) (ckS v c (g p)) = ckL v P (ckS v c x)
    rw [h0, ih (p + 1) _ (fun k hk => by
      have := h (k + 1) (by simpa using hk)
      rw [show p + 1 + (k : Int) = p + ((k + 1 : Nat) : Int) by omega, this]; rfl)]
    rfl
/-! bits -/
theorem jor_shl {w b : Int} (hw : -8388608 ≤ w ∧ w ≤ 8388607) (hb : 0 ≤ b ∧ b ≤ 255) : jor (jshl w 8) b = w * 256 + b := by
  have e1 : jshl w 8 = w * 256 := by
    have e : jshl w 8 = (iI w <<< (8 : Int32)).toInt := rfl
    have e2 : iI w <<< (8 : Int32) = iI w * 256 := by
      apply Int32.toBitVec_inj.mp
      rw [Int32.toBitVec_mul]
      show (iI w).toBitVec <<< (8#32) = (iI w).toBitVec * 256#32
      rw [BitVec.shiftLeft_eq']
      show (iI w).toBitVec <<< 8 = _
      rw [BitVec.shiftLeft_eq_mul_twoPow]
      rfl
    rw [e, e2, show (256 : Int32) = iI 256 from rfl, iI_mul, iI_toInt (by omega) (by omega)]
  rw [e1]
  have hx : ((iI (w * 256)).toBitVec &&& (iI b).toBitVec) = 0#32 := by
    apply BitVec.eq_of_toNat_eq
    show ((BitVec.ofInt 32 (w * 256)) &&& (BitVec.ofInt 32 b)).toNat = 0
    rw [BitVec.toNat_and, BitVec.toNat_ofInt, BitVec.toNat_ofInt]
    have h1 : ((w * 256) % ((2 ^ 32 : Nat) : Int)).toNat = (w % 16777216).toNat <<< 8 := by
      rw [Nat.shiftLeft_eq]
      omega
    have h2 : (b % ((2 ^ 32 : Nat) : Int)).toNat = b.toNat := by omega
    rw [h1, h2]
    apply Nat.eq_of_testBit_eq
    intro i
    rw [Nat.testBit_and, Nat.testBit_shiftLeft]
    by_cases hi : 8 ≤ i
    · have : b.toNat.testBit i = false := Nat.testBit_lt_two_pow (Nat.lt_of_lt_of_le (show b.toNat < 2 ^ 8 by omega) (Nat.pow_le_pow_right (by omega) hi))
      simp [this]
    · simp [hi]
  have e3 : iI (w * 256) ||| iI b = iI (w * 256) + iI b := by
    apply Int32.toBitVec_inj.mp
    rw [Int32.toBitVec_or, Int32.toBitVec_add]
    exact (BitVec.add_eq_or_of_and_eq_zero _ _ hx).symm
  unfold jor
  rw [e3, iI_add, iI_toInt (by omega) (by omega)]
theorem jshr_k {v : Int} (h : -2147483648 ≤ v ∧ v ≤ 2147483647) : jshr v 7 = v / 128 ∧ jshr v 15 = v / 32768 ∧ jshr v 23 = v / 8388608 := by
  have key : ∀ n : Nat, (BitVec.sshiftRight (iI v).toBitVec n).toInt = v / ((2 ^ n : Nat) : Int) := by
    intro n
    rw [BitVec.toInt_sshiftRight, Int.shiftRight_eq_div_pow]
    show (iI v).toInt / _ = _
    rw [iI_toInt h.1 h.2]
  exact ⟨key 7, key 15, key 23⟩
