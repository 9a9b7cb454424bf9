/-! Bytes -/
def bi (P : Prop) [Decidable P] : Int := if P then 1 else 0
theorem bi_lo {P : Prop} [Decidable P] : -2147483648 ≤ bi P := by unfold bi; split <;> omega
theorem bi_hi {P : Prop} [Decidable P] : bi P ≤ 2147483647 := by unfold bi; split <;> omega
theorem bi_01 {P : Prop} [Decidable P] : bi P = 0 ∨ bi P = 1 := by unfold bi; split <;> omega
theorem bi_0 {P : Prop} [Decidable P] : (bi P = 0) = ¬ P := by unfold bi; split <;> simp_all
theorem bi_t {P : Prop} [Decidable P] (h : P) : bi P = 1 := if_pos h
theorem bi_f {P : Prop} [Decidable P] (h : ¬ P) : bi P = 0 := if_neg h
theorem clr_vi {x : Int} : mm_clr (some (vi x)) = some (vi x) := rfl
theorem clr_ref {a : Nat} : mm_clr (some (.ref a)) = some (.ref a) := rfl
theorem clr_null : mm_clr (some .null) = some .null := rfl
theorem clr_none : mm_clr none = none := rfl
theorem va_rf_some {a : Nat} : va_rf (some a) = .ref a := rfl
theorem va_rf_none : va_rf none = .null := rfl
theorem up_s {α : Type} {f : Nat → Nat → α} {a j : Nat} {v : α} : mm_up f a j v a j = v := by simp [mm_up]
theorem up_a {α : Type} {f : Nat → Nat → α} {a b i j : Nat} {v : α} (h : a ≠ b) : mm_up f b j v a i = f a i := by simp [mm_up, h]
theorem up_j {α : Type} {f : Nat → Nat → α} {a b i j : Nat} {v : α} (h : i ≠ j) : mm_up f b j v a i = f a i := by simp [mm_up, h]
theorem rw_s {α : Type} {f : Nat → Nat → α} {a i : Nat} {g : Nat → α} : mm_rw f a g a i = g i := by simp [mm_rw]
theorem rw_a {α : Type} {f : Nat → Nat → α} {a b i : Nat} {g : Nat → α} (h : a ≠ b) : mm_rw f b g a i = f a i := by simp [mm_rw, h]
theorem jand_r (x y : Int) : -2147483648 ≤ jand x y ∧ jand x y ≤ 2147483647 := ⟨Int32.le_toInt _, by have := Int32.toInt_lt (iI x &&& iI y); unfold jand; omega⟩
theorem jor_r (x y : Int) : -2147483648 ≤ jor x y ∧ jor x y ≤ 2147483647 := ⟨Int32.le_toInt _, by have := Int32.toInt_lt (iI x ||| iI y); unfold jor; omega⟩
theorem jxor_r (x y : Int) : -2147483648 ≤ jxor x y ∧ jxor x y ≤ 2147483647 := ⟨Int32.le_toInt _, by have := Int32.toInt_lt (iI x ^^^ iI y); unfold jxor; omega⟩
theorem jand_255 (z : Int) : jand z 255 = z % 256 := by
  have e : jand z 255 = ((iI z &&& 255).toBitVec).toInt := rfl
  rw [e, Int32.toBitVec_and]
  have e2 : (iI z).toBitVec = BitVec.ofInt 32 z := rfl
  have e3 : (255 : Int32).toBitVec = 255#32 := rfl
  rw [e2, e3]
  have h : (BitVec.ofInt 32 z &&& 255#32).toNat = (z % 256).toNat := by
    rw [BitVec.toNat_and, BitVec.toNat_ofInt, BitVec.toNat_ofNat, show 255 % 2 ^ 32 = 2 ^ 8 - 1 from rfl, Nat.and_two_pow_sub_one_eq_mod]
    omega
  rw [BitVec.toInt_eq_toNat_of_lt (by rw [h]; omega), h]
  omega
/-- a row of bytes: the object a, its cells b, so many -/
def isB (S : mm_S) (R : mm_R) (a b n : Nat) : Prop := S[a]? = some (0, 2) ∧ R a 0 = some b ∧ S[b]? = some (20, n) ∧ 2 ≤ b ∧ a ≠ b ∧ n ≤ 1000
section
variable {d a b n : Nat} {S : mm_S} {J K : Nat → Nat → Int} {R : mm_R} {x y z : Int}
theorem c_size (h : isB S R a b n) : EE d 1 0 [some (.ref a)] [] S J K R = ok (some (vi (J a 1))) S J K R := by
  obtain ⟨h1, h2, h3, h4, h5, h6⟩ := h
  simp (disch := first | assumption | omega | exact bi_lo | exact bi_hi | exact bi_01) only [x1_0, x1_1, x1_4, kb_some, kb_none, clr_vi, clr_ref, clr_null, clr_none, va_rf_some, va_rf_none]
theorem c_has (h : isB S R a b n) (hx : -2147483648 ≤ x ∧ x ≤ 2147483647) (hs : 0 ≤ J a 1 ∧ J a 1 ≤ n) : EE d 2 0 [some (.ref a), some (vi x)] [] S J K R = ok (some (vi (bi (0 ≤ x ∧ x < J a 1)))) S J K R := by
  obtain ⟨h1, h2, h3, h4, h5, h6⟩ := h
  simp (disch := first | assumption | omega | exact bi_lo | exact bi_hi | exact bi_01) only [x2_0, x2_1, x2_4, x2_5, x2_6, x2_9, x2_12, x2_13, x2_16, x2_17, kb_some, kb_none, clr_vi, clr_ref, clr_null, clr_none, va_rf_some, va_rf_none]
  unfold bi
  repeat' split
  all_goals first | rfl | omega
theorem c_byteAt (h : isB S R a b n) (hx : -2147483648 ≤ x ∧ x ≤ 2147483647) (hs : 0 ≤ J a 1 ∧ J a 1 ≤ n) : EE d 3 0 [some (.ref a), some (vi x)] [] S J K R = ok (some (vi (if 0 ≤ x ∧ x < J a 1 then J b x.toNat else -1))) S J K R := by
  obtain ⟨h1, h2, h3, h4, h5, h6⟩ := h
  by_cases c1 : x < 0
  · simp (disch := first | assumption | omega | exact bi_lo | exact bi_hi | exact bi_01) only [x3_0, x3_1, x3_4, x3_5, x3_6, x3_9, x3_12, x3_13, x3_16, x3_17, x3_18, x3_21, x3_22, kb_some, kb_none, clr_vi, clr_ref, clr_null, clr_none, va_rf_some, va_rf_none, if_pos c1]
    rw [if_neg (by omega)]
  · by_cases c2 : J a 1 ≤ x
    · simp (disch := first | assumption | omega | exact bi_lo | exact bi_hi | exact bi_01) only [x3_0, x3_1, x3_4, x3_5, x3_6, x3_9, x3_12, x3_13, x3_16, x3_17, x3_18, x3_21, x3_22, kb_some, kb_none, clr_vi, clr_ref, clr_null, clr_none, va_rf_some, va_rf_none, if_neg c1, if_pos c2]
      rw [if_neg (by omega)]
    · simp (disch := first | assumption | omega | exact bi_lo | exact bi_hi | exact bi_01) only [x3_0, x3_1, x3_4, x3_5, x3_6, x3_9, x3_12, x3_13, x3_16, x3_17, x3_18, x3_21, x3_22, kb_some, kb_none, clr_vi, clr_ref, clr_null, clr_none, va_rf_some, va_rf_none, if_neg c1, if_neg c2, h2]
      rw [if_pos (by omega)]
theorem c_append (h : isB S R a b n) (hs : 0 ≤ J a 1 ∧ J a 1 < n) : EE d 4 0 [some (.ref a), some (vi y)] [] S J K R = ok (some (vi 1)) S (mm_up (mm_up J b (J a 1).toNat y) a 1 (J a 1 + 1)) K R := by
  obtain ⟨h1, h2, h3, h4, h5, h6⟩ := h
  simp (disch := first | assumption | omega | exact bi_lo | exact bi_hi | exact bi_01) only [x4_0, x4_1, x4_4, x4_5, x4_8, x4_8l, x4_8a, x4_9, x4_12, x4_13, x4_14, x4_15, x4_18, x4_19, x4_22, x4_23, x4_24, x4_25, x4_26, x4_29, x4_30, x4_31, x4_34, x4_35, kb_some, kb_none, clr_vi, clr_ref, clr_null, clr_none, va_rf_some, va_rf_none, if_pos hs.2, h2, up_a]
theorem c_appendF (h : isB S R a b n) (hs : J a 1 = n) : EE d 4 0 [some (.ref a), some (vi y)] [] S J K R = ok (some (vi 0)) S J K R := by
  obtain ⟨h1, h2, h3, h4, h5, h6⟩ := h
  simp (disch := first | assumption | omega | exact bi_lo | exact bi_hi | exact bi_01) only [x4_0, x4_1, x4_4, x4_5, x4_8, x4_8l, x4_8a, x4_9, x4_12, x4_13, x4_14, x4_15, x4_18, x4_19, x4_22, x4_23, x4_24, x4_25, x4_26, x4_29, x4_30, x4_31, x4_34, x4_35, kb_some, kb_none, clr_vi, clr_ref, clr_null, clr_none, va_rf_some, va_rf_none, if_neg (show ¬ J a 1 < n by omega), h2, up_a]
theorem c_replace (h : isB S R a b n) (hx : 0 ≤ x ∧ x < J a 1) (hs : 0 ≤ J a 1 ∧ J a 1 ≤ n) : EE (d + 1) 5 0 [some (.ref a), some (vi x), some (vi y)] [] S J K R = ok none S (mm_up J b x.toNat y) K R := by
  have h' := h
  obtain ⟨h1, h2, h3, h4, h5, h6⟩ := h
  simp (disch := first | assumption | omega | exact bi_lo | exact bi_hi | exact bi_01) only [x5_0, x5_1, x5_2, x5_5, x5_8, x5_9, x5_12, x5_13, x5_14, x5_15, kb_some, kb_none, clr_vi, clr_ref, clr_null, clr_none, va_rf_some, va_rf_none, h2, c_has h' (show -2147483648 ≤ x ∧ x ≤ 2147483647 by omega) hs, bi_0, not_true_eq_false, not_false_eq_true, if_true, if_false, hx.1, hx.2, and_self, true_and]
theorem c_replaceN (h : isB S R a b n) (hr : -2147483648 ≤ x ∧ x ≤ 2147483647) (hx : ¬ (0 ≤ x ∧ x < J a 1)) (hs : 0 ≤ J a 1 ∧ J a 1 ≤ n) : EE (d + 1) 5 0 [some (.ref a), some (vi x), some (vi y)] [] S J K R = ok none S J K R := by
  have h' := h
  obtain ⟨h1, h2, h3, h4, h5, h6⟩ := h
  simp (disch := first | assumption | omega | exact bi_lo | exact bi_hi | exact bi_01) only [x5_0, x5_1, x5_2, x5_5, x5_8, x5_9, x5_12, x5_13, x5_14, x5_15, kb_some, kb_none, clr_vi, clr_ref, clr_null, clr_none, va_rf_some, va_rf_none, h2, c_has h' hr hs, bi_f hx, if_true]
theorem c_endBehind (h : isB S R a b n) (hr : -2147483648 ≤ x ∧ x ≤ 2147483647) (hs : 0 ≤ J a 1 ∧ J a 1 ≤ n) : EE d 6 0 [some (.ref a), some (vi x)] [] S J K R = ok none S (if 0 ≤ x ∧ x < J a 1 then mm_up J a 1 x else J) K R := by
  obtain ⟨h1, h2, h3, h4, h5, h6⟩ := h
  by_cases c1 : x < 0
  · simp (disch := first | assumption | omega | exact bi_lo | exact bi_hi | exact bi_01) only [x6_0, x6_1, x6_4, x6_5, x6_6, x6_9, x6_12, x6_13, x6_14, x6_17, kb_some, kb_none, clr_vi, clr_ref, clr_null, clr_none, va_rf_some, va_rf_none, if_pos c1]
    rw [if_neg (by omega)]
  · by_cases c2 : J a 1 ≤ x
    · simp (disch := first | assumption | omega | exact bi_lo | exact bi_hi | exact bi_01) only [x6_0, x6_1, x6_4, x6_5, x6_6, x6_9, x6_12, x6_13, x6_14, x6_17, kb_some, kb_none, clr_vi, clr_ref, clr_null, clr_none, va_rf_some, va_rf_none, if_neg c1, if_pos c2]
      rw [if_neg (by omega)]
    · simp (disch := first | assumption | omega | exact bi_lo | exact bi_hi | exact bi_01) only [x6_0, x6_1, x6_4, x6_5, x6_6, x6_9, x6_12, x6_13, x6_14, x6_17, kb_some, kb_none, clr_vi, clr_ref, clr_null, clr_none, va_rf_some, va_rf_none, if_neg c1, if_neg c2, h2]
      rw [if_pos (by omega)]
/-- a copy: size and cells -/
theorem c_copyFrom {a' b' n' : Nat} (h : isB S R a b n) (h' : isB S R a' b' n') (hs : 0 ≤ J a' 1 ∧ J a' 1 ≤ n' ∧ J a' 1 ≤ n) (hne : a ≠ b') :
    EE d 7 0 [some (.ref a), some (.ref a')] [] S J K R = ok none S (mm_rw (mm_up J a 1 (J a' 1)) b (va_cpy (J b') (mm_up J a 1 (J a' 1) b) 0 0 (J a' 1).toNat)) K R := by
  obtain ⟨h1, h2, h3, h4, h5, h6⟩ := h
  obtain ⟨g1, g2, g3, g4, g5, g6⟩ := h'
  by_cases hz : (n : Int) < J a' 1
  · omega
  have e0 : mm_up J a 1 (J a' 1) b' = J b' := mm_up_ne (Ne.symm hne)
  have e1 : (if (n : Int) < J a' 1 then (n : Int) else J a' 1) = J a' 1 := if_neg hz
  simp (disch := first | assumption | omega | exact bi_lo | exact bi_hi | exact bi_01) only [x7_0, x7_1, x7_1n, x7_2, x7_5, x7_6, x7_9, x7_9l, x7_9a, x7_10, x7_13, x7_16, x7_16n, x7_17, x7_20, x7_21, x7_22, x7_25, x7_26, x7_27, x7_30, x7_33, kb_some, kb_none, clr_vi, clr_ref, clr_null, clr_none, va_rf_some, va_rf_none, h2, g2, e1, up_s, e0, Int.toNat_zero]
/-! the check of a row of bytes -/
def bA (J : Nat → Nat → Int) (a b : Nat) (x : Int) : Int := if 0 ≤ x ∧ x < J a 1 then J b x.toNat else -1
def ckS (v c x : Int) : Int := if v = 1 then (c + x) % 256 else if v = 2 then jxor c x % 256 else (c * 31 + x) % 256
def ckf (v : Int) (g : Int → Int) : Nat → Int → Int → Int
  | 0, _, c => c
  | i + 1, p, c => ckf v g i (p + 1) (ckS v c (g p))
theorem l_checkBy (h : isB S R a b n) (hs : 0 ≤ J a 1 ∧ J a 1 ≤ n) {v p m : Int} (hv : -2147483648 ≤ v ∧ v ≤ 2147483647) (hp : 0 ≤ p ∧ p ≤ 100000) (hm : 0 ≤ m ∧ m ≤ 100000) : ∀ (i : Nat) (k c : Int) (l6 : Option Value), (m - k).toNat = i → 0 ≤ k ∧ k ≤ 100000 →
    EE (d + 1) 8 6 [some (.ref a), some (vi v), some (vi p), some (vi m), some (vi c), some (vi k), l6] [] S J K R = ok (some (vi (ckf v (bA J a b) i (p + k) c))) S J K R := by
  have h' := h
  obtain ⟨h1, h2, h3, h4, h5, h6⟩ := h
  intro i
  induction i with
  | zero =>
    intro k c l6 hi hk
    simp (disch := first | assumption | omega | exact bi_lo | exact bi_hi | exact bi_01) only [x8_0, x8_1, x8_3, x8_4, x8_6, x8_8, x8_9, x8_12, x8_13, x8_14, x8_16, x8_17, x8_20, x8_22, x8_23, x8_24, x8_27, x8_29, x8_31, x8_32, x8_34, x8_37, x8_38, x8_39, x8_42, x8_44, x8_46, x8_47, x8_49, x8_52, x8_54, x8_56, x8_57, x8_59, x8_60, x8_62, x8_64, x8_67, x8_68, x8_70, x8_73, x8_76, x8_78, kb_some, kb_none, clr_vi, clr_ref, clr_null, clr_none, va_rf_some, va_rf_none, if_pos (show m ≤ k by omega), ckf]
  | succ i ih =>
    intro k c l6 hi hk
    have hk2 : ¬ m ≤ k := by omega
    have hb := c_byteAt (d := d) (K := K) h' (show -2147483648 ≤ p + k ∧ p + k ≤ 2147483647 by omega) hs
    have ih' := fun c => ih (k + 1) c (some (vi (bA J a b (p + k)))) (by omega) (by omega)
    have e : ckf v (bA J a b) (i + 1) (p + k) c = ckf v (bA J a b) i (p + k + 1) (ckS v c (bA J a b (p + k))) := rfl
    have ep : p + (k + 1) = p + k + 1 := by omega
    rw [e]
    unfold bA at ih' ⊢
    by_cases c1 : v = 1
    · simp (disch := first | assumption | omega | exact bi_lo | exact bi_hi | exact bi_01) only [x8_0, x8_1, x8_3, x8_4, x8_6, x8_8, x8_9, x8_12, x8_13, x8_14, x8_16, x8_17, x8_20, x8_22, x8_23, x8_24, x8_27, x8_29, x8_31, x8_32, x8_34, x8_37, x8_38, x8_39, x8_42, x8_44, x8_46, x8_47, x8_49, x8_52, x8_54, x8_56, x8_57, x8_59, x8_60, x8_62, x8_64, x8_67, x8_68, x8_70, x8_73, x8_76, x8_78, kb_some, kb_none, clr_vi, clr_ref, clr_null, clr_none, va_rf_some, va_rf_none, if_neg hk2, hb, if_pos c1, jand_255, ih', ep, ckS]
    · by_cases c2 : v = 2
      · simp (disch := first | assumption | omega | exact bi_lo | exact bi_hi | exact bi_01) only [x8_0, x8_1, x8_3, x8_4, x8_6, x8_8, x8_9, x8_12, x8_13, x8_14, x8_16, x8_17, x8_20, x8_22, x8_23, x8_24, x8_27, x8_29, x8_31, x8_32, x8_34, x8_37, x8_38, x8_39, x8_42, x8_44, x8_46, x8_47, x8_49, x8_52, x8_54, x8_56, x8_57, x8_59, x8_60, x8_62, x8_64, x8_67, x8_68, x8_70, x8_73, x8_76, x8_78, kb_some, kb_none, clr_vi, clr_ref, clr_null, clr_none, va_rf_some, va_rf_none, if_neg hk2, hb, if_neg c1, if_pos c2, jand_255, ih', ep, ckS]
      · simp (disch := first | assumption | omega | exact bi_lo | exact bi_hi | exact bi_01) only [x8_0, x8_1, x8_3, x8_4, x8_6, x8_8, x8_9, x8_12, x8_13, x8_14, x8_16, x8_17, x8_20, x8_22, x8_23, x8_24, x8_27, x8_29, x8_31, x8_32, x8_34, x8_37, x8_38, x8_39, x8_42, x8_44, x8_46, x8_47, x8_49, x8_52, x8_54, x8_56, x8_57, x8_59, x8_60, x8_62, x8_64, x8_67, x8_68, x8_70, x8_73, x8_76, x8_78, kb_some, kb_none, clr_vi, clr_ref, clr_null, clr_none, va_rf_some, va_rf_none, if_neg hk2, hb, if_neg c1, if_neg c2, jand_255, ih', ep, ckS]
theorem c_checkBy (h : isB S R a b n) (hs : 0 ≤ J a 1 ∧ J a 1 ≤ n) {v p m : Int} (hv : -2147483648 ≤ v ∧ v ≤ 2147483647) (hp : 0 ≤ p ∧ p ≤ 100000) (hm : 0 ≤ m ∧ m ≤ 100000) :
    EE (d + 1) 8 0 [some (.ref a), some (vi v), some (vi p), some (vi m), none, none, none] [] S J K R = ok (some (vi (ckf v (bA J a b) m.toNat p 0))) S J K R := by
  have hl := l_checkBy (d := d) (K := K) h hs hv hp hm m.toNat 0 0 none (by omega) (by omega)
  simp (disch := first | assumption | omega | exact bi_lo | exact bi_hi | exact bi_01) only [x8_0, x8_1, x8_3, x8_4, kb_some, kb_none, clr_vi, clr_ref, clr_null, clr_none, va_rf_some, va_rf_none]
  rw [hl, Int.add_zero]
end
