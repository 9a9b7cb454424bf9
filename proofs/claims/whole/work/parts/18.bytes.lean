/-! Bytes -/
def bi (P : Prop) [Decidable P] : Int := if P then 1 else 0
theorem bi_lo {P : Prop} [Decidable P] : -2147483648 ≤ bi P := by unfold bi; split <;> omega
theorem bi_hi {P : Prop} [Decidable P] : bi P ≤ 2147483647 := by unfold bi; split <;> omega
theorem bi_01 {P : Prop} [Decidable P] : bi P = 0 ∨ bi P = 1 := by unfold bi; split <;> omega
theorem bi_0 {P : Prop} [Decidable P] : (bi P = 0) = ¬ P := by unfold bi; split <;> simp_all
theorem bi_t {P : Prop} [Decidable P] (h : P) : bi P = 1 := if_pos h
theorem bi_f {P : Prop} [Decidable P] (h : ¬ P) : bi P = 0 := if_neg h
theorem clr_vi {x : Int} : mm_clr (some (vi x)) = some (vi x) := rfl
theorem clr_ref {a : Nat} : mm_clr (some (.ref a)) = some (.ref a) := rfl
theorem clr_null : mm_clr (some .null) = some .null := rfl
theorem clr_none : mm_clr none = none := rfl
theorem va_rf_some {a : Nat} : va_rf (some a) = .ref a := rfl
theorem va_rf_none : va_rf none = .null := rfl
/-- a row of bytes: the object a, its cells b, so many -/
def isB (S : mm_S) (R : mm_R) (a b n : Nat) : Prop := S[a]? = some (0, 2) ∧ R a 0 = some b ∧ S[b]? = some (20, n) ∧ 2 ≤ b ∧ a ≠ b ∧ n ≤ 1000
section
variable {d a b n : Nat} {S : mm_S} {J K : Nat → Nat → Int} {R : mm_R} {x y z : Int}
theorem c_size (h : isB S R a b n) : EE d 1 0 [some (.ref a)] [] S J K R = ok (some (vi (J a 1))) S J K R := by
  obtain ⟨h1, h2, h3, h4, h5, h6⟩ := h
  simp (disch := first | assumption | omega | exact bi_lo | exact bi_hi | exact bi_01) only [x1_0, x1_1, x1_4, kb_some, kb_none, clr_vi, clr_ref, clr_null, clr_none, va_rf_some, va_rf_none]
theorem c_has (h : isB S R a b n) (hx : -2147483648 ≤ x ∧ x ≤ 2147483647) (hs : 0 ≤ J a 1 ∧ J a 1 ≤ n) : EE d 2 0 [some (.ref a), some (vi x)] [] S J K R = ok (some (vi (bi (0 ≤ x ∧ x < J a 1)))) S J K R := by
  obtain ⟨h1, h2, h3, h4, h5, h6⟩ := h
  simp (disch := first | assumption | omega | exact bi_lo | exact bi_hi | exact bi_01) only [x2_0, x2_1, x2_4, x2_5, x2_6, x2_9, x2_12, x2_13, x2_16, x2_17, kb_some, kb_none, clr_vi, clr_ref, clr_null, clr_none, va_rf_some, va_rf_none]
  unfold bi
  repeat' split
  all_goals first | rfl | omega
theorem c_byteAt (h : isB S R a b n) (hx : -2147483648 ≤ x ∧ x ≤ 2147483647) (hs : 0 ≤ J a 1 ∧ J a 1 ≤ n) : EE d 3 0 [some (.ref a), some (vi x)] [] S J K R = ok (some (vi (if 0 ≤ x ∧ x < J a 1 then J b x.toNat else -1))) S J K R := by
  obtain ⟨h1, h2, h3, h4, h5, h6⟩ := h
  by_cases c1 : x < 0
  · simp (disch := first | assumption | omega | exact bi_lo | exact bi_hi | exact bi_01) only [x3_0, x3_1, x3_4, x3_5, x3_6, x3_9, x3_12, x3_13, x3_16, x3_17, x3_18, x3_21, x3_22, kb_some, kb_none, clr_vi, clr_ref, clr_null, clr_none, va_rf_some, va_rf_none, if_pos c1]
    rw [if_neg (by omega)]
  · by_cases c2 : J a 1 ≤ x
    · simp (disch := first | assumption | omega | exact bi_lo | exact bi_hi | exact bi_01) only [x3_0, x3_1, x3_4, x3_5, x3_6, x3_9, x3_12, x3_13, x3_16, x3_17, x3_18, x3_21, x3_22, kb_some, kb_none, clr_vi, clr_ref, clr_null, clr_none, va_rf_some, va_rf_none, if_neg c1, if_pos c2]
      rw [if_neg (by omega)]
    · simp (disch := first | assumption | omega | exact bi_lo | exact bi_hi | exact bi_01) only [x3_0, x3_1, x3_4, x3_5, x3_6, x3_9, x3_12, x3_13, x3_16, x3_17, x3_18, x3_21, x3_22, kb_some, kb_none, clr_vi, clr_ref, clr_null, clr_none, va_rf_some, va_rf_none, if_neg c1, if_neg c2, h2]
      rw [if_pos (by omega)]
end
