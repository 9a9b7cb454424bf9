/-! the class reads the head -/
section
variable {L d e c : Nat} {f : Int → Int} {ver x : Int} {J K : mJ} {R : mm_R}
theorem rd_entryPlace : EE d 25 0 [some (.ref 31), some (vi x)] [] (SH L) J K R = ok (some (vi (4 + 3 * x))) (SH L) J K R := by
  simp (disch := first | assumption | omega | exact bi_lo | exact bi_hi | exact bi_01 | exact jcmp_lo | exact jcmp_hi | exact (jor_r _ _).1 | exact (jor_r _ _).2 | exact (jand_r _ _).1 | exact (jand_r _ _).2) only [x25_0, x25_1, x25_2, x25_3, x25_4, x25_5, kb_some, kb_none, clr_vi, clr_ref, clr_null, clr_none, va_rf_some, va_rf_none]
theorem rd_tableEnd : EE (d + 1) 26 0 [some (.ref 31)] [] (SH L) J K R = ok (some (vi (4 + 3 * J 31 4))) (SH L) J K R := by
  have s31 : (SH L)[31]? = some (2, 5) := rfl
  simp (disch := first | assumption | omega | exact bi_lo | exact bi_hi | exact bi_01 | exact jcmp_lo | exact jcmp_hi | exact (jor_r _ _).1 | exact (jor_r _ _).2 | exact (jand_r _ _).1 | exact (jand_r _ _).2) only [x26_0, x26_1, x26_2, x26_5, x26_8, kb_some, kb_none, clr_vi, clr_ref, clr_null, clr_none, va_rf_some, va_rf_none, rd_entryPlace]
theorem rd_offsetOf (h : RD L e c f ver J R) (hx : 0 ≤ x ∧ x ≤ 300) : EE (d + 1) 27 0 [some (.ref 31), some (vi x)] [] (SH L) J K R = ok (some (vi (f (4 + 3 * x + 1)))) (SH L) J K R := by
  have s31 : (SH L)[31]? = some (2, 5) := rfl
  have hs := h.2.1
  have hB := h.2.2.1.1
  have ha := RD_at (d := d) (K := K) h (4 + 3 * x + 1) (by omega)
  simp (disch := first | assumption | omega | exact bi_lo | exact bi_hi | exact bi_01 | exact jcmp_lo | exact jcmp_hi | exact (jor_r _ _).1 | exact (jor_r _ _).2 | exact (jand_r _ _).1 | exact (jand_r _ _).2) only [x27_0, x27_1, x27_4, x27_5, x27_6, x27_9, x27_10, x27_11, x27_14, kb_some, kb_none, clr_vi, clr_ref, clr_null, clr_none, va_rf_some, va_rf_none, rd_entryPlace, hs, ha]
theorem rd_endOf (h : RD L e c f ver J R) (hx : 0 ≤ x ∧ x ≤ 300) : EE (d + 2) 28 0 [some (.ref 31), some (vi x)] [] (SH L) J K R = ok (some (vi (f (4 + 3 * x + 1) + f (4 + 3 * x + 2) + 1))) (SH L) J K R := by
  have s31 : (SH L)[31]? = some (2, 5) := rfl
  have hs := h.2.1
  have hB := h.2.2.1.1
  have ha := RD_at (d := d + 1) (K := K) h (4 + 3 * x + 2) (by omega)
  have ho := rd_offsetOf (d := d) (K := K) h hx
  simp (disch := first | assumption | omega | exact bi_lo | exact bi_hi | exact bi_01 | exact jcmp_lo | exact jcmp_hi | exact (jor_r _ _).1 | exact (jor_r _ _).2 | exact (jand_r _ _).1 | exact (jand_r _ _).2) only [x28_0, x28_1, x28_2, x28_5, x28_6, x28_9, x28_10, x28_11, x28_14, x28_15, x28_16, x28_19, x28_20, x28_21, x28_22, kb_some, kb_none, clr_vi, clr_ref, clr_null, clr_none, va_rf_some, va_rf_none, rd_entryPlace, hs, ha, ho]
/-- an entry that is apart from the earlier ones that count -/
abbrev apart (f : Int → Int) (x o : Int) : Prop := f (4 + 3 * x + 1) + f (4 + 3 * x + 2) + 1 ≤ f (4 + 3 * o + 1) ∨ f (4 + 3 * o + 1) + f (4 + 3 * o + 2) + 1 ≤ f (4 + 3 * x + 1)
def counts (m o : Int) : Bool := jand (jshr m o) 1 = 1
/-- apart from those earlier entries o, o + 1 .. (i of them) that count by the bits m -/
def allB (f : Int → Int) (m x : Int) : Nat → Int → Bool
  | 0, _ => true
  | i + 1, o => (!counts m o || decide (apart f x o)) && allB f m x i (o + 1)
def sound (f : Int → Int) (n E m x : Int) : Bool := decide (4 + 3 * E ≤ f (4 + 3 * x + 1)) && decide (f (4 + 3 * x + 1) + f (4 + 3 * x + 2) + 1 ≤ n) && allB f m x x.toNat 0
theorem l_sound (h : RD L e c f ver J R) {m : Int} (hx : 0 ≤ x ∧ x ≤ 300) : ∀ (i : Nat) (o s : Int) (l7 : Option Value), (x - o).toNat = i → 0 ≤ o ∧ o ≤ x → (s = 0 ∨ s = 1) →
    EE (d + 3) 29 43 [some (.ref 31), some (vi x), some (vi m), some (vi (f (4 + 3 * x + 1))), some (vi (f (4 + 3 * x + 1) + f (4 + 3 * x + 2) + 1)), some (vi s), some (vi o), l7] [] (SH L) J K R = ok (some (vi (bi (s = 1 ∧ allB f m x i o = true)))) (SH L) J K R := by
  have s31 : (SH L)[31]? = some (2, 5) := rfl
  have hs := h.2.1
  have hB := h.2.2.1.1
  have f1 := RD_f h (4 + 3 * x + 1)
  have f2 := RD_f h (4 + 3 * x + 2)
  intro i
  induction i with
  | zero =>
    intro o s l7 hi ho h01
    simp (disch := first | assumption | omega | exact bi_lo | exact bi_hi | exact bi_01 | exact jcmp_lo | exact jcmp_hi | exact (jor_r _ _).1 | exact (jor_r _ _).2 | exact (jand_r _ _).1 | exact (jand_r _ _).2) only [x29_43, x29_45, x29_46, x29_110, x29_112, kb_some, kb_none, clr_vi, clr_ref, clr_null, clr_none, va_rf_some, va_rf_none, if_pos (show x ≤ o by omega), allB, and_true]
    rcases h01 with rfl | rfl <;> rfl
  | succ i ih =>
    intro o s l7 hi ho h01
    have ha := rd_offsetOf (d := d + 1) (K := K) h (x := o) (by omega)
    have hb := rd_endOf (d := d) (K := K) h (x := o) (by omega)
    have g1 := RD_f h (4 + 3 * o + 1)
    have g2 := RD_f h (4 + 3 * o + 2)
    rcases h01 with rfl | rfl
    · simp (disch := first | assumption | omega | exact bi_lo | exact bi_hi | exact bi_01 | exact jcmp_lo | exact jcmp_hi | exact (jor_r _ _).1 | exact (jor_r _ _).2 | exact (jand_r _ _).1 | exact (jand_r _ _).2) only [x29_43, x29_45, x29_46, x29_49, x29_51, x29_110, x29_112, kb_some, kb_none, clr_vi, clr_ref, clr_null, clr_none, va_rf_some, va_rf_none, if_neg (show ¬ x ≤ o by omega), if_true]
      rw [bi_f (by omega)]
    · have ih' := fun s l7 => ih (o + 1) s l7 (by omega) (by omega)
      by_cases c1 : jand (jshr m o) 1 = 1
      · have e1 : counts m o = true := by unfold counts; exact decide_eq_true c1
        have go : ∀ X, EE (d + 3) 29 43 [some (.ref 31), some (vi x), some (vi m), some (vi (f (4 + 3 * x + 1))), some (vi (f (4 + 3 * x + 1) + f (4 + 3 * x + 2) + 1)), some (vi (bi (apart f x o))), some (vi (o + 1)), some (vi 1)] [] (SH L) J K R = X → EE (d + 3) 29 43 [some (.ref 31), some (vi x), some (vi m), some (vi (f (4 + 3 * x + 1))), some (vi (f (4 + 3 * x + 1) + f (4 + 3 * x + 2) + 1)), some (vi 1), some (vi o), l7] [] (SH L) J K R = X := by
          intro X hX
          simp (disch := first | assumption | omega | exact bi_lo | exact bi_hi | exact bi_01 | exact jcmp_lo | exact jcmp_hi | exact (jor_r _ _).1 | exact (jor_r _ _).2 | exact (jand_r _ _).1 | exact (jand_r _ _).2) only [x29_43, x29_45, x29_46, kb_some, kb_none, clr_vi, clr_ref, clr_null, clr_none, va_rf_some, va_rf_none, if_neg (show ¬ x ≤ o by omega)]
          by_cases q1 : f (4 + 3 * x + 1) + f (4 + 3 * x + 2) + 1 ≤ f (4 + 3 * o + 1)
          · rw [bi_t (show apart f x o from Or.inl q1)] at hX
            simp (disch := first | assumption | omega | exact bi_lo | exact bi_hi | exact bi_01 | exact jcmp_lo | exact jcmp_hi | exact (jor_r _ _).1 | exact (jor_r _ _).2 | exact (jand_r _ _).1 | exact (jand_r _ _).2) only [x29_49, x29_51, x29_54, x29_55, x29_57, x29_58, x29_59, x29_60, x29_61, x29_64, x29_65, x29_68, x29_69, x29_71, x29_73, x29_76, x29_78, x29_79, x29_81, x29_84, x29_87, x29_88, x29_90, x29_93, x29_94, x29_97, x29_98, x29_101, x29_102, x29_104, x29_107, kb_some, kb_none, clr_vi, clr_ref, clr_null, clr_none, va_rf_some, va_rf_none, if_neg (show ¬ (1 : Int) = 0 by omega), if_pos c1, ha, hb, if_pos q1]
            exact hX
          · by_cases q2 : f (4 + 3 * o + 1) + f (4 + 3 * o + 2) + 1 ≤ f (4 + 3 * x + 1)
            · rw [bi_t (show apart f x o from Or.inr q2)] at hX
              simp (disch := first | assumption | omega | exact bi_lo | exact bi_hi | exact bi_01 | exact jcmp_lo | exact jcmp_hi | exact (jor_r _ _).1 | exact (jor_r _ _).2 | exact (jand_r _ _).1 | exact (jand_r _ _).2) only [x29_49, x29_51, x29_54, x29_55, x29_57, x29_58, x29_59, x29_60, x29_61, x29_64, x29_65, x29_68, x29_69, x29_71, x29_73, x29_76, x29_78, x29_79, x29_81, x29_84, x29_87, x29_88, x29_90, x29_93, x29_94, x29_97, x29_98, x29_101, x29_102, x29_104, x29_107, kb_some, kb_none, clr_vi, clr_ref, clr_null, clr_none, va_rf_some, va_rf_none, if_neg (show ¬ (1 : Int) = 0 by omega), if_pos c1, ha, hb, if_neg q1, if_neg (show ¬ f (4 + 3 * x + 1) < f (4 + 3 * o + 1) + f (4 + 3 * o + 2) + 1 by omega)]
              exact hX
            · rw [bi_f (show ¬ apart f x o from fun h => by rcases h with h | h; exact q1 h; exact q2 h)] at hX
              simp (disch := first | assumption | omega | exact bi_lo | exact bi_hi | exact bi_01 | exact jcmp_lo | exact jcmp_hi | exact (jor_r _ _).1 | exact (jor_r _ _).2 | exact (jand_r _ _).1 | exact (jand_r _ _).2) only [x29_49, x29_51, x29_54, x29_55, x29_57, x29_58, x29_59, x29_60, x29_61, x29_64, x29_65, x29_68, x29_69, x29_71, x29_73, x29_76, x29_78, x29_79, x29_81, x29_84, x29_87, x29_88, x29_90, x29_93, x29_94, x29_97, x29_98, x29_101, x29_102, x29_104, x29_107, kb_some, kb_none, clr_vi, clr_ref, clr_null, clr_none, va_rf_some, va_rf_none, if_neg (show ¬ (1 : Int) = 0 by omega), if_pos c1, ha, hb, if_neg q1, if_pos (show f (4 + 3 * x + 1) < f (4 + 3 * o + 1) + f (4 + 3 * o + 2) + 1 by omega)]
              exact hX
        rw [go _ (ih' _ _ bi_01)]
        congr 4
        simp only [allB, e1, Bool.not_true, Bool.false_or, Bool.and_eq_true, decide_eq_true_eq, true_and]
        by_cases q : apart f x o
        · rw [bi_t q]; simp [q]
        · rw [bi_f q]; simp [q]
      · have e1 : counts m o = false := by unfold counts; exact decide_eq_false c1
        have go : ∀ X, EE (d + 3) 29 43 [some (.ref 31), some (vi x), some (vi m), some (vi (f (4 + 3 * x + 1))), some (vi (f (4 + 3 * x + 1) + f (4 + 3 * x + 2) + 1)), some (vi 1), some (vi (o + 1)), some (vi 0)] [] (SH L) J K R = X → EE (d + 3) 29 43 [some (.ref 31), some (vi x), some (vi m), some (vi (f (4 + 3 * x + 1))), some (vi (f (4 + 3 * x + 1) + f (4 + 3 * x + 2) + 1)), some (vi 1), some (vi o), l7] [] (SH L) J K R = X := by
          intro X hX
          simp (disch := first | assumption | omega | exact bi_lo | exact bi_hi | exact bi_01 | exact jcmp_lo | exact jcmp_hi | exact (jor_r _ _).1 | exact (jor_r _ _).2 | exact (jand_r _ _).1 | exact (jand_r _ _).2) only [x29_43, x29_45, x29_46, kb_some, kb_none, clr_vi, clr_ref, clr_null, clr_none, va_rf_some, va_rf_none, if_neg (show ¬ x ≤ o by omega)]
          simp (disch := first | assumption | omega | exact bi_lo | exact bi_hi | exact bi_01 | exact jcmp_lo | exact jcmp_hi | exact (jor_r _ _).1 | exact (jor_r _ _).2 | exact (jand_r _ _).1 | exact (jand_r _ _).2) only [x29_49, x29_51, x29_54, x29_55, x29_57, x29_58, x29_59, x29_60, x29_61, x29_64, x29_65, x29_68, x29_69, x29_71, x29_73, x29_76, x29_78, x29_79, x29_81, x29_84, x29_87, x29_88, x29_90, x29_93, x29_94, x29_97, x29_98, x29_101, x29_102, x29_104, x29_107, kb_some, kb_none, clr_vi, clr_ref, clr_null, clr_none, va_rf_some, va_rf_none, if_neg (show ¬ (1 : Int) = 0 by omega), if_neg c1, if_true]
          exact hX
        rw [go _ (ih' _ _ (Or.inr rfl))]
        congr 4
        simp only [allB, e1, Bool.not_false, Bool.true_or, Bool.true_and]
end
