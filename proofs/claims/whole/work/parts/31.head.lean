/-! the class reads the head -/
section
variable {L d e c : Nat} {f : Int → Int} {ver x : Int} {J K : mJ} {R : mm_R}
theorem rd_entryPlace : EE d 25 0 [some (.ref 31), some (vi x)] [] (SH L) J K R = ok (some (vi (4 + 3 * x))) (SH L) J K R := by
  simp (disch := first | assumption | omega | exact bi_lo | exact bi_hi | exact bi_01 | exact jcmp_lo | exact jcmp_hi | exact (jor_r _ _).1 | exact (jor_r _ _).2 | exact (jand_r _ _).1 | exact (jand_r _ _).2) only [x25_0, x25_1, x25_2, x25_3, x25_4, x25_5, kb_some, kb_none, clr_vi, clr_ref, clr_null, clr_none, va_rf_some, va_rf_none]
theorem rd_tableEnd : EE (d + 1) 26 0 [some (.ref 31)] [] (SH L) J K R = ok (some (vi (4 + 3 * J 31 4))) (SH L) J K R := by
  have s31 : (SH L)[31]? = some (2, 5) := rfl
  simp (disch := first | assumption | omega | exact bi_lo | exact bi_hi | exact bi_01 | exact jcmp_lo | exact jcmp_hi | exact (jor_r _ _).1 | exact (jor_r _ _).2 | exact (jand_r _ _).1 | exact (jand_r _ _).2) only [x26_0, x26_1, x26_2, x26_5, x26_8, kb_some, kb_none, clr_vi, clr_ref, clr_null, clr_none, va_rf_some, va_rf_none, rd_entryPlace]
theorem rd_offsetOf (h : RD L e c f ver J R) (hx : 0 ≤ x ∧ x ≤ 300) : EE (d + 1) 27 0 [some (.ref 31), some (vi x)] [] (SH L) J K R = ok (some (vi (f (4 + 3 * x + 1)))) (SH L) J K R := by
  have s31 : (SH L)[31]? = some (2, 5) := rfl
  have hs := h.2.1
  have hB := h.2.2.1.1
  have ha := RD_at (d := d) (K := K) h (4 + 3 * x + 1) (by omega)
  simp (disch := first | assumption | omega | exact bi_lo | exact bi_hi | exact bi_01 | exact jcmp_lo | exact jcmp_hi | exact (jor_r _ _).1 | exact (jor_r _ _).2 | exact (jand_r _ _).1 | exact (jand_r _ _).2) only [x27_0, x27_1, x27_4, x27_5, x27_6, x27_9, x27_10, x27_11, x27_14, kb_some, kb_none, clr_vi, clr_ref, clr_null, clr_none, va_rf_some, va_rf_none, rd_entryPlace, hs, ha]
theorem rd_endOf (h : RD L e c f ver J R) (hx : 0 ≤ x ∧ x ≤ 300) : EE (d + 2) 28 0 [some (.ref 31), some (vi x)] [] (SH L) J K R = ok (some (vi (f (4 + 3 * x + 1) + f (4 + 3 * x + 2) + 1))) (SH L) J K R := by
  have s31 : (SH L)[31]? = some (2, 5) := rfl
  have hs := h.2.1
  have hB := h.2.2.1.1
  have ha := RD_at (d := d + 1) (K := K) h (4 + 3 * x + 2) (by omega)
  have ho := rd_offsetOf (d := d) (K := K) h hx
  simp (disch := first | assumption | omega | exact bi_lo | exact bi_hi | exact bi_01 | exact jcmp_lo | exact jcmp_hi | exact (jor_r _ _).1 | exact (jor_r _ _).2 | exact (jand_r _ _).1 | exact (jand_r _ _).2) only [x28_0, x28_1, x28_2, x28_5, x28_6, x28_9, x28_10, x28_11, x28_14, x28_15, x28_16, x28_19, x28_20, x28_21, x28_22, kb_some, kb_none, clr_vi, clr_ref, clr_null, clr_none, va_rf_some, va_rf_none, rd_entryPlace, hs, ha, ho]
/-- an entry that is apart from the earlier ones that count -/
abbrev apart (f : Int → Int) (x o : Int) : Prop := f (4 + 3 * x + 1) + f (4 + 3 * x + 2) + 1 ≤ f (4 + 3 * o + 1) ∨ f (4 + 3 * o + 1) + f (4 + 3 * o + 2) + 1 ≤ f (4 + 3 * x + 1)
def counts (m o : Int) : Bool := jand (jshr m o) 1 = 1
/-- apart from those earlier entries o, o + 1 .. (i of them) that count by the bits m -/
def allB (f : Int → Int) (m x : Int) : Nat → Int → Bool
  | 0, _ => true
  | i + 1, o => (!counts m o || decide (apart f x o)) && allB f m x i (o + 1)
def sound (f : Int → Int) (n E m x : Int) : Bool := decide (4 + 3 * E ≤ f (4 + 3 * x + 1)) && decide (f (4 + 3 * x + 1) + f (4 + 3 * x + 2) + 1 ≤ n) && allB f m x x.toNat 0
theorem l_sound (h : RD L e c f ver J R) {m : Int} (hx : 0 ≤ x ∧ x ≤ 300) : ∀ (i : Nat) (o s : Int) (l7 : Option Value), (x - o).toNat = i → 0 ≤ o ∧ o ≤ x → (s = 0 ∨ s = 1) →
    EE (d + 3) 29 43 [some (.ref 31), some (vi x), some (vi m), some (vi (f (4 + 3 * x + 1))), some (vi (f (4 + 3 * x + 1) + f (4 + 3 * x + 2) + 1)), some (vi s), some (vi o), l7] [] (SH L) J K R = ok (some (vi (bi (s = 1 ∧ allB f m x i o = true)))) (SH L) J K R := by
  have s31 : (SH L)[31]? = some (2, 5) := rfl
  have hs := h.2.1
  have hB := h.2.2.1.1
  have f1 := RD_f h (4 + 3 * x + 1)
  have f2 := RD_f h (4 + 3 * x + 2)
  intro i
  induction i with
  | zero =>
    intro o s l7 hi ho h01
    simp (disch := first | assumption | omega | exact bi_lo | exact bi_hi | exact bi_01 | exact jcmp_lo | exact jcmp_hi | exact (jor_r _ _).1 | exact (jor_r _ _).2 | exact (jand_r _ _).1 | exact (jand_r _ _).2) only [x29_43, x29_45, x29_46, x29_110, x29_112, kb_some, kb_none, clr_vi, clr_ref, clr_null, clr_none, va_rf_some, va_rf_none, if_pos (show x ≤ o by omega), allB, and_true]
    rcases h01 with rfl | rfl <;> rfl
  | succ i ih =>
    intro o s l7 hi ho h01
    have ha := rd_offsetOf (d := d + 1) (K := K) h (x := o) (by omega)
    have hb := rd_endOf (d := d) (K := K) h (x := o) (by omega)
    have g1 := RD_f h (4 + 3 * o + 1)
    have g2 := RD_f h (4 + 3 * o + 2)
    rcases h01 with rfl | rfl
    · simp (disch := first | assumption | omega | exact bi_lo | exact bi_hi | exact bi_01 | exact jcmp_lo | exact jcmp_hi | exact (jor_r _ _).1 | exact (jor_r _ _).2 | exact (jand_r _ _).1 | exact (jand_r _ _).2) only [x29_43, x29_45, x29_46, x29_49, x29_51, x29_110, x29_112, kb_some, kb_none, clr_vi, clr_ref, clr_null, clr_none, va_rf_some, va_rf_none, if_neg (show ¬ x ≤ o by omega), if_true]
      rw [bi_f (by omega)]
    · have ih' := fun s l7 => ih (o + 1) s l7 (by omega) (by omega)
      by_cases c1 : jand (jshr m o) 1 = 1
      · have e1 : counts m o = true := by unfold counts; exact decide_eq_true c1
        have go : ∀ X, EE (d + 3) 29 43 [some (.ref 31), some (vi x), some (vi m), some (vi (f (4 + 3 * x + 1))), some (vi (f (4 + 3 * x + 1) + f (4 + 3 * x + 2) + 1)), some (vi (bi (apart f x o))), some (vi (o + 1)), some (vi 1)] [] (SH L) J K R = X → EE (d + 3) 29 43 [some (.ref 31), some (vi x), some (vi m), some (vi (f (4 + 3 * x + 1))), some (vi (f (4 + 3 * x + 1) + f (4 + 3 * x + 2) + 1)), some (vi 1), some (vi o), l7] [] (SH L) J K R = X := by
          intro X hX
          simp (disch := first | assumption | omega | exact bi_lo | exact bi_hi | exact bi_01 | exact jcmp_lo | exact jcmp_hi | exact (jor_r _ _).1 | exact (jor_r _ _).2 | exact (jand_r _ _).1 | exact (jand_r _ _).2) only [x29_43, x29_45, x29_46, kb_some, kb_none, clr_vi, clr_ref, clr_null, clr_none, va_rf_some, va_rf_none, if_neg (show ¬ x ≤ o by omega)]
          by_cases q1 : f (4 + 3 * x + 1) + f (4 + 3 * x + 2) + 1 ≤ f (4 + 3 * o + 1)
          · rw [bi_t (show apart f x o from Or.inl q1)] at hX
            simp (disch := first | assumption | omega | exact bi_lo | exact bi_hi | exact bi_01 | exact jcmp_lo | exact jcmp_hi | exact (jor_r _ _).1 | exact (jor_r _ _).2 | exact (jand_r _ _).1 | exact (jand_r _ _).2) only [x29_49, x29_51, x29_54, x29_55, x29_57, x29_58, x29_59, x29_60, x29_61, x29_64, x29_65, x29_68, x29_69, x29_71, x29_73, x29_76, x29_78, x29_79, x29_81, x29_84, x29_87, x29_88, x29_90, x29_93, x29_94, x29_97, x29_98, x29_101, x29_102, x29_104, x29_107, kb_some, kb_none, clr_vi, clr_ref, clr_null, clr_none, va_rf_some, va_rf_none, if_neg (show ¬ (1 : Int) = 0 by omega), if_pos c1, ha, hb, if_pos q1]
            exact hX
          · by_cases q2 : f (4 + 3 * o + 1) + f (4 + 3 * o + 2) + 1 ≤ f (4 + 3 * x + 1)
            · rw [bi_t (show apart f x o from Or.inr q2)] at hX
              simp (disch := first | assumption | omega | exact bi_lo | exact bi_hi | exact bi_01 | exact jcmp_lo | exact jcmp_hi | exact (jor_r _ _).1 | exact (jor_r _ _).2 | exact (jand_r _ _).1 | exact (jand_r _ _).2) only [x29_49, x29_51, x29_54, x29_55, x29_57, x29_58, x29_59, x29_60, x29_61, x29_64, x29_65, x29_68, x29_69, x29_71, x29_73, x29_76, x29_78, x29_79, x29_81, x29_84, x29_87, x29_88, x29_90, x29_93, x29_94, x29_97, x29_98, x29_101, x29_102, x29_104, x29_107, kb_some, kb_none, clr_vi, clr_ref, clr_null, clr_none, va_rf_some, va_rf_none, if_neg (show ¬ (1 : Int) = 0 by omega), if_pos c1, ha, hb, if_neg q1, if_neg (show ¬ f (4 + 3 * x + 1) < f (4 + 3 * o + 1) + f (4 + 3 * o + 2) + 1 by omega)]
              exact hX
            · rw [bi_f (show ¬ apart f x o from fun h => by rcases h with h | h; exact q1 h; exact q2 h)] at hX
              simp (disch := first | assumption | omega | exact bi_lo | exact bi_hi | exact bi_01 | exact jcmp_lo | exact jcmp_hi | exact (jor_r _ _).1 | exact (jor_r _ _).2 | exact (jand_r _ _).1 | exact (jand_r _ _).2) only [x29_49, x29_51, x29_54, x29_55, x29_57, x29_58, x29_59, x29_60, x29_61, x29_64, x29_65, x29_68, x29_69, x29_71, x29_73, x29_76, x29_78, x29_79, x29_81, x29_84, x29_87, x29_88, x29_90, x29_93, x29_94, x29_97, x29_98, x29_101, x29_102, x29_104, x29_107, kb_some, kb_none, clr_vi, clr_ref, clr_null, clr_none, va_rf_some, va_rf_none, if_neg (show ¬ (1 : Int) = 0 by omega), if_pos c1, ha, hb, if_neg q1, if_pos (show f (4 + 3 * x + 1) < f (4 + 3 * o + 1) + f (4 + 3 * o + 2) + 1 by omega)]
              exact hX
        rw [go _ (ih' _ _ bi_01)]
        congr 4
        simp only [allB, e1, Bool.not_true, Bool.false_or, Bool.and_eq_true, decide_eq_true_eq, true_and]
        by_cases q : apart f x o
        · rw [bi_t q]; simp [q]
        · rw [bi_f q]; simp [q]
      · have e1 : counts m o = false := by unfold counts; exact decide_eq_false c1
        have go : ∀ X, EE (d + 3) 29 43 [some (.ref 31), some (vi x), some (vi m), some (vi (f (4 + 3 * x + 1))), some (vi (f (4 + 3 * x + 1) + f (4 + 3 * x + 2) + 1)), some (vi 1), some (vi (o + 1)), some (vi 0)] [] (SH L) J K R = X → EE (d + 3) 29 43 [some (.ref 31), some (vi x), some (vi m), some (vi (f (4 + 3 * x + 1))), some (vi (f (4 + 3 * x + 1) + f (4 + 3 * x + 2) + 1)), some (vi 1), some (vi o), l7] [] (SH L) J K R = X := by
          intro X hX
          simp (disch := first | assumption | omega | exact bi_lo | exact bi_hi | exact bi_01 | exact jcmp_lo | exact jcmp_hi | exact (jor_r _ _).1 | exact (jor_r _ _).2 | exact (jand_r _ _).1 | exact (jand_r _ _).2) only [x29_43, x29_45, x29_46, kb_some, kb_none, clr_vi, clr_ref, clr_null, clr_none, va_rf_some, va_rf_none, if_neg (show ¬ x ≤ o by omega)]
          simp (disch := first | assumption | omega | exact bi_lo | exact bi_hi | exact bi_01 | exact jcmp_lo | exact jcmp_hi | exact (jor_r _ _).1 | exact (jor_r _ _).2 | exact (jand_r _ _).1 | exact (jand_r _ _).2) only [x29_49, x29_51, x29_54, x29_55, x29_57, x29_58, x29_59, x29_60, x29_61, x29_64, x29_65, x29_68, x29_69, x29_71, x29_73, x29_76, x29_78, x29_79, x29_81, x29_84, x29_87, x29_88, x29_90, x29_93, x29_94, x29_97, x29_98, x29_101, x29_102, x29_104, x29_107, kb_some, kb_none, clr_vi, clr_ref, clr_null, clr_none, va_rf_some, va_rf_none, if_neg (show ¬ (1 : Int) = 0 by omega), if_neg c1, if_true]
          exact hX
        rw [go _ (ih' _ _ (Or.inr rfl))]
        congr 4
        simp only [allB, e1, Bool.not_false, Bool.true_or, Bool.true_and]
theorem rd_sound (h : RD L e c f ver J R) {m : Int} (hx : 0 ≤ x ∧ x ≤ 300) (hE : 0 ≤ J 31 4 ∧ J 31 4 ≤ 1000) :
    EE (d + 3) 29 0 [some (.ref 31), some (vi x), some (vi m), none, none, none, none, none] [] (SH L) J K R = ok (some (vi (bi (sound f (J e 1) (J 31 4) m x = true)))) (SH L) J K R := by
  have s31 : (SH L)[31]? = some (2, 5) := rfl
  have hs := h.2.1
  have hB := h.2.2.1.1
  have hn := h.2.2.2.2.1
  have f1 := RD_f h (4 + 3 * x + 1)
  have f2 := RD_f h (4 + 3 * x + 2)
  have ha := rd_offsetOf (d := d + 1) (K := K) h (x := x) (by omega)
  have hb := rd_endOf (d := d) (K := K) h (x := x) (by omega)
  have hz := c_size (d := d + 2) (J := J) (K := K) h.2.2.1
  have hl := fun s l7 => l_sound (d := d) (K := K) h (m := m) hx x.toNat 0 s l7 (by omega) (by omega)
  have ht := fun d => rd_tableEnd (L := L) (d := d) (J := J) (K := K) (R := R)
  unfold sound
  by_cases c1 : 4 + 3 * J 31 4 ≤ f (4 + 3 * x + 1)
  · by_cases c2 : f (4 + 3 * x + 1) + f (4 + 3 * x + 2) + 1 ≤ J e 1
    · simp (disch := first | assumption | omega | exact bi_lo | exact bi_hi | exact bi_01 | exact jcmp_lo | exact jcmp_hi | exact (jor_r _ _).1 | exact (jor_r _ _).2 | exact (jand_r _ _).1 | exact (jand_r _ _).2) only [x29_0, x29_1, x29_2, x29_5, x29_6, x29_7, x29_8, x29_11, x29_13, x29_14, x29_15, x29_18, x29_21, x29_23, x29_24, x29_27, x29_30, x29_33, x29_34, x29_37, x29_38, x29_40, x29_41, kb_some, kb_none, clr_vi, clr_ref, clr_null, clr_none, va_rf_some, va_rf_none, hs, ha, hb, hz, ht, if_neg (show ¬ f (4 + 3 * x + 1) < 4 + 3 * J 31 4 by omega), if_neg (show ¬ J e 1 < f (4 + 3 * x + 1) + f (4 + 3 * x + 2) + 1 by omega)]
      rw [hl _ _ (Or.inr rfl)]
      simp [c1, c2]
    · simp (disch := first | assumption | omega | exact bi_lo | exact bi_hi | exact bi_01 | exact jcmp_lo | exact jcmp_hi | exact (jor_r _ _).1 | exact (jor_r _ _).2 | exact (jand_r _ _).1 | exact (jand_r _ _).2) only [x29_0, x29_1, x29_2, x29_5, x29_6, x29_7, x29_8, x29_11, x29_13, x29_14, x29_15, x29_18, x29_21, x29_23, x29_24, x29_27, x29_30, x29_33, x29_34, x29_37, x29_38, x29_40, x29_41, kb_some, kb_none, clr_vi, clr_ref, clr_null, clr_none, va_rf_some, va_rf_none, hs, ha, hb, hz, ht, if_neg (show ¬ f (4 + 3 * x + 1) < 4 + 3 * J 31 4 by omega), if_pos (show J e 1 < f (4 + 3 * x + 1) + f (4 + 3 * x + 2) + 1 by omega)]
      rw [hl _ _ (Or.inl rfl)]
      simp [c1, c2]
  · simp (disch := first | assumption | omega | exact bi_lo | exact bi_hi | exact bi_01 | exact jcmp_lo | exact jcmp_hi | exact (jor_r _ _).1 | exact (jor_r _ _).2 | exact (jand_r _ _).1 | exact (jand_r _ _).2) only [x29_0, x29_1, x29_2, x29_5, x29_6, x29_7, x29_8, x29_11, x29_13, x29_14, x29_15, x29_18, x29_21, x29_23, x29_24, x29_27, x29_30, x29_33, x29_34, x29_37, x29_38, x29_40, x29_41, kb_some, kb_none, clr_vi, clr_ref, clr_null, clr_none, va_rf_some, va_rf_none, hs, ha, hb, hz, ht, if_pos (show f (4 + 3 * x + 1) < 4 + 3 * J 31 4 by omega)]
    rw [hl _ _ (Or.inl rfl)]
    simp [c1]
/-- where the head is wrong: what and the place, or nothing -/
def headF (f : Int → Int) (n : Int) : Option (Int × Int) :=
  if n ≤ 0 then some (3, n) else if f 0 ≠ 67 then some (1, 0)
  else if n ≤ 1 then some (3, n) else if f 1 ≠ 70 then some (1, 1)
  else if n ≤ 2 then some (3, n) else if ¬ (1 ≤ f 2 ∧ f 2 ≤ 3) then some (2, 2)
  else if n ≤ 3 then some (3, n) else if 6 < f 3 then some (5, 3)
  else if n ≤ 3 + 3 * f 3 then some (3, n) else none
/-- a part of the head -/
def HP (J : mJ) (o : Option (Int × Int)) (v : Option Value) (J' : mJ) : Prop :=
  FRM J J' ∧ match o with
    | some q => v = some (vi 0) ∧ (FH J [] → FH J' [(q.1, 0, q.2)])
    | none => v = some (vi 1) ∧ J' = J
theorem rd_isThere (h : RD L e c f ver J R) (h32 : 0 ≤ J 32 3 ∧ J 32 3 ≤ 6) (hx : 0 ≤ x ∧ x ≤ 10000) :
    wp (SH L) (EE (d + 1) 24 0 [some (.ref 31), some (vi x)] [] (SH L) J K R) fun v J' K' R' => K' = K ∧ R' = R ∧ HP J (if J e 1 ≤ x then some (3, J e 1) else none) v J' := by
  have hR := h.1
  have hs := h.2.1
  have hB := h.2.2.1.1
  have hn := h.2.2.2.2.1
  have s31 : (SH L)[31]? = some (2, 5) := rfl; have r31_0 : R 31 0 = some 32 := rr_lk hR rfl; have r31_1 : R 31 1 = some 36 := rr_lk hR rfl; have s32 : (SH L)[32]? = some (1, 4) := rfl; have r32_0 : R 32 0 = some 33 := rr_lk hR rfl; have r32_1 : R 32 1 = some 34 := rr_lk hR rfl; have r32_2 : R 32 2 = some 35 := rr_lk hR rfl
  have hz := c_size (d := d) (J := J) (K := K) h.2.2.1
  have hh := c_has (d := d) (K := K) h.2.2.1 (show -2147483648 ≤ x ∧ x ≤ 2147483647 by omega) hn
  have h36 := h.2.2.2.2.2.2.2.2.1
  have h42 := h.2.2.2.2.2.2.2.2.2
  by_cases c1 : J e 1 ≤ x
  · simp (disch := first | assumption | omega | exact bi_lo | exact bi_hi | exact bi_01 | exact jcmp_lo | exact jcmp_hi | exact (jor_r _ _).1 | exact (jor_r _ _).2 | exact (jand_r _ _).1 | exact (jand_r _ _).2) only [x24_0, x24_1, x24_4, x24_5, x24_8, x24_11, x24_12, x24_15, x24_16, x24_17, x24_18, x24_21, x24_24, kb_some, kb_none, clr_vi, clr_ref, clr_null, clr_none, va_rf_some, va_rf_none, hs, hh, hz, bi_f (show ¬ (0 ≤ x ∧ x < J e 1) by omega), if_true]
    refine wp_kb (rd_raise (K := K) (L := L) (J := J) hR h32 h36 h42) ?_
    rintro v J1 K1 R1 ⟨rfl, rfl, rfl, q4, q5, q6, q7⟩
    simp (disch := first | assumption | omega | exact bi_lo | exact bi_hi | exact bi_01 | exact jcmp_lo | exact jcmp_hi | exact (jor_r _ _).1 | exact (jor_r _ _).2 | exact (jand_r _ _).1 | exact (jand_r _ _).2) only [x24_27, x24_30, x24_31, x24_34, x24_35, kb_some, kb_none, clr_vi, clr_ref, clr_null, clr_none, va_rf_some, va_rf_none, if_true]
    rw [if_pos c1]
    exact wp_ok ⟨rfl, rfl, q4, rfl, fun hf => q7 [] (by simp) hf⟩
  · simp (disch := first | assumption | omega | exact bi_lo | exact bi_hi | exact bi_01 | exact jcmp_lo | exact jcmp_hi | exact (jor_r _ _).1 | exact (jor_r _ _).2 | exact (jand_r _ _).1 | exact (jand_r _ _).2) only [x24_0, x24_1, x24_4, x24_5, x24_8, x24_11, x24_12, x24_15, x24_16, x24_17, x24_18, x24_21, x24_24, x24_27, x24_30, x24_31, x24_34, x24_35, kb_some, kb_none, clr_vi, clr_ref, clr_null, clr_none, va_rf_some, va_rf_none, hs, hh, hz, bi_t (show (0 ≤ x ∧ x < J e 1) by omega), if_neg (show ¬ (1 : Int) = 0 by omega)]
    rw [if_neg c1]
    exact wp_ok ⟨rfl, rfl, ⟨fr_refl, by omega, by omega, by omega, fun _ _ => ⟨rfl, rfl, rfl, rfl, rfl⟩, fun _ _ => rfl⟩, rfl, rfl⟩
end
