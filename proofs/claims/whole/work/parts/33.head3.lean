section
variable {L d e c : Nat} {f : Int → Int} {ver x : Int} {J K : mJ} {R : mm_R}
theorem rd_table (h : RD L e c f ver J R) (h32 : 0 ≤ J 32 3 ∧ J 32 3 ≤ 6) :
    wp (SH L) (EE (d + 2) 23 0 [some (.ref 31)] [] (SH L) J K R) fun v J' K' R' => K' = K ∧ R' = R ∧ HP (mm_up J 31 4 (f 3)) (if J e 1 ≤ 3 then some (3, J e 1) else if 6 < f 3 then some (5, 3) else if J e 1 ≤ 3 + 3 * f 3 then some (3, J e 1) else none) v J' := by
  have hR := h.1
  have hs := h.2.1
  have hB := h.2.2.1.1
  have hee := h.2.2.2.1
  have hn := h.2.2.2.2.1
  have s31 : (SH L)[31]? = some (2, 5) := rfl; have r31_0 : R 31 0 = some 32 := rr_lk hR rfl; have r31_1 : R 31 1 = some 36 := rr_lk hR rfl; have s32 : (SH L)[32]? = some (1, 4) := rfl; have r32_0 : R 32 0 = some 33 := rr_lk hR rfl; have r32_1 : R 32 1 = some 34 := rr_lk hR rfl; have r32_2 : R 32 2 = some 35 := rr_lk hR rfl
  have hf := RD_f h 3
  have hf0 := RD_f0 h (p := 3) (by omega)
  have ha := RD_at (d := d + 1) (K := K) h 3 (by omega)
  have h1 : RD L e c f ver (mm_up J 31 4 (f 3)) R := RD_31 h (by rw [up_j (by decide)]; exact h.2.2.2.2.2.2.2.1)
  have e31 : mm_up J 31 4 (f 3) 31 4 = f 3 := up_s
  have ee : mm_up J 31 4 (f 3) e 1 = J e 1 := by rw [up_ne (by omega)]
  have e32 : mm_up J 31 4 (f 3) 32 3 = J 32 3 := by rw [up_ne (by decide)]
  simp (disch := first | assumption | omega | exact bi_lo | exact bi_hi | exact bi_01 | exact jcmp_lo | exact jcmp_hi | exact (jor_r _ _).1 | exact (jor_r _ _).2 | exact (jand_r _ _).1 | exact (jand_r _ _).2) only [x23_0, x23_1, x23_2, x23_5, x23_6, x23_9, x23_12, x23_13, x23_14, kb_some, kb_none, clr_vi, clr_ref, clr_null, clr_none, va_rf_some, va_rf_none, hs, ha]
  have ht := fun x hx => rd_isThere (d := d) (K := K) (x := x) h1 (by rw [e32]; exact h32) hx
  rw [ee] at ht
  generalize mm_up J 31 4 (f 3) = J0 at *
  have h36 := h1.2.2.2.2.2.2.2.2.1
  have h42 := h1.2.2.2.2.2.2.2.2.2
  have hte := rd_tableEnd (L := L) (d := d) (J := J0) (K := K) (R := R)
  rw [e31] at hte
  refine wp_kb (ht 3 (by omega)) ?_
  rintro v J1 K1 R1 ⟨rfl, rfl, q3, q4⟩
  by_cases c1 : J e 1 ≤ 3
  · rw [if_pos c1] at q4 ⊢
    obtain ⟨rfl, q5⟩ := q4
    simp (disch := first | assumption | omega | exact bi_lo | exact bi_hi | exact bi_01 | exact jcmp_lo | exact jcmp_hi | exact (jor_r _ _).1 | exact (jor_r _ _).2 | exact (jand_r _ _).1 | exact (jand_r _ _).2) only [x23_17, x23_20, x23_21, x23_24, x23_26, x23_29, x23_30, x23_33, x23_34, x23_35, x23_36, x23_39, x23_42, x23_43, x23_44, x23_47, x23_48, x23_49, x23_52, x23_55, x23_56, x23_59, x23_60, kb_some, kb_none, clr_vi, clr_ref, clr_null, clr_none, va_rf_some, va_rf_none, if_true]
    exact wp_ok ⟨rfl, rfl, q3, rfl, q5⟩
  · rw [if_neg c1] at q4 ⊢
    obtain ⟨rfl, rfl⟩ := q4
    by_cases c2 : 6 < f 3
    · rw [if_pos c2]
      simp (disch := first | assumption | omega | exact bi_lo | exact bi_hi | exact bi_01 | exact jcmp_lo | exact jcmp_hi | exact (jor_r _ _).1 | exact (jor_r _ _).2 | exact (jand_r _ _).1 | exact (jand_r _ _).2) only [x23_17, x23_20, x23_21, x23_24, x23_26, x23_29, x23_30, x23_33, x23_34, x23_35, x23_36, kb_some, kb_none, clr_vi, clr_ref, clr_null, clr_none, va_rf_some, va_rf_none, e31, if_neg (show ¬ f 3 ≤ 6 by omega), if_neg (show ¬ (1 : Int) = 0 by omega)]
      refine wp_kb (rd_raise (L := L) hR (by rw [e32]; exact h32) h36 h42) ?_
      rintro v J2 K2 R2 ⟨rfl, rfl, rfl, p4, p5, p6, p7⟩
      simp (disch := first | assumption | omega | exact bi_lo | exact bi_hi | exact bi_01 | exact jcmp_lo | exact jcmp_hi | exact (jor_r _ _).1 | exact (jor_r _ _).2 | exact (jand_r _ _).1 | exact (jand_r _ _).2) only [x23_39, x23_42, x23_43, x23_44, x23_47, x23_48, x23_49, x23_52, x23_55, x23_56, x23_59, x23_60, kb_some, kb_none, clr_vi, clr_ref, clr_null, clr_none, va_rf_some, va_rf_none, if_true]
      exact wp_ok ⟨rfl, rfl, p4, rfl, fun hf => p7 [] (by simp) hf⟩
    · rw [if_neg c2]
      simp (disch := first | assumption | omega | exact bi_lo | exact bi_hi | exact bi_01 | exact jcmp_lo | exact jcmp_hi | exact (jor_r _ _).1 | exact (jor_r _ _).2 | exact (jand_r _ _).1 | exact (jand_r _ _).2) only [x23_17, x23_20, x23_21, x23_24, x23_26, x23_29, x23_30, x23_33, x23_34, x23_35, x23_36, x23_39, x23_42, x23_43, x23_44, x23_47, x23_48, x23_49, kb_some, kb_none, clr_vi, clr_ref, clr_null, clr_none, va_rf_some, va_rf_none, e31, hte, if_pos (show f 3 ≤ 6 by omega), if_neg (show ¬ (1 : Int) = 0 by omega)]
      have e4 : 4 + 3 * f 3 - 1 = 3 + 3 * f 3 := by omega
      rw [e4]
      refine wp_kb (ht (3 + 3 * f 3) (by omega)) ?_
      rintro v J2 K2 R2 ⟨rfl, rfl, p3, p4⟩
      by_cases c3 : J e 1 ≤ 3 + 3 * f 3
      · rw [if_pos c3] at p4 ⊢
        obtain ⟨rfl, p5⟩ := p4
        simp (disch := first | assumption | omega | exact bi_lo | exact bi_hi | exact bi_01 | exact jcmp_lo | exact jcmp_hi | exact (jor_r _ _).1 | exact (jor_r _ _).2 | exact (jand_r _ _).1 | exact (jand_r _ _).2) only [x23_52, x23_55, x23_56, x23_59, x23_60, kb_some, kb_none, clr_vi, clr_ref, clr_null, clr_none, va_rf_some, va_rf_none, if_true]
        exact wp_ok ⟨rfl, rfl, p3, rfl, p5⟩
      · rw [if_neg c3] at p4 ⊢
        obtain ⟨rfl, rfl⟩ := p4
        simp (disch := first | assumption | omega | exact bi_lo | exact bi_hi | exact bi_01 | exact jcmp_lo | exact jcmp_hi | exact (jor_r _ _).1 | exact (jor_r _ _).2 | exact (jand_r _ _).1 | exact (jand_r _ _).2) only [x23_52, x23_55, x23_56, x23_59, x23_60, kb_some, kb_none, clr_vi, clr_ref, clr_null, clr_none, va_rf_some, va_rf_none, if_neg (show ¬ (1 : Int) = 0 by omega)]
        exact wp_ok ⟨rfl, rfl, p3, rfl, rfl⟩
end
