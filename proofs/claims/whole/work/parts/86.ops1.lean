/-! the calls, one by one: a file's bytes -/
section
variable {L d : Nat} {J J' K K' : mJ} {R : mm_R} {x y z : Int}
theorem c_isByte (h : -2147483648 ≤ x ∧ x ≤ 2147483647) {S : mm_S} : EE d 130 0 [some (vi x)] [] S J K R = ok (some (vi (bi (0 ≤ x ∧ x ≤ 255)))) S J K R := by
  by_cases c1 : x < 0
  · rw [bi_f (by omega)]
    simp (disch := first | assumption | omega | exact bi_lo | exact bi_hi | exact bi_01 | exact jcmp_lo | exact jcmp_hi | exact (jor_r _ _).1 | exact (jor_r _ _).2 | exact (jand_r _ _).1 | exact (jand_r _ _).2) only [x130_0, x130_1, x130_4, x130_5, x130_8, x130_11, x130_12, x130_15, x130_16, kb_some, kb_none, clr_vi, clr_ref, clr_null, clr_none, va_rf_some, va_rf_none, ↓bi_ite_t, ↓bi_ite_f, ↓jc_lt_t, ↓jc_lt_f, ↓jc_gt_t, ↓jc_gt_f, ↓jc_le_t, ↓jc_le_f, ↓jc_ge_t, ↓jc_ge_f, ↓jc_eq_t, ↓jc_eq_f, ↓if_pos, ↓if_neg]
  · by_cases c2 : 255 < x
    · rw [bi_f (by omega)]
      simp (disch := first | assumption | omega | exact bi_lo | exact bi_hi | exact bi_01 | exact jcmp_lo | exact jcmp_hi | exact (jor_r _ _).1 | exact (jor_r _ _).2 | exact (jand_r _ _).1 | exact (jand_r _ _).2) only [x130_0, x130_1, x130_4, x130_5, x130_8, x130_11, x130_12, x130_15, x130_16, kb_some, kb_none, clr_vi, clr_ref, clr_null, clr_none, va_rf_some, va_rf_none, ↓bi_ite_t, ↓bi_ite_f, ↓jc_lt_t, ↓jc_lt_f, ↓jc_gt_t, ↓jc_gt_f, ↓jc_le_t, ↓jc_le_f, ↓jc_ge_t, ↓jc_ge_f, ↓jc_eq_t, ↓jc_eq_f, ↓if_pos, ↓if_neg]
    · rw [bi_t (by omega)]
      simp (disch := first | assumption | omega | exact bi_lo | exact bi_hi | exact bi_01 | exact jcmp_lo | exact jcmp_hi | exact (jor_r _ _).1 | exact (jor_r _ _).2 | exact (jand_r _ _).1 | exact (jand_r _ _).2) only [x130_0, x130_1, x130_4, x130_5, x130_8, x130_11, x130_12, x130_15, x130_16, kb_some, kb_none, clr_vi, clr_ref, clr_null, clr_none, va_rf_some, va_rf_none, ↓bi_ite_t, ↓bi_ite_f, ↓jc_lt_t, ↓jc_lt_f, ↓jc_gt_t, ↓jc_gt_f, ↓jc_le_t, ↓jc_le_f, ↓jc_ge_t, ↓jc_ge_f, ↓jc_eq_t, ↓jc_eq_f, ↓if_pos, ↓if_neg]
theorem IF_put (h : IF J) (hx : 0 ≤ x ∧ x ≤ 255) (h1 : J' 4 1 = J 76 1 + 1) (h2 : J' 76 1 = J 76 1 + 1) (hl : J 76 1 < 120) (h3 : ∀ i, J' 5 i = if i = (J 76 1).toNat then x else J 5 i) (h4 : ∀ i, J' 77 i = if i = (J 76 1).toNat then x else J 77 i) : IF J' := by
  obtain ⟨a1, a2, a3⟩ := h
  refine ⟨by omega, by omega, fun i hi => ?_⟩
  have := a3 i hi
  rw [h3, h4]
  split
  · exact ⟨hx, hx, fun _ => rfl⟩
  · exact ⟨this.1, this.2.1, fun q => this.2.2 (by omega)⟩
theorem op_put (h : INV J K R) (hx : -2147483648 ≤ x ∧ x ≤ 2147483647) : OP L d 98 188 [some (vi x)] [some (vi x)] J K R := by
  have hR := h.1
  obtain ⟨a1, a2, a3⟩ := h.2.1
  have s2 : (SH L)[2]? = some (10, 10) := rfl; have r2_0 : R 2 0 = some 3 := rr_lk hR rfl; have r2_1 : R 2 1 = some 15 := rr_lk hR rfl; have r2_3 : R 2 3 = some 27 := rr_lk hR rfl; have r2_4 : R 2 4 = some 29 := rr_lk hR rfl; have r2_5 : R 2 5 = some 31 := rr_lk hR rfl; have r2_6 : R 2 6 = some 46 := rr_lk hR rfl; have r2_7 : R 2 7 = some 57 := rr_lk hR rfl; have r2_8 : R 2 8 = some 60 := rr_lk hR rfl; have r2_9 : R 2 9 = some 63 := rr_lk hR rfl; have s3 : (SH L)[3]? = some (6, 4) := rfl; have r3_0 : R 3 0 = some 4 := rr_lk hR rfl; have r3_1 : R 3 1 = some 6 := rr_lk hR rfl; have r3_2 : R 3 2 = some 9 := rr_lk hR rfl; have r3_3 : R 3 3 = some 12 := rr_lk hR rfl; have s4 : (SH L)[4]? = some (0, 2) := rfl; have r4_0 : R 4 0 = some 5 := rr_lk hR rfl; have s76 : (SH L)[76]? = some (11, 58) := rfl; have r76_0 : R 76 0 = some 77 := rr_lk hR rfl; have r76_3 : R 76 3 = some 78 := rr_lk hR rfl; have r76_4 : R 76 4 = some 79 := rr_lk hR rfl; have r76_6 : R 76 6 = some 80 := rr_lk hR rfl; have r76_7 : R 76 7 = some 81 := rr_lk hR rfl; have r76_9 : R 76 9 = some 82 := rr_lk hR rfl; have r76_10 : R 76 10 = some 83 := rr_lk hR rfl; have r76_12 : R 76 12 = some 84 := rr_lk hR rfl; have r76_13 : R 76 13 = some 85 := rr_lk hR rfl; have r76_19 : R 76 19 = some 86 := rr_lk hR rfl; have r76_20 : R 76 20 = some 87 := rr_lk hR rfl; have r76_21 : R 76 21 = some 88 := rr_lk hR rfl; have r76_22 : R 76 22 = some 89 := rr_lk hR rfl; have r76_24 : R 76 24 = some 90 := rr_lk hR rfl; have r76_25 : R 76 25 = some 91 := rr_lk hR rfl; have r76_26 : R 76 26 = some 92 := rr_lk hR rfl; have r76_28 : R 76 28 = some 93 := rr_lk hR rfl; have r76_29 : R 76 29 = some 94 := rr_lk hR rfl; have r76_30 : R 76 30 = some 95 := rr_lk hR rfl; have r76_31 : R 76 31 = some 96 := rr_lk hR rfl; have r76_32 : R 76 32 = some 97 := rr_lk hR rfl; have r76_36 : R 76 36 = some 98 := rr_lk hR rfl; have r76_38 : R 76 38 = some 99 := rr_lk hR rfl; have r76_39 : R 76 39 = some 100 := rr_lk hR rfl; have r76_40 : R 76 40 = some 101 := rr_lk hR rfl; have r76_41 : R 76 41 = some 102 := rr_lk hR rfl; have r76_42 : R 76 42 = some 103 := rr_lk hR rfl; have r76_47 : R 76 47 = some 104 := rr_lk hR rfl; have r76_53 : R 76 53 = some 105 := rr_lk hR rfl; have r76_54 : R 76 54 = some 106 := rr_lk hR rfl; have r76_55 : R 76 55 = some 107 := rr_lk hR rfl; have r76_56 : R 76 56 = some 108 := rr_lk hR rfl; have r76_57 : R 76 57 = some 109 := rr_lk hR rfl; have s77 : (SH L)[77]? = some (20, 120) := rfl
  have hB : isB (SH L) R 4 5 120 := ⟨rfl, rr_lk hR rfl, rfl, by decide, by decide, by decide⟩
  have hb := fun d J => c_isByte (d := d) (J := J) (K := K) (R := R) (S := SH L) hx
  have hin := fun d J => m_in (d := d) (S := SH L) (J := J) (K := K) (R := R) (x := x) (y := 0) (z := 255) (by omega) (by omega) (by omega)
  by_cases c1 : 0 ≤ x ∧ x ≤ 255
  · simp only [bi_t c1] at hb hin
    by_cases c2 : J 76 1 < 120
    · have ha := fun d => c_append (d := d) (J := J) (K := K) (y := x) hB (by omega)
      have hs := fun d J => c_size (d := d) (J := J) (K := K) hB
      rw [a1] at ha
      refine ⟨vi (J 76 1 + 1), mm_up (mm_up J 5 (J 76 1).toNat x) 4 1 (J 76 1 + 1), K, R, mm_up (mm_up (mm_up (mm_up (mm_up J 5 (J 76 1).toNat x) 4 1 (J 76 1 + 1)) 76 11 0) 77 (J 76 1).toNat x) 76 1 (J 76 1 + 1), K, R, ?_, ?_, ?_⟩
      · simp (disch := first | assumption | omega | exact bi_lo | exact bi_hi | exact bi_01 | exact jcmp_lo | exact jcmp_hi | exact (jor_r _ _).1 | exact (jor_r _ _).2 | exact (jand_r _ _).1 | exact (jand_r _ _).2) only [x98_0, x98_1, x98_4, x98_7, x98_9, x98_10, x98_11, x98_14, x98_17, x98_18, x98_21, x98_24, x98_25, x98_28, x98_31, x98_34, x98_37, x98_39, kb_some, kb_none, clr_vi, clr_ref, clr_null, clr_none, va_rf_some, va_rf_none, ↓bi_ite_t, ↓bi_ite_f, ↓jc_lt_t, ↓jc_lt_f, ↓jc_gt_t, ↓jc_gt_f, ↓jc_le_t, ↓jc_le_f, ↓jc_ge_t, ↓jc_ge_f, ↓jc_eq_t, ↓jc_eq_f, ↓if_pos, ↓if_neg, hb, ha, hs, up_s]
      · simp (disch := first | assumption | omega | exact bi_lo | exact bi_hi | exact bi_01 | exact jcmp_lo | exact jcmp_hi | exact (jor_r _ _).1 | exact (jor_r _ _).2 | exact (jand_r _ _).1 | exact (jand_r _ _).2) only [x188_0, x188_1, x188_2, x188_5, x188_6, x188_7, x188_8, x188_11, x188_14, x188_17, x188_19, x188_20, x188_21, x188_24, x188_26, x188_29, x188_31, x188_32, x188_33, x188_36, x188_37, x188_40, x188_41, x188_42, x188_43, x188_44, x188_47, x188_48, x188_49, x188_52, x188_53, x188_56, kb_some, kb_none, clr_vi, clr_ref, clr_null, clr_none, va_rf_some, va_rf_none, ↓bi_ite_t, ↓bi_ite_f, ↓jc_lt_t, ↓jc_lt_f, ↓jc_gt_t, ↓jc_gt_f, ↓jc_le_t, ↓jc_le_f, ↓jc_ge_t, ↓jc_ge_f, ↓jc_eq_t, ↓jc_eq_f, ↓if_pos, ↓if_neg, hin, up_s, up_a, up_j]
      · refine INV_F h (IF_put h.2.1 c1 ?_ ?_ c2 (fun i => ?_) (fun i => ?_)) (fun a p q r s => ?_) (fun j p q => ?_)
        · simp [mm_up]
        · simp [mm_up]
        · simp [mm_up]
        · simp [mm_up]
        · rw [up_ne s, up_ne r, up_ne s, up_ne p, up_ne q]
        · unfold mm_up
          rw [if_neg (by omega), if_neg (by omega), if_neg (by omega), if_neg (by omega), if_neg (by omega)]
    · have ha := fun d => c_appendF (d := d) (J := J) (K := K) (y := x) hB (by omega)
      have e76 : J 76 1 = 120 := by omega
      refine ⟨vi (-4), J, K, R, mm_up J 76 11 0, K, R, ?_, ?_, INV_11 h⟩
      · simp (disch := first | assumption | omega | exact bi_lo | exact bi_hi | exact bi_01 | exact jcmp_lo | exact jcmp_hi | exact (jor_r _ _).1 | exact (jor_r _ _).2 | exact (jand_r _ _).1 | exact (jand_r _ _).2) only [x98_0, x98_1, x98_4, x98_7, x98_9, x98_10, x98_11, x98_14, x98_17, x98_18, x98_21, x98_24, x98_25, x98_28, x98_31, x98_34, x98_37, x98_39, kb_some, kb_none, clr_vi, clr_ref, clr_null, clr_none, va_rf_some, va_rf_none, ↓bi_ite_t, ↓bi_ite_f, ↓jc_lt_t, ↓jc_lt_f, ↓jc_gt_t, ↓jc_gt_f, ↓jc_le_t, ↓jc_le_f, ↓jc_ge_t, ↓jc_ge_f, ↓jc_eq_t, ↓jc_eq_f, ↓if_pos, ↓if_neg, hb, ha]
      · simp (disch := first | assumption | omega | exact bi_lo | exact bi_hi | exact bi_01 | exact jcmp_lo | exact jcmp_hi | exact (jor_r _ _).1 | exact (jor_r _ _).2 | exact (jand_r _ _).1 | exact (jand_r _ _).2) only [x188_0, x188_1, x188_2, x188_5, x188_6, x188_7, x188_8, x188_11, x188_14, x188_17, x188_19, x188_20, x188_21, x188_24, x188_26, x188_29, x188_31, x188_32, x188_33, x188_36, x188_37, x188_40, x188_41, x188_42, x188_43, x188_44, x188_47, x188_48, x188_49, x188_52, x188_53, x188_56, kb_some, kb_none, clr_vi, clr_ref, clr_null, clr_none, va_rf_some, va_rf_none, ↓bi_ite_t, ↓bi_ite_f, ↓jc_lt_t, ↓jc_lt_f, ↓jc_gt_t, ↓jc_gt_f, ↓jc_le_t, ↓jc_le_f, ↓jc_ge_t, ↓jc_ge_f, ↓jc_eq_t, ↓jc_eq_f, ↓if_pos, ↓if_neg, hin, up_s, up_a, up_j, e76]
  · simp only [bi_f c1] at hb hin
    refine ⟨vi (-2), J, K, R, mm_up J 76 11 0, K, R, ?_, ?_, INV_11 h⟩
    · simp (disch := first | assumption | omega | exact bi_lo | exact bi_hi | exact bi_01 | exact jcmp_lo | exact jcmp_hi | exact (jor_r _ _).1 | exact (jor_r _ _).2 | exact (jand_r _ _).1 | exact (jand_r _ _).2) only [x98_0, x98_1, x98_4, x98_7, x98_9, x98_10, x98_11, x98_14, x98_17, x98_18, x98_21, x98_24, x98_25, x98_28, x98_31, x98_34, x98_37, x98_39, kb_some, kb_none, clr_vi, clr_ref, clr_null, clr_none, va_rf_some, va_rf_none, ↓bi_ite_t, ↓bi_ite_f, ↓jc_lt_t, ↓jc_lt_f, ↓jc_gt_t, ↓jc_gt_f, ↓jc_le_t, ↓jc_le_f, ↓jc_ge_t, ↓jc_ge_f, ↓jc_eq_t, ↓jc_eq_f, ↓if_pos, ↓if_neg, hb]
    · simp (disch := first | assumption | omega | exact bi_lo | exact bi_hi | exact bi_01 | exact jcmp_lo | exact jcmp_hi | exact (jor_r _ _).1 | exact (jor_r _ _).2 | exact (jand_r _ _).1 | exact (jand_r _ _).2) only [x188_0, x188_1, x188_2, x188_5, x188_6, x188_7, x188_8, x188_11, x188_14, x188_17, x188_19, x188_20, x188_21, x188_24, x188_26, x188_29, x188_31, x188_32, x188_33, x188_36, x188_37, x188_40, x188_41, x188_42, x188_43, x188_44, x188_47, x188_48, x188_49, x188_52, x188_53, x188_56, kb_some, kb_none, clr_vi, clr_ref, clr_null, clr_none, va_rf_some, va_rf_none, ↓bi_ite_t, ↓bi_ite_f, ↓jc_lt_t, ↓jc_lt_f, ↓jc_gt_t, ↓jc_gt_f, ↓jc_le_t, ↓jc_le_f, ↓jc_ge_t, ↓jc_ge_f, ↓jc_eq_t, ↓jc_eq_f, ↓if_pos, ↓if_neg, hin, up_s, up_a, up_j]
end
