/-! the calls, one by one: item -/
section
variable {L d : Nat} {J J' J1 J2 K K' : mJ} {R R1 R' : mm_R} {x y z v : Int} {f : Int → Int}
theorem itN_r {s : Int} (hv : -9223372036854775808 ≤ v ∧ v ≤ 9223372036854775807) : -9223372036854775808 ≤ itN s v ∧ itN s v ≤ 9223372036854775807 := by
  have a1 := ji2b_r (jl2i v)
  have a2 := ji2s_r (jl2i v)
  have a3 := jl2i_r v
  have a4 : (0 : Int) ≤ bi (v ≠ 0) ∧ bi (v ≠ 0) ≤ 1 := by
    by_cases c : v = 0
    · rw [bi_f (by omega)]; omega
    · rw [bi_t c]; omega
  unfold itN
  repeat' split
  all_goals omega
theorem m_narrowed {s : Int} (hs : 0 ≤ s ∧ s ≤ 4) (hv : -9223372036854775808 ≤ v ∧ v ≤ 9223372036854775807) {S : mm_S} : EE d 232 0 [some (vl v), none, some (vi s)] [] S J K R = ok (some (vl (itN s v))) S J K R := by
  have a3 := jl2i_r v
  have a4 := ji2b_r (jl2i v)
  have a5 := ji2s_r (jl2i v)
  unfold itN
  by_cases c0 : s = 0
  · subst c0
    simp (disch := first | assumption | omega | exact bi_lo | exact bi_hi | exact bi_01 | exact jcmp_lo | exact jcmp_hi | exact (jor_r _ _).1 | exact (jor_r _ _).2 | exact (jand_r _ _).1 | exact (jand_r _ _).2) only [x232_0, x232_1_0, x232_1_1, x232_1_2, x232_1_3, x232_1o, x232_32, x232_33, x232_34, x232_35, x232_36, x232_37, x232_38, x232_39, x232_40, x232_41, x232_42, x232_43, x232_44, x232_45, x232_46, x232_47, x232_48, x232_49, x232_50, x232_51, x232_54, x232_55, x232_58, x232_59, kb_some, kb_none, clr_vi, clr_ref, clr_null, clr_none, va_rf_some, va_rf_none, ↓bi_ite_t, ↓bi_ite_f, ↓jc_lt_t, ↓jc_lt_f, ↓jc_gt_t, ↓jc_gt_f, ↓jc_le_t, ↓jc_le_f, ↓jc_ge_t, ↓jc_ge_f, ↓jc_eq_t, ↓jc_eq_f, ↓if_pos, ↓if_neg, if_true]
  by_cases c1 : s = 1
  · subst c1
    rw [if_neg (by omega), if_pos rfl]
    simp (disch := first | assumption | omega | exact bi_lo | exact bi_hi | exact bi_01 | exact jcmp_lo | exact jcmp_hi | exact (jor_r _ _).1 | exact (jor_r _ _).2 | exact (jand_r _ _).1 | exact (jand_r _ _).2) only [x232_0, x232_1_0, x232_1_1, x232_1_2, x232_1_3, x232_1o, x232_32, x232_33, x232_34, x232_35, x232_36, x232_37, x232_38, x232_39, x232_40, x232_41, x232_42, x232_43, x232_44, x232_45, x232_46, x232_47, x232_48, x232_49, x232_50, x232_51, x232_54, x232_55, x232_58, x232_59, kb_some, kb_none, clr_vi, clr_ref, clr_null, clr_none, va_rf_some, va_rf_none, ↓bi_ite_t, ↓bi_ite_f, ↓jc_lt_t, ↓jc_lt_f, ↓jc_gt_t, ↓jc_gt_f, ↓jc_le_t, ↓jc_le_f, ↓jc_ge_t, ↓jc_ge_f, ↓jc_eq_t, ↓jc_eq_f, ↓if_pos, ↓if_neg]
  by_cases c2 : s = 2
  · subst c2
    rw [if_neg (by omega), if_neg (by omega), if_pos rfl]
    simp (disch := first | assumption | omega | exact bi_lo | exact bi_hi | exact bi_01 | exact jcmp_lo | exact jcmp_hi | exact (jor_r _ _).1 | exact (jor_r _ _).2 | exact (jand_r _ _).1 | exact (jand_r _ _).2) only [x232_0, x232_1_0, x232_1_1, x232_1_2, x232_1_3, x232_1o, x232_32, x232_33, x232_34, x232_35, x232_36, x232_37, x232_38, x232_39, x232_40, x232_41, x232_42, x232_43, x232_44, x232_45, x232_46, x232_47, x232_48, x232_49, x232_50, x232_51, x232_54, x232_55, x232_58, x232_59, kb_some, kb_none, clr_vi, clr_ref, clr_null, clr_none, va_rf_some, va_rf_none, ↓bi_ite_t, ↓bi_ite_f, ↓jc_lt_t, ↓jc_lt_f, ↓jc_gt_t, ↓jc_gt_f, ↓jc_le_t, ↓jc_le_f, ↓jc_ge_t, ↓jc_ge_f, ↓jc_eq_t, ↓jc_eq_f, ↓if_pos, ↓if_neg]
  by_cases c3 : s = 3
  · subst c3
    rw [if_neg (by omega), if_neg (by omega), if_neg (by omega), if_pos rfl]
    simp (disch := first | assumption | omega | exact bi_lo | exact bi_hi | exact bi_01 | exact jcmp_lo | exact jcmp_hi | exact (jor_r _ _).1 | exact (jor_r _ _).2 | exact (jand_r _ _).1 | exact (jand_r _ _).2) only [x232_0, x232_1_0, x232_1_1, x232_1_2, x232_1_3, x232_1o, x232_32, x232_33, x232_34, x232_35, x232_36, x232_37, x232_38, x232_39, x232_40, x232_41, x232_42, x232_43, x232_44, x232_45, x232_46, x232_47, x232_48, x232_49, x232_50, x232_51, x232_54, x232_55, x232_58, x232_59, kb_some, kb_none, clr_vi, clr_ref, clr_null, clr_none, va_rf_some, va_rf_none, ↓bi_ite_t, ↓bi_ite_f, ↓jc_lt_t, ↓jc_lt_f, ↓jc_gt_t, ↓jc_gt_f, ↓jc_le_t, ↓jc_le_f, ↓jc_ge_t, ↓jc_ge_f, ↓jc_eq_t, ↓jc_eq_f, ↓if_pos, ↓if_neg]
  rw [if_neg c0, if_neg c1, if_neg c2, if_neg c3]
  by_cases e : v = 0
  · rw [bi_f (by omega)]
    simp (disch := first | assumption | omega | exact bi_lo | exact bi_hi | exact bi_01 | exact jcmp_lo | exact jcmp_hi | exact (jor_r _ _).1 | exact (jor_r _ _).2 | exact (jand_r _ _).1 | exact (jand_r _ _).2) only [x232_0, x232_1_0, x232_1_1, x232_1_2, x232_1_3, x232_1o, x232_32, x232_33, x232_34, x232_35, x232_36, x232_37, x232_38, x232_39, x232_40, x232_41, x232_42, x232_43, x232_44, x232_45, x232_46, x232_47, x232_48, x232_49, x232_50, x232_51, x232_54, x232_55, x232_58, x232_59, kb_some, kb_none, clr_vi, clr_ref, clr_null, clr_none, va_rf_some, va_rf_none, ↓bi_ite_t, ↓bi_ite_f, ↓jc_lt_t, ↓jc_lt_f, ↓jc_gt_t, ↓jc_gt_f, ↓jc_le_t, ↓jc_le_f, ↓jc_ge_t, ↓jc_ge_f, ↓jc_eq_t, ↓jc_eq_f, ↓if_pos, ↓if_neg]
  · rw [bi_t e]
    simp (disch := first | assumption | omega | exact bi_lo | exact bi_hi | exact bi_01 | exact jcmp_lo | exact jcmp_hi | exact (jor_r _ _).1 | exact (jor_r _ _).2 | exact (jand_r _ _).1 | exact (jand_r _ _).2) only [x232_0, x232_1_0, x232_1_1, x232_1_2, x232_1_3, x232_1o, x232_32, x232_33, x232_34, x232_35, x232_36, x232_37, x232_38, x232_39, x232_40, x232_41, x232_42, x232_43, x232_44, x232_45, x232_46, x232_47, x232_48, x232_49, x232_50, x232_51, x232_54, x232_55, x232_58, x232_59, kb_some, kb_none, clr_vi, clr_ref, clr_null, clr_none, va_rf_some, va_rf_none, ↓bi_ite_t, ↓bi_ite_f, ↓jc_lt_t, ↓jc_lt_f, ↓jc_gt_t, ↓jc_gt_f, ↓jc_le_t, ↓jc_le_f, ↓jc_ge_t, ↓jc_ge_f, ↓jc_eq_t, ↓jc_eq_f, ↓if_pos, ↓if_neg]
/-- one item in both -/
theorem INV_K {t i : Nat} (h : INV J K R) (ht : t < 6) (hi : i < 60) (hv : -9223372036854775808 ≤ v ∧ v ≤ 9223372036854775807) : INV (mm_up J 76 11 0) (mm_up (mm_up K (65 + 2 * t) i v) 107 (60 * t + i) v) R := by
  obtain ⟨h1, h2, h3, h4, h5, h6, h7⟩ := INV_11 (z := 0) h
  refine ⟨h1, h2, h3, h4, h5, h6, fun u hu => ?_⟩
  obtain ⟨a1, a2⟩ := h7 u hu
  refine ⟨a1, fun k hk => ?_⟩
  have hku : k < 60 := by omega
  have b := a2 k hk
  by_cases c : u = t ∧ k = i
  · obtain ⟨c1, c2⟩ := c
    subst c1; subst c2
    have e1 : mm_up (mm_up K (65 + 2 * u) k v) 107 (60 * u + k) v 107 (60 * u + k) = v := up_s
    rw [e1, up_ne (by omega), up_s]
    exact ⟨rfl, hv⟩
  · have e1 : mm_up (mm_up K (65 + 2 * t) i v) 107 (60 * t + i) v 107 (60 * u + k) = K 107 (60 * u + k) := by
      unfold mm_up; rw [if_neg (by omega), if_neg (by omega)]
    have e2 : mm_up (mm_up K (65 + 2 * t) i v) 107 (60 * t + i) v (65 + 2 * u) k = K (65 + 2 * u) k := by
      unfold mm_up; rw [if_neg (by omega), if_neg (by omega)]
    rw [e1, e2]; exact b
theorem op_item (h : INV J K R) (hx : -2147483648 ≤ x ∧ x ≤ 2147483647) (hy : -2147483648 ≤ y ∧ y ≤ 2147483647) (hv : -9223372036854775808 ≤ v ∧ v ≤ 9223372036854775807) : OP L d 127 233 [some (vi x), some (vi y), some (vl v), none, none] [some (vi x), some (vi y), some (vl v), none] J K R := by
  have hR := h.1
  have s2 : (SH L)[2]? = some (10, 10) := rfl; have r2_0 : R 2 0 = some 3 := rr_lk hR rfl; have r2_1 : R 2 1 = some 15 := rr_lk hR rfl; have r2_3 : R 2 3 = some 27 := rr_lk hR rfl; have r2_4 : R 2 4 = some 29 := rr_lk hR rfl; have r2_5 : R 2 5 = some 31 := rr_lk hR rfl; have r2_6 : R 2 6 = some 46 := rr_lk hR rfl; have r2_7 : R 2 7 = some 57 := rr_lk hR rfl; have r2_8 : R 2 8 = some 60 := rr_lk hR rfl; have r2_9 : R 2 9 = some 63 := rr_lk hR rfl; have s76 : (SH L)[76]? = some (11, 58) := rfl; have r76_0 : R 76 0 = some 77 := rr_lk hR rfl; have r76_3 : R 76 3 = some 78 := rr_lk hR rfl; have r76_4 : R 76 4 = some 79 := rr_lk hR rfl; have r76_6 : R 76 6 = some 80 := rr_lk hR rfl; have r76_7 : R 76 7 = some 81 := rr_lk hR rfl; have r76_9 : R 76 9 = some 82 := rr_lk hR rfl; have r76_10 : R 76 10 = some 83 := rr_lk hR rfl; have r76_12 : R 76 12 = some 84 := rr_lk hR rfl; have r76_13 : R 76 13 = some 85 := rr_lk hR rfl; have r76_19 : R 76 19 = some 86 := rr_lk hR rfl; have r76_20 : R 76 20 = some 87 := rr_lk hR rfl; have r76_21 : R 76 21 = some 88 := rr_lk hR rfl; have r76_22 : R 76 22 = some 89 := rr_lk hR rfl; have r76_24 : R 76 24 = some 90 := rr_lk hR rfl; have r76_25 : R 76 25 = some 91 := rr_lk hR rfl; have r76_26 : R 76 26 = some 92 := rr_lk hR rfl; have r76_28 : R 76 28 = some 93 := rr_lk hR rfl; have r76_29 : R 76 29 = some 94 := rr_lk hR rfl; have r76_30 : R 76 30 = some 95 := rr_lk hR rfl; have r76_31 : R 76 31 = some 96 := rr_lk hR rfl; have r76_32 : R 76 32 = some 97 := rr_lk hR rfl; have r76_36 : R 76 36 = some 98 := rr_lk hR rfl; have r76_38 : R 76 38 = some 99 := rr_lk hR rfl; have r76_39 : R 76 39 = some 100 := rr_lk hR rfl; have r76_40 : R 76 40 = some 101 := rr_lk hR rfl; have r76_41 : R 76 41 = some 102 := rr_lk hR rfl; have r76_42 : R 76 42 = some 103 := rr_lk hR rfl; have r76_47 : R 76 47 = some 104 := rr_lk hR rfl; have r76_53 : R 76 53 = some 105 := rr_lk hR rfl; have r76_54 : R 76 54 = some 106 := rr_lk hR rfl; have r76_55 : R 76 55 = some 107 := rr_lk hR rfl; have r76_56 : R 76 56 = some 108 := rr_lk hR rfl; have r76_57 : R 76 57 = some 109 := rr_lk hR rfl; have s105 : (SH L)[105]? = some (20, 6) := rfl; have s106 : (SH L)[106]? = some (20, 6) := rfl; have s107 : (SH L)[107]? = some (21, 360) := rfl; have s109 : (SH L)[109]? = some (22, 6) := rfl
  have hT := fun d K => m_isTape (L := L) (d := d) (J := mm_up J 76 11 0) (K := K) (R := R) hx
  by_cases c : 0 ≤ x ∧ x < 6
  · have ho := fun d => c_tapeOf (L := L) (d := d) (J := J) (K := K) hR c
    simp only [bi_t (show 0 ≤ x ∧ x ≤ 5 by omega)] at hT
    obtain ⟨k1, k2⟩ := h.2.2.2.2.2.2 x.toNat (by omega)
    have hP := (rTp (L := L) hR x.toNat (by omega)).2
    have hsP := hP.1
    have h02 : 0 ≤ J (64 + 2 * x.toNat) 2 ∧ J (64 + 2 * x.toNat) 2 ≤ 60 := by omega
    have h01 : -1 ≤ J (64 + 2 * x.toNat) 1 ∧ J (64 + 2 * x.toNat) 1 ≤ 4 := by omega
    have hh := fun d => p_has (d := d) (J := J) (K := K) (i := y) hP hy h02
    have hn := fun d => p_holdsNothing (d := d) (J := J) (K := K) hP h01
    have e105 : mm_up J 76 11 0 105 = J 105 := up_ne (by decide)
    have e106 : mm_up J 76 11 0 106 = J 106 := up_ne (by decide)
    have e109 : mm_up J 76 11 0 109 = J 109 := up_ne (by decide)
    rcases k1 with ⟨q1, q2, q3, q4⟩ | ⟨q1, q2, q3, q4, q5⟩
    · simp only [bi_t q1] at hn
      refine ⟨vi (-11), J, K, R, mm_up J 76 11 0, K, R, ?_, ?_, INV_11 h⟩
      · simp (disch := first | assumption | omega | exact bi_lo | exact bi_hi | exact bi_01 | exact jcmp_lo | exact jcmp_hi | exact (jor_r _ _).1 | exact (jor_r _ _).2 | exact (jand_r _ _).1 | exact (jand_r _ _).2) only [x127_0, x127_1, x127_2, x127_5, x127_5n, x127_7, x127_7n, x127_9n, x127_9, x127_12, x127_13, x127_14, x127_14n, x127_16, x127_19, x127_22, x127_24, x127_25, x127_25n, x127_27, x127_28, x127_31, x127_34, x127_36, x127_37, x127_37n, x127_39, x127_40, x127_41, x127_44, x127_45, kb_some, kb_none, clr_vi, clr_ref, clr_null, clr_none, va_rf_some, va_rf_none, ↓bi_ite_t, ↓bi_ite_f, ↓jc_lt_t, ↓jc_lt_f, ↓jc_gt_t, ↓jc_gt_f, ↓jc_le_t, ↓jc_le_f, ↓jc_ge_t, ↓jc_ge_f, ↓jc_eq_t, ↓jc_eq_f, ↓if_pos, ↓if_neg, ho, hn]
      · simp (disch := first | assumption | omega | exact bi_lo | exact bi_hi | exact bi_01 | exact jcmp_lo | exact jcmp_hi | exact (jor_r _ _).1 | exact (jor_r _ _).2 | exact (jand_r _ _).1 | exact (jand_r _ _).2) only [x233_0, x233_1, x233_2, x233_5, x233_6, x233_7, x233_10, x233_13, x233_14, x233_15, x233_16, x233_19, x233_20, x233_21, x233_24, x233_26, x233_27, x233_28, x233_29, x233_30, x233_31, x233_34, x233_35, x233_36, x233_37, x233_38, x233_39, x233_42, x233_45, x233_47, x233_48, x233_49, x233_52, x233_54, x233_55, x233_56, x233_57, x233_58, x233_59, x233_60, x233_63, x233_64, x233_65, x233_68, x233_69, x233_70, kb_some, kb_none, clr_vi, clr_ref, clr_null, clr_none, va_rf_some, va_rf_none, ↓bi_ite_t, ↓bi_ite_f, ↓jc_lt_t, ↓jc_lt_f, ↓jc_gt_t, ↓jc_gt_f, ↓jc_le_t, ↓jc_le_f, ↓jc_ge_t, ↓jc_ge_f, ↓jc_eq_t, ↓jc_eq_f, ↓if_pos, ↓if_neg, hT, e109, q2]
    simp only [bi_f (show ¬ J (64 + 2 * x.toNat) 1 = -1 by omega)] at hn
    by_cases c2 : 0 ≤ y ∧ y < J (64 + 2 * x.toNat) 2
    · simp only [bi_t c2] at hh
      have hkp := fun d => p_keep (d := d) (J := J) (K := K) (v := v) hP c2 h02 h01 hv
      rw [← q3] at hkp
      have hin := fun d K => m_in (d := d) (S := SH L) (J := mm_up J 76 11 0) (K := K) (R := R) (x := y) (y := 0) (z := J 106 x.toNat - 1) (by omega) (by omega) (by omega)
      simp only [bi_t (show 0 ≤ y ∧ y ≤ J 106 x.toNat - 1 by omega)] at hin
      have hna := fun d K => m_narrowed (d := d) (J := mm_up J 76 11 0) (K := K) (R := R) (S := SH L) (s := J 105 x.toNat) (by omega) hv
      have e61 : (60 * x + y).toNat = 60 * x.toNat + y.toNat := by omega
      refine ⟨vi 1, J, mm_up K (65 + 2 * x.toNat) y.toNat (itN (J 105 x.toNat) v), R, mm_up J 76 11 0, mm_up (mm_up K (65 + 2 * x.toNat) y.toNat (itN (J 105 x.toNat) v)) 107 (60 * x.toNat + y.toNat) (itN (J 105 x.toNat) v), R, ?_, ?_, INV_K h (by omega) (by omega) (itN_r hv)⟩
      · simp (disch := first | assumption | omega | exact bi_lo | exact bi_hi | exact bi_01 | exact jcmp_lo | exact jcmp_hi | exact (jor_r _ _).1 | exact (jor_r _ _).2 | exact (jand_r _ _).1 | exact (jand_r _ _).2) only [x127_0, x127_1, x127_2, x127_5, x127_5n, x127_7, x127_7n, x127_9n, x127_9, x127_12, x127_13, x127_14, x127_14n, x127_16, x127_19, x127_22, x127_24, x127_25, x127_25n, x127_27, x127_28, x127_31, x127_34, x127_36, x127_37, x127_37n, x127_39, x127_40, x127_41, x127_44, x127_45, kb_some, kb_none, clr_vi, clr_ref, clr_null, clr_none, va_rf_some, va_rf_none, ↓bi_ite_t, ↓bi_ite_f, ↓jc_lt_t, ↓jc_lt_f, ↓jc_gt_t, ↓jc_gt_f, ↓jc_le_t, ↓jc_le_f, ↓jc_ge_t, ↓jc_ge_f, ↓jc_eq_t, ↓jc_eq_f, ↓if_pos, ↓if_neg, ho, hn, hh, hkp]
      · simp (disch := first | assumption | omega | exact bi_lo | exact bi_hi | exact bi_01 | exact jcmp_lo | exact jcmp_hi | exact (jor_r _ _).1 | exact (jor_r _ _).2 | exact (jand_r _ _).1 | exact (jand_r _ _).2) only [x233_0, x233_1, x233_2, x233_5, x233_6, x233_7, x233_10, x233_13, x233_14, x233_15, x233_16, x233_19, x233_20, x233_21, x233_24, x233_26, x233_27, x233_28, x233_29, x233_30, x233_31, x233_34, x233_35, x233_36, x233_37, x233_38, x233_39, x233_42, x233_45, x233_47, x233_48, x233_49, x233_52, x233_54, x233_55, x233_56, x233_57, x233_58, x233_59, x233_60, x233_63, x233_64, x233_65, x233_68, x233_69, x233_70, kb_some, kb_none, clr_vi, clr_ref, clr_null, clr_none, va_rf_some, va_rf_none, ↓bi_ite_t, ↓bi_ite_f, ↓jc_lt_t, ↓jc_lt_f, ↓jc_gt_t, ↓jc_gt_f, ↓jc_le_t, ↓jc_le_f, ↓jc_ge_t, ↓jc_ge_f, ↓jc_eq_t, ↓jc_eq_f, ↓if_pos, ↓if_neg, hT, e105, e109, q2, e106, hin, e61, hna]
    · simp only [bi_f c2] at hh
      have hin := fun d K => m_in (d := d) (S := SH L) (J := mm_up J 76 11 0) (K := K) (R := R) (x := y) (y := 0) (z := J 106 x.toNat - 1) (by omega) (by omega) (by omega)
      simp only [bi_f (show ¬ (0 ≤ y ∧ y ≤ J 106 x.toNat - 1) by omega)] at hin
      refine ⟨vi (-13), J, K, R, mm_up J 76 11 0, K, R, ?_, ?_, INV_11 h⟩
      · simp (disch := first | assumption | omega | exact bi_lo | exact bi_hi | exact bi_01 | exact jcmp_lo | exact jcmp_hi | exact (jor_r _ _).1 | exact (jor_r _ _).2 | exact (jand_r _ _).1 | exact (jand_r _ _).2) only [x127_0, x127_1, x127_2, x127_5, x127_5n, x127_7, x127_7n, x127_9n, x127_9, x127_12, x127_13, x127_14, x127_14n, x127_16, x127_19, x127_22, x127_24, x127_25, x127_25n, x127_27, x127_28, x127_31, x127_34, x127_36, x127_37, x127_37n, x127_39, x127_40, x127_41, x127_44, x127_45, kb_some, kb_none, clr_vi, clr_ref, clr_null, clr_none, va_rf_some, va_rf_none, ↓bi_ite_t, ↓bi_ite_f, ↓jc_lt_t, ↓jc_lt_f, ↓jc_gt_t, ↓jc_gt_f, ↓jc_le_t, ↓jc_le_f, ↓jc_ge_t, ↓jc_ge_f, ↓jc_eq_t, ↓jc_eq_f, ↓if_pos, ↓if_neg, ho, hn, hh]
      · simp (disch := first | assumption | omega | exact bi_lo | exact bi_hi | exact bi_01 | exact jcmp_lo | exact jcmp_hi | exact (jor_r _ _).1 | exact (jor_r _ _).2 | exact (jand_r _ _).1 | exact (jand_r _ _).2) only [x233_0, x233_1, x233_2, x233_5, x233_6, x233_7, x233_10, x233_13, x233_14, x233_15, x233_16, x233_19, x233_20, x233_21, x233_24, x233_26, x233_27, x233_28, x233_29, x233_30, x233_31, x233_34, x233_35, x233_36, x233_37, x233_38, x233_39, x233_42, x233_45, x233_47, x233_48, x233_49, x233_52, x233_54, x233_55, x233_56, x233_57, x233_58, x233_59, x233_60, x233_63, x233_64, x233_65, x233_68, x233_69, x233_70, kb_some, kb_none, clr_vi, clr_ref, clr_null, clr_none, va_rf_some, va_rf_none, ↓bi_ite_t, ↓bi_ite_f, ↓jc_lt_t, ↓jc_lt_f, ↓jc_gt_t, ↓jc_gt_f, ↓jc_le_t, ↓jc_le_f, ↓jc_ge_t, ↓jc_ge_f, ↓jc_eq_t, ↓jc_eq_f, ↓if_pos, ↓if_neg, hT, e109, q2, e106, hin]
  · have ho := fun d => c_tapeOfN (L := L) (d := d) (J := J) (K := K) hR hx c
    simp only [bi_f (show ¬ (0 ≤ x ∧ x ≤ 5) by omega)] at hT
    refine ⟨vi (-1), J, K, R, mm_up J 76 11 0, K, R, ?_, ?_, INV_11 h⟩
    · simp (disch := first | assumption | omega | exact bi_lo | exact bi_hi | exact bi_01 | exact jcmp_lo | exact jcmp_hi | exact (jor_r _ _).1 | exact (jor_r _ _).2 | exact (jand_r _ _).1 | exact (jand_r _ _).2) only [x127_0, x127_1, x127_2, x127_5, x127_5n, x127_7, x127_7n, x127_9n, x127_9, x127_12, x127_13, x127_14, x127_14n, x127_16, x127_19, x127_22, x127_24, x127_25, x127_25n, x127_27, x127_28, x127_31, x127_34, x127_36, x127_37, x127_37n, x127_39, x127_40, x127_41, x127_44, x127_45, kb_some, kb_none, clr_vi, clr_ref, clr_null, clr_none, va_rf_some, va_rf_none, ↓bi_ite_t, ↓bi_ite_f, ↓jc_lt_t, ↓jc_lt_f, ↓jc_gt_t, ↓jc_gt_f, ↓jc_le_t, ↓jc_le_f, ↓jc_ge_t, ↓jc_ge_f, ↓jc_eq_t, ↓jc_eq_f, ↓if_pos, ↓if_neg, ho]
    · simp (disch := first | assumption | omega | exact bi_lo | exact bi_hi | exact bi_01 | exact jcmp_lo | exact jcmp_hi | exact (jor_r _ _).1 | exact (jor_r _ _).2 | exact (jand_r _ _).1 | exact (jand_r _ _).2) only [x233_0, x233_1, x233_2, x233_5, x233_6, x233_7, x233_10, x233_13, x233_14, x233_15, x233_16, x233_19, x233_20, x233_21, x233_24, x233_26, x233_27, x233_28, x233_29, x233_30, x233_31, x233_34, x233_35, x233_36, x233_37, x233_38, x233_39, x233_42, x233_45, x233_47, x233_48, x233_49, x233_52, x233_54, x233_55, x233_56, x233_57, x233_58, x233_59, x233_60, x233_63, x233_64, x233_65, x233_68, x233_69, x233_70, kb_some, kb_none, clr_vi, clr_ref, clr_null, clr_none, va_rf_some, va_rf_none, ↓bi_ite_t, ↓bi_ite_f, ↓jc_lt_t, ↓jc_lt_f, ↓jc_gt_t, ↓jc_gt_f, ↓jc_le_t, ↓jc_le_f, ↓jc_ge_t, ↓jc_ge_f, ↓jc_eq_t, ↓jc_eq_f, ↓if_pos, ↓if_neg, hT]
end
