/-! the calls, one by one: a thing of the file -/
section
variable {L d : Nat} {J J' J1 J2 K K' : mJ} {R R1 R' : mm_R} {x y z : Int} {f : Int → Int}
/-- the place of the k-th thing of the file, or -1 -/
def thI (f : Int → Int) (n k : Int) : Int := match wh f n with
  | .error _ => -1
  | .ok F => nthI F 0 k
theorem c_thingOf {e1 e2 : Nat} (h : INV J K R) (hr : RDB L e1 e2 J K R J1 R1 J2) (hx : -2147483648 ≤ x ∧ x ≤ 2147483647) : EE (e1 + 12) 137 0 [some (.ref 2), some (vi x)] [] (SH L) J K R = ok (some (vi (thI (mA J) (J 76 1) x))) (SH L) J1 K R1 := by
  have hR := h.1
  have s2 : (SH L)[2]? = some (10, 10) := rfl; have r2_0 : R 2 0 = some 3 := rr_lk hR rfl; have r2_1 : R 2 1 = some 15 := rr_lk hR rfl; have r2_3 : R 2 3 = some 27 := rr_lk hR rfl; have r2_4 : R 2 4 = some 29 := rr_lk hR rfl; have r2_5 : R 2 5 = some 31 := rr_lk hR rfl; have r2_6 : R 2 6 = some 46 := rr_lk hR rfl; have r2_7 : R 2 7 = some 57 := rr_lk hR rfl; have r2_8 : R 2 8 = some 60 := rr_lk hR rfl; have r2_9 : R 2 9 = some 63 := rr_lk hR rfl; have s3 : (SH L)[3]? = some (6, 4) := rfl; have r3_0 : R 3 0 = some 4 := rr_lk hR rfl; have r3_1 : R 3 1 = some 6 := rr_lk hR rfl; have r3_2 : R 3 2 = some 9 := rr_lk hR rfl; have r3_3 : R 3 3 = some 12 := rr_lk hR rfl; have s4 : (SH L)[4]? = some (0, 2) := rfl; have r4_0 : R 4 0 = some 5 := rr_lk hR rfl; have s31 : (SH L)[31]? = some (2, 5) := rfl; have r31_0 : R 31 0 = some 32 := rr_lk hR rfl; have r31_1 : R 31 1 = some 36 := rr_lk hR rfl
  obtain ⟨b3, b4, b5, c2, hI, hm⟩ := hr
  have hR := b3
  have s2 : (SH L)[2]? = some (10, 10) := rfl; have r2_0 : R1 2 0 = some 3 := rr_lk hR rfl; have r2_1 : R1 2 1 = some 15 := rr_lk hR rfl; have r2_3 : R1 2 3 = some 27 := rr_lk hR rfl; have r2_4 : R1 2 4 = some 29 := rr_lk hR rfl; have r2_5 : R1 2 5 = some 31 := rr_lk hR rfl; have r2_6 : R1 2 6 = some 46 := rr_lk hR rfl; have r2_7 : R1 2 7 = some 57 := rr_lk hR rfl; have r2_8 : R1 2 8 = some 60 := rr_lk hR rfl; have r2_9 : R1 2 9 = some 63 := rr_lk hR rfl; have s31 : (SH L)[31]? = some (2, 5) := rfl; have r31_0 : R1 31 0 = some 32 := rr_lk hR rfl; have r31_1 : R1 31 1 = some 36 := rr_lk hR rfl; have s36 : (SH L)[36]? = some (9, 7) := rfl; have r36_0 : R1 36 0 = some 37 := rr_lk hR rfl; have r36_1 : R1 36 1 = some 38 := rr_lk hR rfl; have r36_2 : R1 36 2 = some 39 := rr_lk hR rfl; have r36_3 : R1 36 3 = some 40 := rr_lk hR rfl; have r36_4 : R1 36 4 = some 41 := rr_lk hR rfl; have r36_5 : R1 36 5 = some 42 := rr_lk hR rfl
  unfold thI
  cases hw : wh (mA J) (J 76 1) with
  | error q =>
    rw [hw] at hm
    obtain ⟨p1, -⟩ := hm
    simp (disch := first | assumption | omega | exact bi_lo | exact bi_hi | exact bi_01 | exact jcmp_lo | exact jcmp_hi | exact (jor_r _ _).1 | exact (jor_r _ _).2 | exact (jand_r _ _).1 | exact (jand_r _ _).2) only [x137_0, x137_1, x137_4, x137_5, x137_8, x137_11, x137_14, x137_17, x137_18, x137_21, x137_24, x137_25, x137_28, x137_31, x137_32, kb_some, kb_none, clr_vi, clr_ref, clr_null, clr_none, va_rf_some, va_rf_none, ↓bi_ite_t, ↓bi_ite_f, ↓jc_lt_t, ↓jc_lt_f, ↓jc_gt_t, ↓jc_gt_f, ↓jc_le_t, ↓jc_le_f, ↓jc_ge_t, ↓jc_ge_f, ↓jc_eq_t, ↓jc_eq_f, ↓if_pos, ↓if_neg, p1]
  | ok F =>
    rw [hw] at hm
    obtain ⟨p1, p2, p3, p4, p5, p6⟩ := hm
    have ht := fun d => t_topAt (d := d) (K := K) (k := x) (isT_36 (L := L) b3) p2.1 p2.2.1 (by rw [p2.2.1]; omega) hx
    simp (disch := first | assumption | omega | exact bi_lo | exact bi_hi | exact bi_01 | exact jcmp_lo | exact jcmp_hi | exact (jor_r _ _).1 | exact (jor_r _ _).2 | exact (jand_r _ _).1 | exact (jand_r _ _).2) only [x137_0, x137_1, x137_4, x137_5, x137_8, x137_11, x137_14, x137_17, x137_18, x137_21, x137_24, x137_25, x137_28, x137_31, x137_32, x16_0, x16_1, x16_4, x16_4n, kb_some, kb_none, clr_vi, clr_ref, clr_null, clr_none, va_rf_some, va_rf_none, ↓bi_ite_t, ↓bi_ite_f, ↓jc_lt_t, ↓jc_lt_f, ↓jc_gt_t, ↓jc_gt_f, ↓jc_le_t, ↓jc_le_f, ↓jc_ge_t, ↓jc_ge_f, ↓jc_eq_t, ↓jc_eq_f, ↓if_pos, ↓if_neg, p1, ht]
/-- what both hold of a thing of the file -/
theorem th_row {e1 e2 : Nat} (hr : RDB L e1 e2 J K R J1 R1 J2) {F : List (Nd 3)} (hw : wh (mA J) (J 76 1) = .ok F) {r : Nat} {a : Nd 3} {k : Int} (hn : nthT F 0 k = some (r, a)) : (r < 40 ∧ (r : Int) < J1 36 6 ∧ J1 36 6 ≤ 40 ∧ r < 60) ∧ (J1 37 r = a.1.1 ∧ J1 38 r = a.1.2.1 ∧ J1 40 r = (1 + fsz 3 a.2 : Nat)) ∧ (J2 86 r = a.1.1 ∧ J2 87 r = a.1.2.1) ∧ wF (mA J) 4 ([a] : List (Nd 3)) := by
  obtain ⟨b3, b4, b5, c2, hI, hm⟩ := hr
  rw [hw] at hm
  obtain ⟨p1, p2, p3, p4, ⟨p5, p6, p7⟩, p8⟩ := hm
  obtain ⟨q1, q2⟩ := nthT_C F 0 k r a p2.1 hn
  have hwx := nthT_wf F 0 k r a p5 hn
  obtain ⟨u1, u2, u3⟩ := MF_UN p4 p5 (by omega) hn hwx
  have e36 := p2.2.1
  rw [cF_cons] at q1
  rw [mF_cons] at u3
  obtain ⟨⟨n1, n2, n3, n4, n5⟩, -⟩ := q1
  obtain ⟨⟨m1, m2, -⟩, -⟩ := u3
  exact ⟨by omega, ⟨n1, n2, by rw [n4]; omega⟩, ⟨m1, m2⟩, hwx⟩
theorem nthI_T {F : List (Nd 3)} {k : Int} : (nthT F 0 k = none ∧ nthI F 0 k = -1) ∨ ∃ r a, nthT F 0 k = some (r, a) ∧ nthI F 0 k = (r : Int) := by
  cases h : nthT F 0 k with
  | none => left; exact ⟨rfl, by unfold nthI; rw [h]⟩
  | some q => right; exact ⟨q.1, q.2, rfl, by unfold nthI; rw [h]⟩
theorem op_taken (h : INV J K R) (hx : -2147483648 ≤ x ∧ x ≤ 2147483647) (hy : -2147483648 ≤ y ∧ y ≤ 2147483647) : OP L d 124 228 [some (vi x), some (vi y), none, none] [some (vi x), some (vi y), none, none] J K R := by
  have hR := h.1
  have s1 : (SH L)[1]? = some (20, 4) := rfl; have s2 : (SH L)[2]? = some (10, 10) := rfl; have r2_0 : R 2 0 = some 3 := rr_lk hR rfl; have r2_1 : R 2 1 = some 15 := rr_lk hR rfl; have r2_3 : R 2 3 = some 27 := rr_lk hR rfl; have r2_4 : R 2 4 = some 29 := rr_lk hR rfl; have r2_5 : R 2 5 = some 31 := rr_lk hR rfl; have r2_6 : R 2 6 = some 46 := rr_lk hR rfl; have r2_7 : R 2 7 = some 57 := rr_lk hR rfl; have r2_8 : R 2 8 = some 60 := rr_lk hR rfl; have r2_9 : R 2 9 = some 63 := rr_lk hR rfl; have s3 : (SH L)[3]? = some (6, 4) := rfl; have r3_0 : R 3 0 = some 4 := rr_lk hR rfl; have r3_1 : R 3 1 = some 6 := rr_lk hR rfl; have r3_2 : R 3 2 = some 9 := rr_lk hR rfl; have r3_3 : R 3 3 = some 12 := rr_lk hR rfl; have s4 : (SH L)[4]? = some (0, 2) := rfl; have r4_0 : R 4 0 = some 5 := rr_lk hR rfl; have s31 : (SH L)[31]? = some (2, 5) := rfl; have r31_0 : R 31 0 = some 32 := rr_lk hR rfl; have r31_1 : R 31 1 = some 36 := rr_lk hR rfl; have s76 : (SH L)[76]? = some (11, 58) := rfl; have r76_0 : R 76 0 = some 77 := rr_lk hR rfl; have r76_3 : R 76 3 = some 78 := rr_lk hR rfl; have r76_4 : R 76 4 = some 79 := rr_lk hR rfl; have r76_6 : R 76 6 = some 80 := rr_lk hR rfl; have r76_7 : R 76 7 = some 81 := rr_lk hR rfl; have r76_9 : R 76 9 = some 82 := rr_lk hR rfl; have r76_10 : R 76 10 = some 83 := rr_lk hR rfl; have r76_12 : R 76 12 = some 84 := rr_lk hR rfl; have r76_13 : R 76 13 = some 85 := rr_lk hR rfl; have r76_19 : R 76 19 = some 86 := rr_lk hR rfl; have r76_20 : R 76 20 = some 87 := rr_lk hR rfl; have r76_21 : R 76 21 = some 88 := rr_lk hR rfl; have r76_22 : R 76 22 = some 89 := rr_lk hR rfl; have r76_24 : R 76 24 = some 90 := rr_lk hR rfl; have r76_25 : R 76 25 = some 91 := rr_lk hR rfl; have r76_26 : R 76 26 = some 92 := rr_lk hR rfl; have r76_28 : R 76 28 = some 93 := rr_lk hR rfl; have r76_29 : R 76 29 = some 94 := rr_lk hR rfl; have r76_30 : R 76 30 = some 95 := rr_lk hR rfl; have r76_31 : R 76 31 = some 96 := rr_lk hR rfl; have r76_32 : R 76 32 = some 97 := rr_lk hR rfl; have r76_36 : R 76 36 = some 98 := rr_lk hR rfl; have r76_38 : R 76 38 = some 99 := rr_lk hR rfl; have r76_39 : R 76 39 = some 100 := rr_lk hR rfl; have r76_40 : R 76 40 = some 101 := rr_lk hR rfl; have r76_41 : R 76 41 = some 102 := rr_lk hR rfl; have r76_42 : R 76 42 = some 103 := rr_lk hR rfl; have r76_47 : R 76 47 = some 104 := rr_lk hR rfl; have r76_53 : R 76 53 = some 105 := rr_lk hR rfl; have r76_54 : R 76 54 = some 106 := rr_lk hR rfl; have r76_55 : R 76 55 = some 107 := rr_lk hR rfl; have r76_56 : R 76 56 = some 108 := rr_lk hR rfl; have r76_57 : R 76 57 = some 109 := rr_lk hR rfl
  by_cases c1 : 0 ≤ y ∧ y ≤ 3
  rotate_left
  · have hin : ∀ d, EE d 139 0 [some (vl y), none, some (vl 0), none, some (vl 3), none] [] (SH L) (mm_up J 76 11 0) K R = ok (some (vi 0)) (SH L) (mm_up J 76 11 0) K R := fun d => by
      have := m_in (d := d) (S := SH L) (J := mm_up J 76 11 0) (K := K) (R := R) (x := y) (y := 0) (z := 3) (by omega) (by omega) (by omega)
      rw [bi_f c1] at this; exact this
    refine ⟨vi (-2), J, K, R, mm_up J 76 11 0, K, R, ?_, ?_, INV_11 h⟩
    · by_cases c5 : y < 0
      · simp (disch := first | assumption | omega | exact bi_lo | exact bi_hi | exact bi_01 | exact jcmp_lo | exact jcmp_hi | exact (jor_r _ _).1 | exact (jor_r _ _).2 | exact (jand_r _ _).1 | exact (jand_r _ _).2) only [x124_0, x124_1, x124_4, x124_5, x124_8, x124_8l, x124_8a, x124_9, x124_12, x124_14, kb_some, kb_none, clr_vi, clr_ref, clr_null, clr_none, va_rf_some, va_rf_none, ↓bi_ite_t, ↓bi_ite_f, ↓jc_lt_t, ↓jc_lt_f, ↓jc_gt_t, ↓jc_gt_f, ↓jc_le_t, ↓jc_le_f, ↓jc_ge_t, ↓jc_ge_f, ↓jc_eq_t, ↓jc_eq_f, ↓if_pos, ↓if_neg]
      · simp (disch := first | assumption | omega | exact bi_lo | exact bi_hi | exact bi_01 | exact jcmp_lo | exact jcmp_hi | exact (jor_r _ _).1 | exact (jor_r _ _).2 | exact (jand_r _ _).1 | exact (jand_r _ _).2) only [x124_0, x124_1, x124_4, x124_5, x124_8, x124_8l, x124_8a, x124_9, x124_12, x124_14, kb_some, kb_none, clr_vi, clr_ref, clr_null, clr_none, va_rf_some, va_rf_none, ↓bi_ite_t, ↓bi_ite_f, ↓jc_lt_t, ↓jc_lt_f, ↓jc_gt_t, ↓jc_gt_f, ↓jc_le_t, ↓jc_le_f, ↓jc_ge_t, ↓jc_ge_f, ↓jc_eq_t, ↓jc_eq_f, ↓if_pos, ↓if_neg]
    · simp (disch := first | assumption | omega | exact bi_lo | exact bi_hi | exact bi_01 | exact jcmp_lo | exact jcmp_hi | exact (jor_r _ _).1 | exact (jor_r _ _).2 | exact (jand_r _ _).1 | exact (jand_r _ _).2) only [x228_0, x228_1, x228_2, x228_5, x228_6, x228_7, x228_8, x228_11, x228_14, x228_17, x228_19, kb_some, kb_none, clr_vi, clr_ref, clr_null, clr_none, va_rf_some, va_rf_none, ↓bi_ite_t, ↓bi_ite_f, ↓jc_lt_t, ↓jc_lt_f, ↓jc_gt_t, ↓jc_gt_f, ↓jc_le_t, ↓jc_le_f, ↓jc_ge_t, ↓jc_ge_f, ↓jc_eq_t, ↓jc_eq_f, ↓if_pos, ↓if_neg, hin]
  obtain ⟨J1, R1, J2, hr⟩ := rd_both (L := L) (d + 7) (d + 14) h
  have ho := c_thingOf h hr hx
  have hr' := hr
  obtain ⟨b3, b4, b5, c2, hI, hm⟩ := hr
  have hR := b3
  have s1 : (SH L)[1]? = some (20, 4) := rfl; have s2 : (SH L)[2]? = some (10, 10) := rfl; have r2_0 : R1 2 0 = some 3 := rr_lk hR rfl; have r2_1 : R1 2 1 = some 15 := rr_lk hR rfl; have r2_3 : R1 2 3 = some 27 := rr_lk hR rfl; have r2_4 : R1 2 4 = some 29 := rr_lk hR rfl; have r2_5 : R1 2 5 = some 31 := rr_lk hR rfl; have r2_6 : R1 2 6 = some 46 := rr_lk hR rfl; have r2_7 : R1 2 7 = some 57 := rr_lk hR rfl; have r2_8 : R1 2 8 = some 60 := rr_lk hR rfl; have r2_9 : R1 2 9 = some 63 := rr_lk hR rfl; have s31 : (SH L)[31]? = some (2, 5) := rfl; have r31_0 : R1 31 0 = some 32 := rr_lk hR rfl; have r31_1 : R1 31 1 = some 36 := rr_lk hR rfl; have s32 : (SH L)[32]? = some (1, 4) := rfl; have r32_0 : R1 32 0 = some 33 := rr_lk hR rfl; have r32_1 : R1 32 1 = some 34 := rr_lk hR rfl; have r32_2 : R1 32 2 = some 35 := rr_lk hR rfl; have s36 : (SH L)[36]? = some (9, 7) := rfl; have r36_0 : R1 36 0 = some 37 := rr_lk hR rfl; have r36_1 : R1 36 1 = some 38 := rr_lk hR rfl; have r36_2 : R1 36 2 = some 39 := rr_lk hR rfl; have r36_3 : R1 36 3 = some 40 := rr_lk hR rfl; have r36_4 : R1 36 4 = some 41 := rr_lk hR rfl; have r36_5 : R1 36 5 = some 42 := rr_lk hR rfl; have s76 : (SH L)[76]? = some (11, 58) := rfl; have r76_0 : R1 76 0 = some 77 := rr_lk hR rfl; have r76_3 : R1 76 3 = some 78 := rr_lk hR rfl; have r76_4 : R1 76 4 = some 79 := rr_lk hR rfl; have r76_6 : R1 76 6 = some 80 := rr_lk hR rfl; have r76_7 : R1 76 7 = some 81 := rr_lk hR rfl; have r76_9 : R1 76 9 = some 82 := rr_lk hR rfl; have r76_10 : R1 76 10 = some 83 := rr_lk hR rfl; have r76_12 : R1 76 12 = some 84 := rr_lk hR rfl; have r76_13 : R1 76 13 = some 85 := rr_lk hR rfl; have r76_19 : R1 76 19 = some 86 := rr_lk hR rfl; have r76_20 : R1 76 20 = some 87 := rr_lk hR rfl; have r76_21 : R1 76 21 = some 88 := rr_lk hR rfl; have r76_22 : R1 76 22 = some 89 := rr_lk hR rfl; have r76_24 : R1 76 24 = some 90 := rr_lk hR rfl; have r76_25 : R1 76 25 = some 91 := rr_lk hR rfl; have r76_26 : R1 76 26 = some 92 := rr_lk hR rfl; have r76_28 : R1 76 28 = some 93 := rr_lk hR rfl; have r76_29 : R1 76 29 = some 94 := rr_lk hR rfl; have r76_30 : R1 76 30 = some 95 := rr_lk hR rfl; have r76_31 : R1 76 31 = some 96 := rr_lk hR rfl; have r76_32 : R1 76 32 = some 97 := rr_lk hR rfl; have r76_36 : R1 76 36 = some 98 := rr_lk hR rfl; have r76_38 : R1 76 38 = some 99 := rr_lk hR rfl; have r76_39 : R1 76 39 = some 100 := rr_lk hR rfl; have r76_40 : R1 76 40 = some 101 := rr_lk hR rfl; have r76_41 : R1 76 41 = some 102 := rr_lk hR rfl; have r76_42 : R1 76 42 = some 103 := rr_lk hR rfl; have r76_47 : R1 76 47 = some 104 := rr_lk hR rfl; have r76_53 : R1 76 53 = some 105 := rr_lk hR rfl; have r76_54 : R1 76 54 = some 106 := rr_lk hR rfl; have r76_55 : R1 76 55 = some 107 := rr_lk hR rfl; have r76_56 : R1 76 56 = some 108 := rr_lk hR rfl; have r76_57 : R1 76 57 = some 109 := rr_lk hR rfl; have s86 : (SH L)[86]? = some (20, 60) := rfl
  have hin : ∀ d, EE d 139 0 [some (vl y), none, some (vl 0), none, some (vl 3), none] [] (SH L) (mm_up J1 76 11 0) K R1 = ok (some (vi 1)) (SH L) (mm_up J1 76 11 0) K R1 := fun d => by
    have := m_in (d := d) (S := SH L) (J := mm_up J1 76 11 0) (K := K) (R := R1) (x := y) (y := 0) (z := 3) (by omega) (by omega) (by omega)
    rw [bi_t c1] at this; exact this
  unfold thI at ho
  cases hw : wh (mA J) (J 76 1) with
  | error q =>
    rw [hw] at hm ho
    obtain ⟨p1, p2, p3, p4, p5⟩ := hm
    refine ⟨vi (-11), J1, K, R1, J2, K, R1, ?_, ?_, hI⟩
    · simp (disch := first | assumption | omega | exact bi_lo | exact bi_hi | exact bi_01 | exact jcmp_lo | exact jcmp_hi | exact (jor_r _ _).1 | exact (jor_r _ _).2 | exact (jand_r _ _).1 | exact (jand_r _ _).2) only [x124_0, x124_1, x124_4, x124_5, x124_8, x124_8l, x124_8a, x124_9, x124_12, x124_14, x124_15, x124_16, x124_17, x124_20, x124_21, x124_22, x124_25, x124_27, x124_28, x124_29, x124_32, x124_35, x124_36, x124_39, x124_41, x124_43, x124_46, x124_47, x124_48, x124_51, x124_53, x124_56, x124_58, kb_some, kb_none, clr_vi, clr_ref, clr_null, clr_none, va_rf_some, va_rf_none, ↓bi_ite_t, ↓bi_ite_f, ↓jc_lt_t, ↓jc_lt_f, ↓jc_gt_t, ↓jc_gt_f, ↓jc_le_t, ↓jc_le_f, ↓jc_ge_t, ↓jc_ge_f, ↓jc_eq_t, ↓jc_eq_f, ↓if_pos, ↓if_neg, ho]
    · simp (disch := first | assumption | omega | exact bi_lo | exact bi_hi | exact bi_01 | exact jcmp_lo | exact jcmp_hi | exact (jor_r _ _).1 | exact (jor_r _ _).2 | exact (jand_r _ _).1 | exact (jand_r _ _).2) only [x228_0, x228_1, x228_2, x228_5, x228_6, x228_7, x228_8, x228_11, x228_14, x228_17, x228_19, x228_20, x228_21, x228_24, x228_27, x228_28, x228_29, x228_32, x228_35, x228_37, x228_38, x228_39, x228_42, x228_43, x228_44, x228_47, x228_48, x228_49, x228_50, x228_53, x228_55, x228_58, x228_59, x228_60, x228_63, x228_65, x228_68, x228_69, x228_70, x228_73, x228_75, x228_78, x228_80, x228_82, x228_83, x228_85, x228_88, x228_89, x228_92, x228_94, kb_some, kb_none, clr_vi, clr_ref, clr_null, clr_none, va_rf_some, va_rf_none, ↓bi_ite_t, ↓bi_ite_f, ↓jc_lt_t, ↓jc_lt_f, ↓jc_gt_t, ↓jc_gt_f, ↓jc_le_t, ↓jc_le_f, ↓jc_ge_t, ↓jc_ge_f, ↓jc_eq_t, ↓jc_eq_f, ↓if_pos, ↓if_neg, hin, p3]
  | ok F =>
    rw [hw] at hm ho
    obtain ⟨p1, p2, p3, p4, p5, p6⟩ := hm
    simp only at ho
    have ht := fun d => m_topOf (L := L) (d := d) (K := K) (k := x) b3 p4 (by rw [p4.2]; omega) (by omega) hx
    rcases nthI_T (F := F) (k := x) with ⟨n1, n2⟩ | ⟨r, a, n1, n2⟩
    · rw [n2] at ho
      simp only [n2] at ht
      refine ⟨vi (-11), J1, K, R1, J2, K, R1, ?_, ?_, hI⟩
      · simp (disch := first | assumption | omega | exact bi_lo | exact bi_hi | exact bi_01 | exact jcmp_lo | exact jcmp_hi | exact (jor_r _ _).1 | exact (jor_r _ _).2 | exact (jand_r _ _).1 | exact (jand_r _ _).2) only [x124_0, x124_1, x124_4, x124_5, x124_8, x124_8l, x124_8a, x124_9, x124_12, x124_14, x124_15, x124_16, x124_17, x124_20, x124_21, x124_22, x124_25, x124_27, x124_28, x124_29, x124_32, x124_35, x124_36, x124_39, x124_41, x124_43, x124_46, x124_47, x124_48, x124_51, x124_53, x124_56, x124_58, kb_some, kb_none, clr_vi, clr_ref, clr_null, clr_none, va_rf_some, va_rf_none, ↓bi_ite_t, ↓bi_ite_f, ↓jc_lt_t, ↓jc_lt_f, ↓jc_gt_t, ↓jc_gt_f, ↓jc_le_t, ↓jc_le_f, ↓jc_ge_t, ↓jc_ge_f, ↓jc_eq_t, ↓jc_eq_f, ↓if_pos, ↓if_neg, ho]
      · simp (disch := first | assumption | omega | exact bi_lo | exact bi_hi | exact bi_01 | exact jcmp_lo | exact jcmp_hi | exact (jor_r _ _).1 | exact (jor_r _ _).2 | exact (jand_r _ _).1 | exact (jand_r _ _).2) only [x228_0, x228_1, x228_2, x228_5, x228_6, x228_7, x228_8, x228_11, x228_14, x228_17, x228_19, x228_20, x228_21, x228_24, x228_27, x228_28, x228_29, x228_32, x228_35, x228_37, x228_38, x228_39, x228_42, x228_43, x228_44, x228_47, x228_48, x228_49, x228_50, x228_53, x228_55, x228_58, x228_59, x228_60, x228_63, x228_65, x228_68, x228_69, x228_70, x228_73, x228_75, x228_78, x228_80, x228_82, x228_83, x228_85, x228_88, x228_89, x228_92, x228_94, kb_some, kb_none, clr_vi, clr_ref, clr_null, clr_none, va_rf_some, va_rf_none, ↓bi_ite_t, ↓bi_ite_f, ↓jc_lt_t, ↓jc_lt_f, ↓jc_gt_t, ↓jc_gt_f, ↓jc_le_t, ↓jc_le_f, ↓jc_ge_t, ↓jc_ge_f, ↓jc_eq_t, ↓jc_eq_f, ↓if_pos, ↓if_neg, hin, p3, ht]
    · rw [n2] at ho
      simp only [n2] at ht
      obtain ⟨⟨q0, q1, q2, q3⟩, ⟨q4, q5, q6⟩, ⟨q7, q8⟩, q9⟩ := th_row hr' hw n1
      have hty := fun d => t_typeOf (d := d) (J := J1) (K := K) (i := (r : Int)) (isT_36 (L := L) b3) (by omega) (by omega)
      rw [Int.toNat_natCast, q4] at hty
      obtain ⟨⟨t0, t1, t2, t3⟩, -⟩ := hI.2.2.2.2.1
      have e1 : ∀ j, J1 1 j = J2 1 j := fun j => by
        have := c2 1 j (by omega)
        rw [this, up_ne (by decide)]
      rw [← e1] at t0 t1 t2 t3
      have hT := q9.1.1
      have hr : -2147483648 ≤ a.1.1 ∧ a.1.1 ≤ 2147483647 := by
        have : a.1.1 = 110 ∨ (a.1.1 = 115 ∨ a.1.1 = 114) ∨ a.1.1 = 103 := by
          unfold wD at hT
          rcases hT with q | q | q
          · exact Or.inl q.1
          · exact Or.inr (Or.inl q.1)
          · exact Or.inr (Or.inr q)
        omega
      generalize a.1.1 = ty at *
      have hy4 : y = 0 ∨ y = 1 ∨ y = 2 ∨ y = 3 := by omega
      have main : ∀ w : Int, -2147483648 ≤ w ∧ w ≤ 2147483647 → ((y = 0 ∧ w = 110) ∨ (y = 1 ∧ w = 115) ∨ (y = 2 ∧ w = 114) ∨ (y = 3 ∧ w = 103)) → OP L d 124 228 [some (vi x), some (vi y), none, none] [some (vi x), some (vi y), none, none] J K R := by
        intro w hw0 hw4
        have ew : J1 1 y.toNat = w := by
          rcases hw4 with ⟨z1, z2⟩ | ⟨z1, z2⟩ | ⟨z1, z2⟩ | ⟨z1, z2⟩ <;> subst z1 <;> subst z2 <;> assumption
        by_cases ce : ty = w
        · refine ⟨vi ty, J1, K, R1, J2, K, R1, ?_, ?_, hI⟩
          · simp (disch := first | assumption | omega | exact bi_lo | exact bi_hi | exact bi_01 | exact jcmp_lo | exact jcmp_hi | exact (jor_r _ _).1 | exact (jor_r _ _).2 | exact (jand_r _ _).1 | exact (jand_r _ _).2) only [x124_0, x124_1, x124_4, x124_5, x124_8, x124_8l, x124_8a, x124_9, x124_12, x124_14, x124_15, x124_16, x124_17, x124_20, x124_21, x124_22, x124_25, x124_27, x124_28, x124_29, x124_32, x124_35, x124_36, x124_39, x124_41, x124_43, x124_46, x124_47, x124_48, x124_51, x124_53, x124_56, x124_58, x16_0, x16_1, x16_4, x16_4n, kb_some, kb_none, clr_vi, clr_ref, clr_null, clr_none, va_rf_some, va_rf_none, ↓bi_ite_t, ↓bi_ite_f, ↓jc_lt_t, ↓jc_lt_f, ↓jc_gt_t, ↓jc_gt_f, ↓jc_le_t, ↓jc_le_f, ↓jc_ge_t, ↓jc_ge_f, ↓jc_eq_t, ↓jc_eq_f, ↓if_pos, ↓if_neg, ho, hty, ew]
          · rcases hw4 with ⟨z1, z2⟩ | ⟨z1, z2⟩ | ⟨z1, z2⟩ | ⟨z1, z2⟩ <;> subst z1 <;> subst z2 <;> simp (disch := first | assumption | omega | exact bi_lo | exact bi_hi | exact bi_01 | exact jcmp_lo | exact jcmp_hi | exact (jor_r _ _).1 | exact (jor_r _ _).2 | exact (jand_r _ _).1 | exact (jand_r _ _).2) only [x228_0, x228_1, x228_2, x228_5, x228_6, x228_7, x228_8, x228_11, x228_14, x228_17, x228_19, x228_20, x228_21, x228_24, x228_27, x228_28, x228_29, x228_32, x228_35, x228_37, x228_38, x228_39, x228_42, x228_43, x228_44, x228_47, x228_48, x228_49, x228_50, x228_53, x228_55, x228_58, x228_59, x228_60, x228_63, x228_65, x228_68, x228_69, x228_70, x228_73, x228_75, x228_78, x228_80, x228_82, x228_83, x228_85, x228_88, x228_89, x228_92, x228_94, kb_some, kb_none, clr_vi, clr_ref, clr_null, clr_none, va_rf_some, va_rf_none, ↓bi_ite_t, ↓bi_ite_f, ↓jc_lt_t, ↓jc_lt_f, ↓jc_gt_t, ↓jc_gt_f, ↓jc_le_t, ↓jc_le_f, ↓jc_ge_t, ↓jc_ge_f, ↓jc_eq_t, ↓jc_eq_f, ↓if_pos, ↓if_neg, hin, p3, ht, Int.toNat_natCast, q7]
        · refine ⟨vi (-12), J1, K, R1, J2, K, R1, ?_, ?_, hI⟩
          · simp (disch := first | assumption | omega | exact bi_lo | exact bi_hi | exact bi_01 | exact jcmp_lo | exact jcmp_hi | exact (jor_r _ _).1 | exact (jor_r _ _).2 | exact (jand_r _ _).1 | exact (jand_r _ _).2) only [x124_0, x124_1, x124_4, x124_5, x124_8, x124_8l, x124_8a, x124_9, x124_12, x124_14, x124_15, x124_16, x124_17, x124_20, x124_21, x124_22, x124_25, x124_27, x124_28, x124_29, x124_32, x124_35, x124_36, x124_39, x124_41, x124_43, x124_46, x124_47, x124_48, x124_51, x124_53, x124_56, x124_58, x16_0, x16_1, x16_4, x16_4n, kb_some, kb_none, clr_vi, clr_ref, clr_null, clr_none, va_rf_some, va_rf_none, ↓bi_ite_t, ↓bi_ite_f, ↓jc_lt_t, ↓jc_lt_f, ↓jc_gt_t, ↓jc_gt_f, ↓jc_le_t, ↓jc_le_f, ↓jc_ge_t, ↓jc_ge_f, ↓jc_eq_t, ↓jc_eq_f, ↓if_pos, ↓if_neg, ho, hty, ew]
          · rcases hw4 with ⟨z1, z2⟩ | ⟨z1, z2⟩ | ⟨z1, z2⟩ | ⟨z1, z2⟩ <;> subst z1 <;> subst z2 <;> simp (disch := first | assumption | omega | exact bi_lo | exact bi_hi | exact bi_01 | exact jcmp_lo | exact jcmp_hi | exact (jor_r _ _).1 | exact (jor_r _ _).2 | exact (jand_r _ _).1 | exact (jand_r _ _).2) only [x228_0, x228_1, x228_2, x228_5, x228_6, x228_7, x228_8, x228_11, x228_14, x228_17, x228_19, x228_20, x228_21, x228_24, x228_27, x228_28, x228_29, x228_32, x228_35, x228_37, x228_38, x228_39, x228_42, x228_43, x228_44, x228_47, x228_48, x228_49, x228_50, x228_53, x228_55, x228_58, x228_59, x228_60, x228_63, x228_65, x228_68, x228_69, x228_70, x228_73, x228_75, x228_78, x228_80, x228_82, x228_83, x228_85, x228_88, x228_89, x228_92, x228_94, kb_some, kb_none, clr_vi, clr_ref, clr_null, clr_none, va_rf_some, va_rf_none, ↓bi_ite_t, ↓bi_ite_f, ↓jc_lt_t, ↓jc_lt_f, ↓jc_gt_t, ↓jc_gt_f, ↓jc_le_t, ↓jc_le_f, ↓jc_ge_t, ↓jc_ge_f, ↓jc_eq_t, ↓jc_eq_f, ↓if_pos, ↓if_neg, hin, p3, ht, Int.toNat_natCast, q7]
      rcases hy4 with c | c | c | c
      · exact main 110 (by omega) (by omega)
      · exact main 115 (by omega) (by omega)
      · exact main 114 (by omega) (by omega)
      · exact main 103 (by omega) (by omega)
end
