/-! the calls, one by one: both read -/
section
variable {L d : Nat} {J J' J1 J2 K K' : mJ} {R R' : mm_R} {x y z : Int} {f : Int → Int}
/-- what the two readings leave -/
def RDB (L e1 e2 : Nat) (J K : mJ) (R : mm_R) (J1 : mJ) (R1 : mm_R) (J2 : mJ) : Prop := wfR R1 ∧ fr A31 J J1 ∧ RS J1 ∧ frm AR (mm_up J1 76 11 0) J2 ∧ INV J2 K R1 ∧ match wh (mA J) (J 76 1) with
  | .error q => EE (e1 + 11) 17 0 [some (.ref 31), some (.ref 4), none] [] (SH L) J K R = ok (some (vi 0)) (SH L) J1 K R1 ∧ FH J1 q ∧ EE (e2 + 5) 162 0 [some (.ref 76), none, none] [] (SH L) (mm_up J1 76 11 0) K R1 = ok (some (vi 0)) (SH L) J2 K R1 ∧ FMo J2 q ∧ (1 ≤ q.length ∧ q.length ≤ 6)
  | .ok F => EE (e1 + 11) 17 0 [some (.ref 31), some (.ref 4), none] [] (SH L) J K R = ok (some (vi 1)) (SH L) J1 K R1 ∧ CF (mA J) J1 F ∧ EE (e2 + 5) 162 0 [some (.ref 76), none, none] [] (SH L) (mm_up J1 76 11 0) K R1 = ok (some (vi 1)) (SH L) J2 K R1 ∧ MF J2 F ∧ (wF (mA J) 4 F ∧ F.length ≤ 6 ∧ 3 * fsz 4 F + fby 4 F ≤ 116) ∧ ∀ g v, (fileL g v F).length ≤ 126
theorem mA_r (h : INV J K R) : (∀ q, -1 ≤ mA J q) ∧ ∀ q, 0 ≤ q → q < J 76 1 → 0 ≤ mA J q ∧ mA J q ≤ 255 := by
  have h2 := h.2.1.2
  refine ⟨fun q => ?_, fun q q1 q2 => ?_⟩
  · unfold mA
    split
    · have := (h2.2 q.toNat (by omega)).2.1; omega
    · omega
  · unfold mA
    rw [if_pos ⟨q1, q2⟩]
    exact (h2.2 q.toNat (by omega)).2.1
theorem rd_both (e1 e2 : Nat) (h : INV J K R) : ∃ J1 R1 J2, RDB L e1 e2 J K R J1 R1 J2 := by
  have hX := h.2.2.2.2.2.1
  have a1 := h.2.1.1
  have a2 := h.2.1.2.1
  obtain ⟨v1, J1, K1, R1, b1, b2, b3, b4, b5, b6⟩ := rd_isWhole (L := L) (d := e1) (K := K) (INV_RB h) hX.1
  subst b2
  rw [a1] at b6
  have e76 : J1 76 = J 76 := b4 76 (by decide)
  have e77 : J1 77 = J 77 := b4 77 (by decide)
  have hM := INV_MR (J' := mm_up J1 76 11 0) h b3 (by rw [up_j (by decide), e76]) (by rw [up_ne (by decide), e77])
  obtain ⟨w1, J2, c1, c2, c3⟩ := m_isWhole (L := L) (d := e2) (K := K1) hM
  rw [up_j (by decide), e76] at c3
  have hI := INV_read h b3 b5 b4 c2
  refine ⟨J1, R1, J2, b3, b4, b5, c2, hI, ?_⟩
  obtain ⟨m1, m2⟩ := mA_r h
  cases hw : wh (mA J) (J 76 1) with
  | error q =>
    rw [hw] at b6 c3
    obtain ⟨p1, p2⟩ := b6
    obtain ⟨p3, p4⟩ := c3
    subst p1
    subst p3
    exact ⟨b1, p2, c1, p4, wh_len hw⟩
  | ok F =>
    rw [hw] at b6 c3
    obtain ⟨p1, p2⟩ := b6
    obtain ⟨p3, p4⟩ := c3
    subst p1
    subst p3
    exact ⟨b1, p2, c1, p4, wh_wf a2.2 m1 m2 hw, fun g v => wh_file a2.2 m1 m2 hw⟩
theorem op_recovered (h : INV J K R) : OP L d 107 196 [] [] J K R := by
  have hR := h.1
  have s2 : (SH L)[2]? = some (10, 10) := rfl; have r2_0 : R 2 0 = some 3 := rr_lk hR rfl; have r2_1 : R 2 1 = some 15 := rr_lk hR rfl; have r2_3 : R 2 3 = some 27 := rr_lk hR rfl; have r2_4 : R 2 4 = some 29 := rr_lk hR rfl; have r2_5 : R 2 5 = some 31 := rr_lk hR rfl; have r2_6 : R 2 6 = some 46 := rr_lk hR rfl; have r2_7 : R 2 7 = some 57 := rr_lk hR rfl; have r2_8 : R 2 8 = some 60 := rr_lk hR rfl; have r2_9 : R 2 9 = some 63 := rr_lk hR rfl; have s3 : (SH L)[3]? = some (6, 4) := rfl; have r3_0 : R 3 0 = some 4 := rr_lk hR rfl; have r3_1 : R 3 1 = some 6 := rr_lk hR rfl; have r3_2 : R 3 2 = some 9 := rr_lk hR rfl; have r3_3 : R 3 3 = some 12 := rr_lk hR rfl; have s4 : (SH L)[4]? = some (0, 2) := rfl; have r4_0 : R 4 0 = some 5 := rr_lk hR rfl; have s31 : (SH L)[31]? = some (2, 5) := rfl; have r31_0 : R 31 0 = some 32 := rr_lk hR rfl; have r31_1 : R 31 1 = some 36 := rr_lk hR rfl; have s76 : (SH L)[76]? = some (11, 58) := rfl; have r76_0 : R 76 0 = some 77 := rr_lk hR rfl; have r76_3 : R 76 3 = some 78 := rr_lk hR rfl; have r76_4 : R 76 4 = some 79 := rr_lk hR rfl; have r76_6 : R 76 6 = some 80 := rr_lk hR rfl; have r76_7 : R 76 7 = some 81 := rr_lk hR rfl; have r76_9 : R 76 9 = some 82 := rr_lk hR rfl; have r76_10 : R 76 10 = some 83 := rr_lk hR rfl; have r76_12 : R 76 12 = some 84 := rr_lk hR rfl; have r76_13 : R 76 13 = some 85 := rr_lk hR rfl; have r76_19 : R 76 19 = some 86 := rr_lk hR rfl; have r76_20 : R 76 20 = some 87 := rr_lk hR rfl; have r76_21 : R 76 21 = some 88 := rr_lk hR rfl; have r76_22 : R 76 22 = some 89 := rr_lk hR rfl; have r76_24 : R 76 24 = some 90 := rr_lk hR rfl; have r76_25 : R 76 25 = some 91 := rr_lk hR rfl; have r76_26 : R 76 26 = some 92 := rr_lk hR rfl; have r76_28 : R 76 28 = some 93 := rr_lk hR rfl; have r76_29 : R 76 29 = some 94 := rr_lk hR rfl; have r76_30 : R 76 30 = some 95 := rr_lk hR rfl; have r76_31 : R 76 31 = some 96 := rr_lk hR rfl; have r76_32 : R 76 32 = some 97 := rr_lk hR rfl; have r76_36 : R 76 36 = some 98 := rr_lk hR rfl; have r76_38 : R 76 38 = some 99 := rr_lk hR rfl; have r76_39 : R 76 39 = some 100 := rr_lk hR rfl; have r76_40 : R 76 40 = some 101 := rr_lk hR rfl; have r76_41 : R 76 41 = some 102 := rr_lk hR rfl; have r76_42 : R 76 42 = some 103 := rr_lk hR rfl; have r76_47 : R 76 47 = some 104 := rr_lk hR rfl; have r76_53 : R 76 53 = some 105 := rr_lk hR rfl; have r76_54 : R 76 54 = some 106 := rr_lk hR rfl; have r76_55 : R 76 55 = some 107 := rr_lk hR rfl; have r76_56 : R 76 56 = some 108 := rr_lk hR rfl; have r76_57 : R 76 57 = some 109 := rr_lk hR rfl
  have hX := h.2.2.2.2.2.1
  have a1 := h.2.1.1
  obtain ⟨v1, J1, K1, R1, b1, b2, b3, b4, b5, b6⟩ := rd_recovered (L := L) (d := d + 8) (K := K) (INV_RB h) hX.1
  subst b2
  subst b6
  rw [a1] at b1
  have e76 : J1 76 = J 76 := b4 76 (by decide)
  have e77 : J1 77 = J 77 := b4 77 (by decide)
  have hM := INV_MR (J' := mm_up J1 76 11 0) h b3 (by rw [up_j (by decide), e76]) (by rw [up_ne (by decide), e77])
  obtain ⟨J2, c1, c2⟩ := m_recovered (L := L) (d := d + 14) (K := K1) hM
  rw [up_j (by decide), e76] at c1
  have hI := INV_read h b3 b5 b4 c2
  refine ⟨vi (rb (mA J) (J 76 1)), J1, K1, R1, J2, K1, R1, ?_, ?_, hI⟩
  · simp (disch := first | assumption | omega | exact bi_lo | exact bi_hi | exact bi_01 | exact jcmp_lo | exact jcmp_hi | exact (jor_r _ _).1 | exact (jor_r _ _).2 | exact (jand_r _ _).1 | exact (jand_r _ _).2) only [x107_0, x107_1, x107_4, x107_5, x107_8, x107_11, x107_14, kb_some, kb_none, clr_vi, clr_ref, clr_null, clr_none, va_rf_some, va_rf_none, ↓bi_ite_t, ↓bi_ite_f, ↓jc_lt_t, ↓jc_lt_f, ↓jc_gt_t, ↓jc_gt_f, ↓jc_le_t, ↓jc_le_f, ↓jc_ge_t, ↓jc_ge_f, ↓jc_eq_t, ↓jc_eq_f, ↓if_pos, ↓if_neg, b1]
  · simp (disch := first | assumption | omega | exact bi_lo | exact bi_hi | exact bi_01 | exact jcmp_lo | exact jcmp_hi | exact (jor_r _ _).1 | exact (jor_r _ _).2 | exact (jand_r _ _).1 | exact (jand_r _ _).2) only [x196_0, x196_1, x196_2, x196_5, x196_6, x196_9, kb_some, kb_none, clr_vi, clr_ref, clr_null, clr_none, va_rf_some, va_rf_none, ↓bi_ite_t, ↓bi_ite_f, ↓jc_lt_t, ↓jc_lt_f, ↓jc_gt_t, ↓jc_gt_f, ↓jc_le_t, ↓jc_le_f, ↓jc_ge_t, ↓jc_ge_f, ↓jc_eq_t, ↓jc_eq_f, ↓if_pos, ↓if_neg, c1]
theorem op_fault (h : INV J K R) (hx : -2147483648 ≤ x ∧ x ≤ 2147483647) (hy : -2147483648 ≤ y ∧ y ≤ 2147483647) : OP L d 106 195 [some (vi x), some (vi y)] [some (vi x), some (vi y)] J K R := by
  have hR := h.1
  have s2 : (SH L)[2]? = some (10, 10) := rfl; have r2_0 : R 2 0 = some 3 := rr_lk hR rfl; have r2_1 : R 2 1 = some 15 := rr_lk hR rfl; have r2_3 : R 2 3 = some 27 := rr_lk hR rfl; have r2_4 : R 2 4 = some 29 := rr_lk hR rfl; have r2_5 : R 2 5 = some 31 := rr_lk hR rfl; have r2_6 : R 2 6 = some 46 := rr_lk hR rfl; have r2_7 : R 2 7 = some 57 := rr_lk hR rfl; have r2_8 : R 2 8 = some 60 := rr_lk hR rfl; have r2_9 : R 2 9 = some 63 := rr_lk hR rfl; have s3 : (SH L)[3]? = some (6, 4) := rfl; have r3_0 : R 3 0 = some 4 := rr_lk hR rfl; have r3_1 : R 3 1 = some 6 := rr_lk hR rfl; have r3_2 : R 3 2 = some 9 := rr_lk hR rfl; have r3_3 : R 3 3 = some 12 := rr_lk hR rfl; have s4 : (SH L)[4]? = some (0, 2) := rfl; have r4_0 : R 4 0 = some 5 := rr_lk hR rfl; have s31 : (SH L)[31]? = some (2, 5) := rfl; have r31_0 : R 31 0 = some 32 := rr_lk hR rfl; have r31_1 : R 31 1 = some 36 := rr_lk hR rfl; have s76 : (SH L)[76]? = some (11, 58) := rfl; have r76_0 : R 76 0 = some 77 := rr_lk hR rfl; have r76_3 : R 76 3 = some 78 := rr_lk hR rfl; have r76_4 : R 76 4 = some 79 := rr_lk hR rfl; have r76_6 : R 76 6 = some 80 := rr_lk hR rfl; have r76_7 : R 76 7 = some 81 := rr_lk hR rfl; have r76_9 : R 76 9 = some 82 := rr_lk hR rfl; have r76_10 : R 76 10 = some 83 := rr_lk hR rfl; have r76_12 : R 76 12 = some 84 := rr_lk hR rfl; have r76_13 : R 76 13 = some 85 := rr_lk hR rfl; have r76_19 : R 76 19 = some 86 := rr_lk hR rfl; have r76_20 : R 76 20 = some 87 := rr_lk hR rfl; have r76_21 : R 76 21 = some 88 := rr_lk hR rfl; have r76_22 : R 76 22 = some 89 := rr_lk hR rfl; have r76_24 : R 76 24 = some 90 := rr_lk hR rfl; have r76_25 : R 76 25 = some 91 := rr_lk hR rfl; have r76_26 : R 76 26 = some 92 := rr_lk hR rfl; have r76_28 : R 76 28 = some 93 := rr_lk hR rfl; have r76_29 : R 76 29 = some 94 := rr_lk hR rfl; have r76_30 : R 76 30 = some 95 := rr_lk hR rfl; have r76_31 : R 76 31 = some 96 := rr_lk hR rfl; have r76_32 : R 76 32 = some 97 := rr_lk hR rfl; have r76_36 : R 76 36 = some 98 := rr_lk hR rfl; have r76_38 : R 76 38 = some 99 := rr_lk hR rfl; have r76_39 : R 76 39 = some 100 := rr_lk hR rfl; have r76_40 : R 76 40 = some 101 := rr_lk hR rfl; have r76_41 : R 76 41 = some 102 := rr_lk hR rfl; have r76_42 : R 76 42 = some 103 := rr_lk hR rfl; have r76_47 : R 76 47 = some 104 := rr_lk hR rfl; have r76_53 : R 76 53 = some 105 := rr_lk hR rfl; have r76_54 : R 76 54 = some 106 := rr_lk hR rfl; have r76_55 : R 76 55 = some 107 := rr_lk hR rfl; have r76_56 : R 76 56 = some 108 := rr_lk hR rfl; have r76_57 : R 76 57 = some 109 := rr_lk hR rfl
  by_cases c0 : x < 0
  · refine ⟨vi (-1), J, K, R, mm_up J 76 11 0, K, R, ?_, ?_, INV_11 h⟩
    · simp (disch := first | assumption | omega | exact bi_lo | exact bi_hi | exact bi_01 | exact jcmp_lo | exact jcmp_hi | exact (jor_r _ _).1 | exact (jor_r _ _).2 | exact (jand_r _ _).1 | exact (jand_r _ _).2) only [x106_0, x106_1, x106_4, x106_5, x106_8, x106_9, x106_10, x106_13, x106_14, kb_some, kb_none, clr_vi, clr_ref, clr_null, clr_none, va_rf_some, va_rf_none, ↓bi_ite_t, ↓bi_ite_f, ↓jc_lt_t, ↓jc_lt_f, ↓jc_gt_t, ↓jc_gt_f, ↓jc_le_t, ↓jc_le_f, ↓jc_ge_t, ↓jc_ge_f, ↓jc_eq_t, ↓jc_eq_f, ↓if_pos, ↓if_neg]
    · simp (disch := first | assumption | omega | exact bi_lo | exact bi_hi | exact bi_01 | exact jcmp_lo | exact jcmp_hi | exact (jor_r _ _).1 | exact (jor_r _ _).2 | exact (jand_r _ _).1 | exact (jand_r _ _).2) only [x195_0, x195_1, x195_2, x195_5, x195_6, x195_9, x195_10, x195_11, x195_12, x195_15, x195_18, x195_21, x195_22, kb_some, kb_none, clr_vi, clr_ref, clr_null, clr_none, va_rf_some, va_rf_none, ↓bi_ite_t, ↓bi_ite_f, ↓jc_lt_t, ↓jc_lt_f, ↓jc_gt_t, ↓jc_gt_f, ↓jc_le_t, ↓jc_le_f, ↓jc_ge_t, ↓jc_ge_f, ↓jc_eq_t, ↓jc_eq_f, ↓if_pos, ↓if_neg]
  by_cases c1 : 0 ≤ y ∧ y ≤ 2
  rotate_left
  · have hin : ∀ d, EE d 139 0 [some (vl y), none, some (vl 0), none, some (vl 2), none] [] (SH L) (mm_up J 76 11 0) K R = ok (some (vi 0)) (SH L) (mm_up J 76 11 0) K R := fun d => by
      have := m_in (d := d) (S := SH L) (J := mm_up J 76 11 0) (K := K) (R := R) (x := y) (y := 0) (z := 2) (by omega) (by omega) (by omega)
      rw [bi_f c1] at this; exact this
    refine ⟨vi (-1), J, K, R, mm_up J 76 11 0, K, R, ?_, ?_, INV_11 h⟩
    · by_cases c5 : y < 0
      · simp (disch := first | assumption | omega | exact bi_lo | exact bi_hi | exact bi_01 | exact jcmp_lo | exact jcmp_hi | exact (jor_r _ _).1 | exact (jor_r _ _).2 | exact (jand_r _ _).1 | exact (jand_r _ _).2) only [x106_0, x106_1, x106_4, x106_5, x106_8, x106_9, x106_10, x106_13, x106_14, kb_some, kb_none, clr_vi, clr_ref, clr_null, clr_none, va_rf_some, va_rf_none, ↓bi_ite_t, ↓bi_ite_f, ↓jc_lt_t, ↓jc_lt_f, ↓jc_gt_t, ↓jc_gt_f, ↓jc_le_t, ↓jc_le_f, ↓jc_ge_t, ↓jc_ge_f, ↓jc_eq_t, ↓jc_eq_f, ↓if_pos, ↓if_neg]
      · simp (disch := first | assumption | omega | exact bi_lo | exact bi_hi | exact bi_01 | exact jcmp_lo | exact jcmp_hi | exact (jor_r _ _).1 | exact (jor_r _ _).2 | exact (jand_r _ _).1 | exact (jand_r _ _).2) only [x106_0, x106_1, x106_4, x106_5, x106_8, x106_9, x106_10, x106_13, x106_14, kb_some, kb_none, clr_vi, clr_ref, clr_null, clr_none, va_rf_some, va_rf_none, ↓bi_ite_t, ↓bi_ite_f, ↓jc_lt_t, ↓jc_lt_f, ↓jc_gt_t, ↓jc_gt_f, ↓jc_le_t, ↓jc_le_f, ↓jc_ge_t, ↓jc_ge_f, ↓jc_eq_t, ↓jc_eq_f, ↓if_pos, ↓if_neg]
    · simp (disch := first | assumption | omega | exact bi_lo | exact bi_hi | exact bi_01 | exact jcmp_lo | exact jcmp_hi | exact (jor_r _ _).1 | exact (jor_r _ _).2 | exact (jand_r _ _).1 | exact (jand_r _ _).2) only [x195_0, x195_1, x195_2, x195_5, x195_6, x195_9, x195_10, x195_11, x195_12, x195_15, x195_18, x195_21, x195_22, kb_some, kb_none, clr_vi, clr_ref, clr_null, clr_none, va_rf_some, va_rf_none, ↓bi_ite_t, ↓bi_ite_f, ↓jc_lt_t, ↓jc_lt_f, ↓jc_gt_t, ↓jc_gt_f, ↓jc_le_t, ↓jc_le_f, ↓jc_ge_t, ↓jc_ge_f, ↓jc_eq_t, ↓jc_eq_f, ↓if_pos, ↓if_neg, hin]
  obtain ⟨J1, R1, J2, b3, b4, b5, c2, hI, hm⟩ := rd_both (L := L) (d + 8) (d + 14) h
  have hR := b3
  have s2 : (SH L)[2]? = some (10, 10) := rfl; have r2_0 : R1 2 0 = some 3 := rr_lk hR rfl; have r2_1 : R1 2 1 = some 15 := rr_lk hR rfl; have r2_3 : R1 2 3 = some 27 := rr_lk hR rfl; have r2_4 : R1 2 4 = some 29 := rr_lk hR rfl; have r2_5 : R1 2 5 = some 31 := rr_lk hR rfl; have r2_6 : R1 2 6 = some 46 := rr_lk hR rfl; have r2_7 : R1 2 7 = some 57 := rr_lk hR rfl; have r2_8 : R1 2 8 = some 60 := rr_lk hR rfl; have r2_9 : R1 2 9 = some 63 := rr_lk hR rfl; have s31 : (SH L)[31]? = some (2, 5) := rfl; have r31_0 : R1 31 0 = some 32 := rr_lk hR rfl; have r31_1 : R1 31 1 = some 36 := rr_lk hR rfl; have s32 : (SH L)[32]? = some (1, 4) := rfl; have r32_0 : R1 32 0 = some 33 := rr_lk hR rfl; have r32_1 : R1 32 1 = some 34 := rr_lk hR rfl; have r32_2 : R1 32 2 = some 35 := rr_lk hR rfl; have s36 : (SH L)[36]? = some (9, 7) := rfl; have r36_0 : R1 36 0 = some 37 := rr_lk hR rfl; have r36_1 : R1 36 1 = some 38 := rr_lk hR rfl; have r36_2 : R1 36 2 = some 39 := rr_lk hR rfl; have r36_3 : R1 36 3 = some 40 := rr_lk hR rfl; have r36_4 : R1 36 4 = some 41 := rr_lk hR rfl; have r36_5 : R1 36 5 = some 42 := rr_lk hR rfl; have s76 : (SH L)[76]? = some (11, 58) := rfl; have r76_0 : R1 76 0 = some 77 := rr_lk hR rfl; have r76_3 : R1 76 3 = some 78 := rr_lk hR rfl; have r76_4 : R1 76 4 = some 79 := rr_lk hR rfl; have r76_6 : R1 76 6 = some 80 := rr_lk hR rfl; have r76_7 : R1 76 7 = some 81 := rr_lk hR rfl; have r76_9 : R1 76 9 = some 82 := rr_lk hR rfl; have r76_10 : R1 76 10 = some 83 := rr_lk hR rfl; have r76_12 : R1 76 12 = some 84 := rr_lk hR rfl; have r76_13 : R1 76 13 = some 85 := rr_lk hR rfl; have r76_19 : R1 76 19 = some 86 := rr_lk hR rfl; have r76_20 : R1 76 20 = some 87 := rr_lk hR rfl; have r76_21 : R1 76 21 = some 88 := rr_lk hR rfl; have r76_22 : R1 76 22 = some 89 := rr_lk hR rfl; have r76_24 : R1 76 24 = some 90 := rr_lk hR rfl; have r76_25 : R1 76 25 = some 91 := rr_lk hR rfl; have r76_26 : R1 76 26 = some 92 := rr_lk hR rfl; have r76_28 : R1 76 28 = some 93 := rr_lk hR rfl; have r76_29 : R1 76 29 = some 94 := rr_lk hR rfl; have r76_30 : R1 76 30 = some 95 := rr_lk hR rfl; have r76_31 : R1 76 31 = some 96 := rr_lk hR rfl; have r76_32 : R1 76 32 = some 97 := rr_lk hR rfl; have r76_36 : R1 76 36 = some 98 := rr_lk hR rfl; have r76_38 : R1 76 38 = some 99 := rr_lk hR rfl; have r76_39 : R1 76 39 = some 100 := rr_lk hR rfl; have r76_40 : R1 76 40 = some 101 := rr_lk hR rfl; have r76_41 : R1 76 41 = some 102 := rr_lk hR rfl; have r76_42 : R1 76 42 = some 103 := rr_lk hR rfl; have r76_47 : R1 76 47 = some 104 := rr_lk hR rfl; have r76_53 : R1 76 53 = some 105 := rr_lk hR rfl; have r76_54 : R1 76 54 = some 106 := rr_lk hR rfl; have r76_55 : R1 76 55 = some 107 := rr_lk hR rfl; have r76_56 : R1 76 56 = some 108 := rr_lk hR rfl; have r76_57 : R1 76 57 = some 109 := rr_lk hR rfl; have s90 : (SH L)[90]? = some (20, 8) := rfl; have s91 : (SH L)[91]? = some (20, 8) := rfl; have s92 : (SH L)[92]? = some (20, 8) := rfl
  have hin : ∀ d, EE d 139 0 [some (vl y), none, some (vl 0), none, some (vl 2), none] [] (SH L) (mm_up J1 76 11 0) K R1 = ok (some (vi 1)) (SH L) (mm_up J1 76 11 0) K R1 := fun d => by
    have := m_in (d := d) (S := SH L) (J := mm_up J1 76 11 0) (K := K) (R := R1) (x := y) (y := 0) (z := 2) (by omega) (by omega) (by omega)
    rw [bi_t c1] at this; exact this
  cases hw : wh (mA J) (J 76 1) with
  | error q =>
    rw [hw] at hm
    obtain ⟨p1, p2, p3, p4, p5⟩ := hm
    have ht := fun d => f_told (d := d) (J := J1) (K := K) (k := x) (w := y) (isF_32 (L := L) b3) (by rw [p2.1]; omega) (by omega) c1
    have e4 : J2 76 23 = (q.length : Nat) := p4.1
    rw [p2.1] at ht
    by_cases c3 : (q.length : Int) ≤ x
    · simp only [if_pos c3] at ht
      refine ⟨vi (-5), J1, K, R1, J2, K, R1, ?_, ?_, hI⟩
      · simp (disch := first | assumption | omega | exact bi_lo | exact bi_hi | exact bi_01 | exact jcmp_lo | exact jcmp_hi | exact (jor_r _ _).1 | exact (jor_r _ _).2 | exact (jand_r _ _).1 | exact (jand_r _ _).2) only [x106_0, x106_1, x106_4, x106_5, x106_8, x106_9, x106_10, x106_13, x106_14, x106_15, x106_16, x106_19, x106_20, x106_23, x106_26, x106_29, x106_32, x106_34, x106_37, x106_38, x106_41, x106_44, x106_45, x106_46, x106_49, x15_0, x15_1, x15_4, x15_4n, kb_some, kb_none, clr_vi, clr_ref, clr_null, clr_none, va_rf_some, va_rf_none, ↓bi_ite_t, ↓bi_ite_f, ↓jc_lt_t, ↓jc_lt_f, ↓jc_gt_t, ↓jc_gt_f, ↓jc_le_t, ↓jc_le_f, ↓jc_ge_t, ↓jc_ge_f, ↓jc_eq_t, ↓jc_eq_f, ↓if_pos, ↓if_neg, p1, ht]
      · simp (disch := first | assumption | omega | exact bi_lo | exact bi_hi | exact bi_01 | exact jcmp_lo | exact jcmp_hi | exact (jor_r _ _).1 | exact (jor_r _ _).2 | exact (jand_r _ _).1 | exact (jand_r _ _).2) only [x195_0, x195_1, x195_2, x195_5, x195_6, x195_9, x195_10, x195_11, x195_12, x195_15, x195_18, x195_21, x195_22, x195_23, x195_24, x195_27, x195_30, x195_31, x195_32, x195_35, x195_38, x195_40, x195_41, x195_42, x195_45, x195_46, x195_49, x195_50, x195_51, x195_54, x195_55, x195_56, x195_59, x195_60, x195_63, x195_64, x195_65, x195_68, x195_69, x195_72, x195_73, x195_74, kb_some, kb_none, clr_vi, clr_ref, clr_null, clr_none, va_rf_some, va_rf_none, ↓bi_ite_t, ↓bi_ite_f, ↓jc_lt_t, ↓jc_lt_f, ↓jc_gt_t, ↓jc_gt_f, ↓jc_le_t, ↓jc_le_f, ↓jc_ge_t, ↓jc_ge_f, ↓jc_eq_t, ↓jc_eq_f, ↓if_pos, ↓if_neg, hin, p3, e4]
    · simp only [if_neg c3] at ht
      obtain ⟨k1, k2, k3⟩ := hF_at q 0 (q.length - 1 - x.toNat) (by omega) p2.2
      obtain ⟨n1, n2, n3⟩ := hF_at q.reverse 0 x.toNat (by rw [List.length_reverse]; omega) p4.2
      have e3 : q.reverse[x.toNat]'(by rw [List.length_reverse]; omega) = q[q.length - 1 - x.toNat]'(by omega) := by
        rw [List.getElem_reverse]
      rw [e3] at n1 n2 n3
      rw [Nat.zero_add] at k1 k2 k3 n1 n2 n3
      have e5 : ((q.length : Int) - 1 - x).toNat = q.length - 1 - x.toNat := by omega
      rw [e5] at ht
      rw [k1, k2, k3, ← n1, ← n2, ← n3] at ht
      refine ⟨_, J1, K, R1, J2, K, R1, (?_ : _ = ok (some (vi (if y = 0 then J2 90 x.toNat else if y = 1 then J2 91 x.toNat else J2 92 x.toNat))) _ _ _ _), ?_, hI⟩
      · simp (disch := first | assumption | omega | exact bi_lo | exact bi_hi | exact bi_01 | exact jcmp_lo | exact jcmp_hi | exact (jor_r _ _).1 | exact (jor_r _ _).2 | exact (jand_r _ _).1 | exact (jand_r _ _).2) only [x106_0, x106_1, x106_4, x106_5, x106_8, x106_9, x106_10, x106_13, x106_14, x106_15, x106_16, x106_19, x106_20, x106_23, x106_26, x106_29, x106_32, x106_34, x106_37, x106_38, x106_41, x106_44, x106_45, x106_46, x106_49, x15_0, x15_1, x15_4, x15_4n, kb_some, kb_none, clr_vi, clr_ref, clr_null, clr_none, va_rf_some, va_rf_none, ↓bi_ite_t, ↓bi_ite_f, ↓jc_lt_t, ↓jc_lt_f, ↓jc_gt_t, ↓jc_gt_f, ↓jc_le_t, ↓jc_le_f, ↓jc_ge_t, ↓jc_ge_f, ↓jc_eq_t, ↓jc_eq_f, ↓if_pos, ↓if_neg, p1, ht]
      · by_cases y0 : y = 0
        · rw [if_pos y0]
          simp (disch := first | assumption | omega | exact bi_lo | exact bi_hi | exact bi_01 | exact jcmp_lo | exact jcmp_hi | exact (jor_r _ _).1 | exact (jor_r _ _).2 | exact (jand_r _ _).1 | exact (jand_r _ _).2) only [x195_0, x195_1, x195_2, x195_5, x195_6, x195_9, x195_10, x195_11, x195_12, x195_15, x195_18, x195_21, x195_22, x195_23, x195_24, x195_27, x195_30, x195_31, x195_32, x195_35, x195_38, x195_40, x195_41, x195_42, x195_45, x195_46, x195_49, x195_50, x195_51, x195_54, x195_55, x195_56, x195_59, x195_60, x195_63, x195_64, x195_65, x195_68, x195_69, x195_72, x195_73, x195_74, kb_some, kb_none, clr_vi, clr_ref, clr_null, clr_none, va_rf_some, va_rf_none, ↓bi_ite_t, ↓bi_ite_f, ↓jc_lt_t, ↓jc_lt_f, ↓jc_gt_t, ↓jc_gt_f, ↓jc_le_t, ↓jc_le_f, ↓jc_ge_t, ↓jc_ge_f, ↓jc_eq_t, ↓jc_eq_f, ↓if_pos, ↓if_neg, hin, p3, e4]
        · rw [if_neg y0]
          by_cases y1 : y = 1
          · rw [if_pos y1]
            simp (disch := first | assumption | omega | exact bi_lo | exact bi_hi | exact bi_01 | exact jcmp_lo | exact jcmp_hi | exact (jor_r _ _).1 | exact (jor_r _ _).2 | exact (jand_r _ _).1 | exact (jand_r _ _).2) only [x195_0, x195_1, x195_2, x195_5, x195_6, x195_9, x195_10, x195_11, x195_12, x195_15, x195_18, x195_21, x195_22, x195_23, x195_24, x195_27, x195_30, x195_31, x195_32, x195_35, x195_38, x195_40, x195_41, x195_42, x195_45, x195_46, x195_49, x195_50, x195_51, x195_54, x195_55, x195_56, x195_59, x195_60, x195_63, x195_64, x195_65, x195_68, x195_69, x195_72, x195_73, x195_74, kb_some, kb_none, clr_vi, clr_ref, clr_null, clr_none, va_rf_some, va_rf_none, ↓bi_ite_t, ↓bi_ite_f, ↓jc_lt_t, ↓jc_lt_f, ↓jc_gt_t, ↓jc_gt_f, ↓jc_le_t, ↓jc_le_f, ↓jc_ge_t, ↓jc_ge_f, ↓jc_eq_t, ↓jc_eq_f, ↓if_pos, ↓if_neg, hin, p3, e4]
          · rw [if_neg y1]
            simp (disch := first | assumption | omega | exact bi_lo | exact bi_hi | exact bi_01 | exact jcmp_lo | exact jcmp_hi | exact (jor_r _ _).1 | exact (jor_r _ _).2 | exact (jand_r _ _).1 | exact (jand_r _ _).2) only [x195_0, x195_1, x195_2, x195_5, x195_6, x195_9, x195_10, x195_11, x195_12, x195_15, x195_18, x195_21, x195_22, x195_23, x195_24, x195_27, x195_30, x195_31, x195_32, x195_35, x195_38, x195_40, x195_41, x195_42, x195_45, x195_46, x195_49, x195_50, x195_51, x195_54, x195_55, x195_56, x195_59, x195_60, x195_63, x195_64, x195_65, x195_68, x195_69, x195_72, x195_73, x195_74, kb_some, kb_none, clr_vi, clr_ref, clr_null, clr_none, va_rf_some, va_rf_none, ↓bi_ite_t, ↓bi_ite_f, ↓jc_lt_t, ↓jc_lt_f, ↓jc_gt_t, ↓jc_gt_f, ↓jc_le_t, ↓jc_le_f, ↓jc_ge_t, ↓jc_ge_f, ↓jc_eq_t, ↓jc_eq_f, ↓if_pos, ↓if_neg, hin, p3, e4]
  | ok F =>
    rw [hw] at hm
    obtain ⟨p1, p2, p3, p4, p5, p6⟩ := hm
    refine ⟨vi (-5), J1, K, R1, J2, K, R1, ?_, ?_, hI⟩
    · simp (disch := first | assumption | omega | exact bi_lo | exact bi_hi | exact bi_01 | exact jcmp_lo | exact jcmp_hi | exact (jor_r _ _).1 | exact (jor_r _ _).2 | exact (jand_r _ _).1 | exact (jand_r _ _).2) only [x106_0, x106_1, x106_4, x106_5, x106_8, x106_9, x106_10, x106_13, x106_14, x106_15, x106_16, x106_19, x106_20, x106_23, x106_26, x106_29, x106_32, x106_34, x106_37, x106_38, x106_41, x106_44, x106_45, x106_46, x106_49, kb_some, kb_none, clr_vi, clr_ref, clr_null, clr_none, va_rf_some, va_rf_none, ↓bi_ite_t, ↓bi_ite_f, ↓jc_lt_t, ↓jc_lt_f, ↓jc_gt_t, ↓jc_gt_f, ↓jc_le_t, ↓jc_le_f, ↓jc_ge_t, ↓jc_ge_f, ↓jc_eq_t, ↓jc_eq_f, ↓if_pos, ↓if_neg, p1]
    · simp (disch := first | assumption | omega | exact bi_lo | exact bi_hi | exact bi_01 | exact jcmp_lo | exact jcmp_hi | exact (jor_r _ _).1 | exact (jor_r _ _).2 | exact (jand_r _ _).1 | exact (jand_r _ _).2) only [x195_0, x195_1, x195_2, x195_5, x195_6, x195_9, x195_10, x195_11, x195_12, x195_15, x195_18, x195_21, x195_22, x195_23, x195_24, x195_27, x195_30, x195_31, x195_32, x195_35, x195_38, x195_40, x195_41, x195_42, x195_45, x195_46, x195_49, x195_50, x195_51, x195_54, x195_55, x195_56, x195_59, x195_60, x195_63, x195_64, x195_65, x195_68, x195_69, x195_72, x195_73, x195_74, kb_some, kb_none, clr_vi, clr_ref, clr_null, clr_none, va_rf_some, va_rf_none, ↓bi_ite_t, ↓bi_ite_f, ↓jc_lt_t, ↓jc_lt_f, ↓jc_gt_t, ↓jc_gt_f, ↓jc_le_t, ↓jc_le_f, ↓jc_ge_t, ↓jc_ge_f, ↓jc_eq_t, ↓jc_eq_f, ↓if_pos, ↓if_neg, hin, p3]
end
