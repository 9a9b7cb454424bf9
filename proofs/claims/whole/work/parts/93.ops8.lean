/-! the calls, one by one: looked -/
section
variable {L d : Nat} {J J' J1 J2 K K' : mJ} {R R1 R' : mm_R} {x y z : Int} {f : Int → Int}
theorem firstO_n {g : Int → Int} {p q : Nat → Int} : ∀ (i k : Nat), firstO g p q i k = -1 ∨ 0 ≤ firstO g p q i k := by
  intro i
  induction i with
  | zero => intro k; left; rfl
  | succ i ih =>
    intro k
    unfold firstO
    split
    · exact ih (k + 1)
    · right; omega
theorem l_looked (hR : wfR R) (h1 : 0 ≤ J 76 1 ∧ J 76 1 ≤ 120) (h8 : 0 ≤ J 76 8 ∧ J 76 8 ≤ 8) (h77 : ∀ i, i < 120 → 0 ≤ J 77 i ∧ J 77 i ≤ 255) (hw : ∀ i : Nat, (i : Int) < J 76 8 → (0 ≤ J 82 i ∧ J 82 i ≤ 119) ∧ 0 ≤ J 83 i ∧ J 83 i ≤ 255) : ∀ (i k : Nat), (J 76 8).toNat - k = i → k ≤ 8 →
    EE (d + 2) 227 7 [some (.ref 76), some (vi k)] [] (SH L) J K R = ok (some (vi (if firstO (mA J) (J 82) (J 83) i k < 0 then -5 else firstO (mA J) (J 82) (J 83) i k))) (SH L) J K R := by
  have s76 : (SH L)[76]? = some (11, 58) := rfl; have r76_0 : R 76 0 = some 77 := rr_lk hR rfl; have r76_3 : R 76 3 = some 78 := rr_lk hR rfl; have r76_4 : R 76 4 = some 79 := rr_lk hR rfl; have r76_6 : R 76 6 = some 80 := rr_lk hR rfl; have r76_7 : R 76 7 = some 81 := rr_lk hR rfl; have r76_9 : R 76 9 = some 82 := rr_lk hR rfl; have r76_10 : R 76 10 = some 83 := rr_lk hR rfl; have r76_12 : R 76 12 = some 84 := rr_lk hR rfl; have r76_13 : R 76 13 = some 85 := rr_lk hR rfl; have r76_19 : R 76 19 = some 86 := rr_lk hR rfl; have r76_20 : R 76 20 = some 87 := rr_lk hR rfl; have r76_21 : R 76 21 = some 88 := rr_lk hR rfl; have r76_22 : R 76 22 = some 89 := rr_lk hR rfl; have r76_24 : R 76 24 = some 90 := rr_lk hR rfl; have r76_25 : R 76 25 = some 91 := rr_lk hR rfl; have r76_26 : R 76 26 = some 92 := rr_lk hR rfl; have r76_28 : R 76 28 = some 93 := rr_lk hR rfl; have r76_29 : R 76 29 = some 94 := rr_lk hR rfl; have r76_30 : R 76 30 = some 95 := rr_lk hR rfl; have r76_31 : R 76 31 = some 96 := rr_lk hR rfl; have r76_32 : R 76 32 = some 97 := rr_lk hR rfl; have r76_36 : R 76 36 = some 98 := rr_lk hR rfl; have r76_38 : R 76 38 = some 99 := rr_lk hR rfl; have r76_39 : R 76 39 = some 100 := rr_lk hR rfl; have r76_40 : R 76 40 = some 101 := rr_lk hR rfl; have r76_41 : R 76 41 = some 102 := rr_lk hR rfl; have r76_42 : R 76 42 = some 103 := rr_lk hR rfl; have r76_47 : R 76 47 = some 104 := rr_lk hR rfl; have r76_53 : R 76 53 = some 105 := rr_lk hR rfl; have r76_54 : R 76 54 = some 106 := rr_lk hR rfl; have r76_55 : R 76 55 = some 107 := rr_lk hR rfl; have r76_56 : R 76 56 = some 108 := rr_lk hR rfl; have r76_57 : R 76 57 = some 109 := rr_lk hR rfl; have s77 : (SH L)[77]? = some (20, 120) := rfl; have s82 : (SH L)[82]? = some (20, 8) := rfl; have s83 : (SH L)[83]? = some (20, 8) := rfl
  intro i
  induction i with
  | zero =>
    intro k hi hk
    have e : firstO (mA J) (J 82) (J 83) 0 k = -1 := rfl
    rw [e, if_pos (by omega)]
    simp (disch := first | assumption | omega | exact bi_lo | exact bi_hi | exact bi_01 | exact jcmp_lo | exact jcmp_hi | exact (jor_r _ _).1 | exact (jor_r _ _).2 | exact (jand_r _ _).1 | exact (jand_r _ _).2) only [x227_7, x227_8, x227_9, x227_12, x227_56, x227_58, kb_some, kb_none, clr_vi, clr_ref, clr_null, clr_none, va_rf_some, va_rf_none, ↓bi_ite_t, ↓bi_ite_f, ↓jc_lt_t, ↓jc_lt_f, ↓jc_gt_t, ↓jc_gt_f, ↓jc_le_t, ↓jc_le_f, ↓jc_ge_t, ↓jc_ge_f, ↓jc_eq_t, ↓jc_eq_f, ↓if_pos, ↓if_neg]
  | succ i ih =>
    intro k hi hk
    have hk2 := hw k (by omega)
    have hip := m_isPlace (L := L) (d := d) (J := J) (K := K) (x := J 82 k) hR h1 (by omega)
    have ih' := ih (k + 1) (by omega) (by omega)
    rw [Int.natCast_succ] at ih'
    have e : firstO (mA J) (J 82) (J 83) (i + 1) k = if mA J (J 82 k) = J 83 k then firstO (mA J) (J 82) (J 83) i (k + 1) else (k : Int) := rfl
    rw [e]
    by_cases c : 0 ≤ J 82 k ∧ J 82 k < J 76 1
    · rw [bi_t c] at hip
      have em : mA J (J 82 k) = J 77 (J 82 k).toNat := if_pos c
      have hb := h77 (J 82 k).toNat (by omega)
      rw [em]
      by_cases c2 : J 77 (J 82 k).toNat = J 83 k
      · rw [if_pos c2]
        have go : ∀ X, EE (d + 2) 227 7 [some (.ref 76), some (vi ((k : Int) + 1))] [] (SH L) J K R = X → EE (d + 2) 227 7 [some (.ref 76), some (vi k)] [] (SH L) J K R = X := by
          intro X hX
          simp (disch := first | assumption | omega | exact bi_lo | exact bi_hi | exact bi_01 | exact jcmp_lo | exact jcmp_hi | exact (jor_r _ _).1 | exact (jor_r _ _).2 | exact (jand_r _ _).1 | exact (jand_r _ _).2) only [x227_7, x227_8, x227_9, x227_12, kb_some, kb_none, clr_vi, clr_ref, clr_null, clr_none, va_rf_some, va_rf_none, ↓bi_ite_t, ↓bi_ite_f, ↓jc_lt_t, ↓jc_lt_f, ↓jc_gt_t, ↓jc_gt_f, ↓jc_le_t, ↓jc_le_f, ↓jc_ge_t, ↓jc_ge_f, ↓jc_eq_t, ↓jc_eq_f, ↓if_pos, ↓if_neg]
          simp (disch := first | assumption | omega | exact bi_lo | exact bi_hi | exact bi_01 | exact jcmp_lo | exact jcmp_hi | exact (jor_r _ _).1 | exact (jor_r _ _).2 | exact (jand_r _ _).1 | exact (jand_r _ _).2) only [x227_15, x227_16, x227_17, x227_20, x227_21, x227_22, x227_25, x227_28, x227_29, x227_32, x227_33, x227_36, x227_37, x227_38, x227_39, x227_40, x227_43, x227_44, x227_45, x227_48, x227_49, x227_50, x227_53, kb_some, kb_none, clr_vi, clr_ref, clr_null, clr_none, va_rf_some, va_rf_none, ↓bi_ite_t, ↓bi_ite_f, ↓jc_lt_t, ↓jc_lt_f, ↓jc_gt_t, ↓jc_gt_f, ↓jc_le_t, ↓jc_le_f, ↓jc_ge_t, ↓jc_ge_f, ↓jc_eq_t, ↓jc_eq_f, ↓if_pos, ↓if_neg, hip, Int.toNat_natCast, c2]
          exact hX
        exact go _ ih'
      · rw [if_neg c2, if_neg (show ¬ (k : Int) < 0 by omega)]
        simp (disch := first | assumption | omega | exact bi_lo | exact bi_hi | exact bi_01 | exact jcmp_lo | exact jcmp_hi | exact (jor_r _ _).1 | exact (jor_r _ _).2 | exact (jand_r _ _).1 | exact (jand_r _ _).2) only [x227_7, x227_8, x227_9, x227_12, kb_some, kb_none, clr_vi, clr_ref, clr_null, clr_none, va_rf_some, va_rf_none, ↓bi_ite_t, ↓bi_ite_f, ↓jc_lt_t, ↓jc_lt_f, ↓jc_gt_t, ↓jc_gt_f, ↓jc_le_t, ↓jc_le_f, ↓jc_ge_t, ↓jc_ge_f, ↓jc_eq_t, ↓jc_eq_f, ↓if_pos, ↓if_neg]
        simp (disch := first | assumption | omega | exact bi_lo | exact bi_hi | exact bi_01 | exact jcmp_lo | exact jcmp_hi | exact (jor_r _ _).1 | exact (jor_r _ _).2 | exact (jand_r _ _).1 | exact (jand_r _ _).2) only [x227_15, x227_16, x227_17, x227_20, x227_21, x227_22, x227_25, x227_28, x227_29, x227_32, x227_33, x227_36, x227_37, x227_38, x227_39, x227_40, x227_43, x227_44, x227_45, x227_48, x227_49, kb_some, kb_none, clr_vi, clr_ref, clr_null, clr_none, va_rf_some, va_rf_none, ↓bi_ite_t, ↓bi_ite_f, ↓jc_lt_t, ↓jc_lt_f, ↓jc_gt_t, ↓jc_gt_f, ↓jc_le_t, ↓jc_le_f, ↓jc_ge_t, ↓jc_ge_f, ↓jc_eq_t, ↓jc_eq_f, ↓if_pos, ↓if_neg, hip, Int.toNat_natCast]
    · rw [bi_f c] at hip
      have em : mA J (J 82 k) = -1 := if_neg c
      rw [em, if_neg (show ¬ (-1 : Int) = J 83 k by omega), if_neg (show ¬ (k : Int) < 0 by omega)]
      simp (disch := first | assumption | omega | exact bi_lo | exact bi_hi | exact bi_01 | exact jcmp_lo | exact jcmp_hi | exact (jor_r _ _).1 | exact (jor_r _ _).2 | exact (jand_r _ _).1 | exact (jand_r _ _).2) only [x227_7, x227_8, x227_9, x227_12, kb_some, kb_none, clr_vi, clr_ref, clr_null, clr_none, va_rf_some, va_rf_none, ↓bi_ite_t, ↓bi_ite_f, ↓jc_lt_t, ↓jc_lt_f, ↓jc_gt_t, ↓jc_gt_f, ↓jc_le_t, ↓jc_le_f, ↓jc_ge_t, ↓jc_ge_f, ↓jc_eq_t, ↓jc_eq_f, ↓if_pos, ↓if_neg]
      simp (disch := first | assumption | omega | exact bi_lo | exact bi_hi | exact bi_01 | exact jcmp_lo | exact jcmp_hi | exact (jor_r _ _).1 | exact (jor_r _ _).2 | exact (jand_r _ _).1 | exact (jand_r _ _).2) only [x227_15, x227_16, x227_17, x227_20, x227_21, x227_22, x227_25, x227_28, x227_29, x227_32, x227_33, x227_36, x227_37, x227_38, x227_39, x227_40, x227_43, x227_44, x227_45, x227_48, x227_49, kb_some, kb_none, clr_vi, clr_ref, clr_null, clr_none, va_rf_some, va_rf_none, ↓bi_ite_t, ↓bi_ite_f, ↓jc_lt_t, ↓jc_lt_f, ↓jc_gt_t, ↓jc_gt_f, ↓jc_le_t, ↓jc_le_f, ↓jc_ge_t, ↓jc_ge_f, ↓jc_eq_t, ↓jc_eq_f, ↓if_pos, ↓if_neg, hip, Int.toNat_natCast]
theorem op_looked (h : INV J K R) : OP L d 120 227 [none] [none] J K R := by
  have hR := h.1
  have s2 : (SH L)[2]? = some (10, 10) := rfl; have r2_0 : R 2 0 = some 3 := rr_lk hR rfl; have r2_1 : R 2 1 = some 15 := rr_lk hR rfl; have r2_3 : R 2 3 = some 27 := rr_lk hR rfl; have r2_4 : R 2 4 = some 29 := rr_lk hR rfl; have r2_5 : R 2 5 = some 31 := rr_lk hR rfl; have r2_6 : R 2 6 = some 46 := rr_lk hR rfl; have r2_7 : R 2 7 = some 57 := rr_lk hR rfl; have r2_8 : R 2 8 = some 60 := rr_lk hR rfl; have r2_9 : R 2 9 = some 63 := rr_lk hR rfl; have s3 : (SH L)[3]? = some (6, 4) := rfl; have r3_0 : R 3 0 = some 4 := rr_lk hR rfl; have r3_1 : R 3 1 = some 6 := rr_lk hR rfl; have r3_2 : R 3 2 = some 9 := rr_lk hR rfl; have r3_3 : R 3 3 = some 12 := rr_lk hR rfl; have s4 : (SH L)[4]? = some (0, 2) := rfl; have r4_0 : R 4 0 = some 5 := rr_lk hR rfl; have s12 : (SH L)[12]? = some (4, 3) := rfl; have r12_0 : R 12 0 = some 13 := rr_lk hR rfl; have r12_1 : R 12 1 = some 14 := rr_lk hR rfl; have s76 : (SH L)[76]? = some (11, 58) := rfl; have r76_0 : R 76 0 = some 77 := rr_lk hR rfl; have r76_3 : R 76 3 = some 78 := rr_lk hR rfl; have r76_4 : R 76 4 = some 79 := rr_lk hR rfl; have r76_6 : R 76 6 = some 80 := rr_lk hR rfl; have r76_7 : R 76 7 = some 81 := rr_lk hR rfl; have r76_9 : R 76 9 = some 82 := rr_lk hR rfl; have r76_10 : R 76 10 = some 83 := rr_lk hR rfl; have r76_12 : R 76 12 = some 84 := rr_lk hR rfl; have r76_13 : R 76 13 = some 85 := rr_lk hR rfl; have r76_19 : R 76 19 = some 86 := rr_lk hR rfl; have r76_20 : R 76 20 = some 87 := rr_lk hR rfl; have r76_21 : R 76 21 = some 88 := rr_lk hR rfl; have r76_22 : R 76 22 = some 89 := rr_lk hR rfl; have r76_24 : R 76 24 = some 90 := rr_lk hR rfl; have r76_25 : R 76 25 = some 91 := rr_lk hR rfl; have r76_26 : R 76 26 = some 92 := rr_lk hR rfl; have r76_28 : R 76 28 = some 93 := rr_lk hR rfl; have r76_29 : R 76 29 = some 94 := rr_lk hR rfl; have r76_30 : R 76 30 = some 95 := rr_lk hR rfl; have r76_31 : R 76 31 = some 96 := rr_lk hR rfl; have r76_32 : R 76 32 = some 97 := rr_lk hR rfl; have r76_36 : R 76 36 = some 98 := rr_lk hR rfl; have r76_38 : R 76 38 = some 99 := rr_lk hR rfl; have r76_39 : R 76 39 = some 100 := rr_lk hR rfl; have r76_40 : R 76 40 = some 101 := rr_lk hR rfl; have r76_41 : R 76 41 = some 102 := rr_lk hR rfl; have r76_42 : R 76 42 = some 103 := rr_lk hR rfl; have r76_47 : R 76 47 = some 104 := rr_lk hR rfl; have r76_53 : R 76 53 = some 105 := rr_lk hR rfl; have r76_54 : R 76 54 = some 106 := rr_lk hR rfl; have r76_55 : R 76 55 = some 107 := rr_lk hR rfl; have r76_56 : R 76 56 = some 108 := rr_lk hR rfl; have r76_57 : R 76 57 = some 109 := rr_lk hR rfl
  obtain ⟨a1, a2, a3⟩ := h.2.1
  obtain ⟨w1, w2, w3⟩ := h.2.2.2.1.2.2
  have hB : isB (SH L) R 4 5 120 := ⟨rfl, rr_lk hR rfl, rfl, by decide, by decide, by decide⟩
  have hW3 : isW (SH L) R 12 13 14 8 := ⟨rfl, rr_lk hR rfl, rr_lk hR rfl, rfl, rfl, by decide, by decide, by decide, by decide, by decide, by decide⟩
  have hc := fun d => w_firstO (d := d) (J := J) (K := K) hW3 hB (by omega) (by omega) (fun i hi => by have := w3 i (by omega); omega) (fun i hi => by have := w3 i (by omega); omega) (fun i hi => by have := a3 i hi; omega)
  rw [(INV_RB (L := L) h).2.2.2.2.2, w1] at hc
  have ecs : ∀ (i k : Nat), (J 76 8).toNat - k = i → firstO (mA J) (J 13) (J 14) i k = firstO (mA J) (J 82) (J 83) i k := by
    intro i
    induction i with
    | zero => intro k hk; rfl
    | succ i ih =>
      intro k hk
      have := w3 k (by omega)
      have e1 : firstO (mA J) (J 13) (J 14) (i + 1) k = if mA J (J 13 k) = J 14 k then firstO (mA J) (J 13) (J 14) i (k + 1) else (k : Int) := rfl
      have e2 : firstO (mA J) (J 82) (J 83) (i + 1) k = if mA J (J 82 k) = J 83 k then firstO (mA J) (J 82) (J 83) i (k + 1) else (k : Int) := rfl
      rw [e1, e2, this.1.1, this.2.1, ih (k + 1) (by omega)]
  rw [ecs _ 0 (by omega)] at hc
  have e1 : mm_up J 76 11 0 76 1 = J 76 1 := up_j (by decide)
  have e8 : mm_up J 76 11 0 76 8 = J 76 8 := up_j (by decide)
  have e77 : mm_up J 76 11 0 77 = J 77 := up_ne (by decide)
  have e82 : mm_up J 76 11 0 82 = J 82 := up_ne (by decide)
  have e83 : mm_up J 76 11 0 83 = J 83 := up_ne (by decide)
  have emA : mA (mm_up J 76 11 0) = mA J := by funext q; unfold mA; rw [e1, e77]
  have hl := l_looked (L := L) (d := d + 18) (J := mm_up J 76 11 0) (K := K) hR (by rw [e1]; exact a2) (by rw [e8]; exact w2) (fun i hi => by rw [e77]; exact (a3 i hi).2.1) (fun i hi => by rw [e8] at hi; rw [e82, e83]; exact ⟨(w3 i hi).1.2, (w3 i hi).2.2⟩) (J 76 8).toNat 0 (by rw [e8]; omega) (by omega)
  rw [emA, e82, e83] at hl
  refine ⟨vi (if firstO (mA J) (J 82) (J 83) (J 76 8).toNat 0 < 0 then -5 else firstO (mA J) (J 82) (J 83) (J 76 8).toNat 0), J, K, R, mm_up J 76 11 0, K, R, ?_, ?_, INV_11 h⟩
  · have hf : -2147483648 ≤ firstO (mA J) (J 82) (J 83) (J 76 8).toNat 0 ∧ firstO (mA J) (J 82) (J 83) (J 76 8).toNat 0 ≤ 2147483647 := by
      have key : ∀ (i k : Nat), i + k ≤ 8 → -1 ≤ firstO (mA J) (J 82) (J 83) i k ∧ firstO (mA J) (J 82) (J 83) i k ≤ 8 := by
        intro i
        induction i with
        | zero => intro k hk; exact ⟨by show (-1 : Int) ≤ -1; omega, by show (-1 : Int) ≤ 8; omega⟩
        | succ i ih =>
          intro k hk
          unfold firstO
          split
          · exact ih (k + 1) (by omega)
          · omega
      have := key (J 76 8).toNat 0 (by omega)
      omega
    generalize firstO (mA J) (J 82) (J 83) (J 76 8).toNat 0 = v at *
    by_cases c : v < 0
    · rw [if_pos c]
      simp (disch := first | assumption | omega | exact bi_lo | exact bi_hi | exact bi_01 | exact jcmp_lo | exact jcmp_hi | exact (jor_r _ _).1 | exact (jor_r _ _).2 | exact (jand_r _ _).1 | exact (jand_r _ _).2) only [x120_0, x120_1, x120_4, x120_7, x120_8, x120_11, x120_14, x120_17, x120_18, x120_19, x120_22, x120_24, x120_27, x120_28, kb_some, kb_none, clr_vi, clr_ref, clr_null, clr_none, va_rf_some, va_rf_none, ↓bi_ite_t, ↓bi_ite_f, ↓jc_lt_t, ↓jc_lt_f, ↓jc_gt_t, ↓jc_gt_f, ↓jc_le_t, ↓jc_le_f, ↓jc_ge_t, ↓jc_ge_f, ↓jc_eq_t, ↓jc_eq_f, ↓if_pos, ↓if_neg, hc]
    · rw [if_neg c]
      simp (disch := first | assumption | omega | exact bi_lo | exact bi_hi | exact bi_01 | exact jcmp_lo | exact jcmp_hi | exact (jor_r _ _).1 | exact (jor_r _ _).2 | exact (jand_r _ _).1 | exact (jand_r _ _).2) only [x120_0, x120_1, x120_4, x120_7, x120_8, x120_11, x120_14, x120_17, x120_18, x120_19, x120_22, x120_24, x120_27, x120_28, kb_some, kb_none, clr_vi, clr_ref, clr_null, clr_none, va_rf_some, va_rf_none, ↓bi_ite_t, ↓bi_ite_f, ↓jc_lt_t, ↓jc_lt_f, ↓jc_gt_t, ↓jc_gt_f, ↓jc_le_t, ↓jc_le_f, ↓jc_ge_t, ↓jc_ge_f, ↓jc_eq_t, ↓jc_eq_f, ↓if_pos, ↓if_neg, hc]
  · rw [← hl]
    simp (disch := first | assumption | omega | exact bi_lo | exact bi_hi | exact bi_01 | exact jcmp_lo | exact jcmp_hi | exact (jor_r _ _).1 | exact (jor_r _ _).2 | exact (jand_r _ _).1 | exact (jand_r _ _).2) only [x227_0, x227_1, x227_2, x227_5, x227_6, kb_some, kb_none, clr_vi, clr_ref, clr_null, clr_none, va_rf_some, va_rf_none]
    rfl
end
