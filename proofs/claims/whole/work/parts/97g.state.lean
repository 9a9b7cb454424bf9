/-! the calls, one by one: the image -/
section
variable {L d : Nat} {J J' J1 J2 K K' : mJ} {R R1 R' : mm_R} {x y z v w n : Int} {f : Int → Int}
theorem c_imaged (hR : wfR R) (h0 : 0 ≤ J 4 1 ∧ J 4 1 ≤ 120) (h1 : 0 ≤ J 6 2 ∧ J 6 2 ≤ 5) (h2 : 0 ≤ J 9 2 ∧ J 9 2 ≤ 10) (h3 : 0 ≤ J 12 2 ∧ J 12 2 ≤ 8) : ∃ J', EE (d + 2) 55 0 [some (.ref 15), some (.ref 3)] [] (SH L) J K R = ok none (SH L) J' K R ∧ (∀ a, ¬ (15 < a ∧ a ≤ 26) → J' a = J a) ∧ (J' 16 1 = J 4 1 ∧ ∀ j : Nat, J' 17 j = if (j : Int) < J 4 1 then J 5 j else J 17 j) ∧ (J' 18 2 = J 6 2 ∧ ∀ j : Nat, (j : Int) < J 6 2 → J' 19 j = J 7 j ∧ J' 20 j = J 8 j) ∧ (J' 21 2 = J 9 2 ∧ ∀ j : Nat, (j : Int) < J 9 2 → J' 22 j = J 10 j ∧ J' 23 j = J 11 j) ∧ (J' 24 2 = J 12 2 ∧ ∀ j : Nat, (j : Int) < J 12 2 → J' 25 j = J 13 j ∧ J' 26 j = J 14 j) := by
  have s15 : (SH L)[15]? = some (6, 4) := rfl; have r15_0 : R 15 0 = some 16 := rr_lk hR rfl; have r15_1 : R 15 1 = some 18 := rr_lk hR rfl; have r15_2 : R 15 2 = some 21 := rr_lk hR rfl; have r15_3 : R 15 3 = some 24 := rr_lk hR rfl; have s3 : (SH L)[3]? = some (6, 4) := rfl; have r3_0 : R 3 0 = some 4 := rr_lk hR rfl; have r3_1 : R 3 1 = some 6 := rr_lk hR rfl; have r3_2 : R 3 2 = some 9 := rr_lk hR rfl; have r3_3 : R 3 3 = some 12 := rr_lk hR rfl; have s16 : (SH L)[16]? = some (0, 2) := rfl; have r16_0 : R 16 0 = some 17 := rr_lk hR rfl; have s4 : (SH L)[4]? = some (0, 2) := rfl; have r4_0 : R 4 0 = some 5 := rr_lk hR rfl; have s18 : (SH L)[18]? = some (4, 3) := rfl; have r18_0 : R 18 0 = some 19 := rr_lk hR rfl; have r18_1 : R 18 1 = some 20 := rr_lk hR rfl; have s6 : (SH L)[6]? = some (4, 3) := rfl; have r6_0 : R 6 0 = some 7 := rr_lk hR rfl; have r6_1 : R 6 1 = some 8 := rr_lk hR rfl; have s21 : (SH L)[21]? = some (4, 3) := rfl; have r21_0 : R 21 0 = some 22 := rr_lk hR rfl; have r21_1 : R 21 1 = some 23 := rr_lk hR rfl; have s9 : (SH L)[9]? = some (4, 3) := rfl; have r9_0 : R 9 0 = some 10 := rr_lk hR rfl; have r9_1 : R 9 1 = some 11 := rr_lk hR rfl; have s24 : (SH L)[24]? = some (4, 3) := rfl; have r24_0 : R 24 0 = some 25 := rr_lk hR rfl; have r24_1 : R 24 1 = some 26 := rr_lk hR rfl; have s12 : (SH L)[12]? = some (4, 3) := rfl; have r12_0 : R 12 0 = some 13 := rr_lk hR rfl; have r12_1 : R 12 1 = some 14 := rr_lk hR rfl
  have hB : isB (SH L) R 16 17 120 := ⟨rfl, rr_lk hR rfl, rfl, by decide, by decide, by decide⟩
  have hB' : isB (SH L) R 4 5 120 := ⟨rfl, rr_lk hR rfl, rfl, by decide, by decide, by decide⟩
  have hcp := fun d => c_copyFrom (d := d) (J := J) (K := K) hB hB' (by omega) (by decide)
  generalize hJ1 : mm_rw (mm_up J 16 1 (J 4 1)) 17 (va_cpy (J 5) (mm_up J 16 1 (J 4 1) 17) 0 0 (J 4 1).toNat) = J1 at hcp
  have o1 : ∀ a, a ≠ 16 → a ≠ 17 → J1 a = J a := fun a p q => by
    rw [← hJ1]; funext j; rw [rw_a q, up_ne p]
  have z1 : J1 16 1 = J 4 1 := by rw [← hJ1, rw_a (by decide), up_s]
  have v1 : ∀ j : Nat, J1 17 j = if (j : Int) < J 4 1 then J 5 j else J 17 j := fun j => by
    rw [← hJ1, rw_s]
    unfold va_cpy
    by_cases c : (j : Int) < J 4 1
    · rw [if_pos c, if_pos (by omega), Nat.zero_add, Nat.sub_zero]
    · rw [if_neg c, if_neg (by omega), up_ne (by decide)]
  have hW1 : isW (SH L) R 18 19 20 5 := ⟨rfl, rr_lk hR rfl, rr_lk hR rfl, rfl, rfl, by decide, by decide, by decide, by decide, by decide, by decide⟩
  have hV1 : isW (SH L) R 6 7 8 5 := ⟨rfl, rr_lk hR rfl, rr_lk hR rfl, rfl, rfl, by decide, by decide, by decide, by decide, by decide, by decide⟩
  obtain ⟨w1, J2, K2, R2, e1, p1, pk1, pr1, f1, y1, u1⟩ := w_copyW (d := d) (J := J1) (K := K) hW1 hV1 (by decide) (by rw [o1 6 (by decide) (by decide)]; omega)
  rw [p1, pk1, pr1] at e1
  have hW2 : isW (SH L) R 21 22 23 10 := ⟨rfl, rr_lk hR rfl, rr_lk hR rfl, rfl, rfl, by decide, by decide, by decide, by decide, by decide, by decide⟩
  have hV2 : isW (SH L) R 9 10 11 10 := ⟨rfl, rr_lk hR rfl, rr_lk hR rfl, rfl, rfl, by decide, by decide, by decide, by decide, by decide, by decide⟩
  obtain ⟨w2, J3, K3, R3, e2, p2, pk2, pr2, f2, y2, u2⟩ := w_copyW (d := d) (J := J2) (K := K) hW2 hV2 (by decide) (by rw [f1 9 (by decide), o1 9 (by decide) (by decide)]; omega)
  rw [p2, pk2, pr2] at e2
  have hW3 : isW (SH L) R 24 25 26 8 := ⟨rfl, rr_lk hR rfl, rr_lk hR rfl, rfl, rfl, by decide, by decide, by decide, by decide, by decide, by decide⟩
  have hV3 : isW (SH L) R 12 13 14 8 := ⟨rfl, rr_lk hR rfl, rr_lk hR rfl, rfl, rfl, by decide, by decide, by decide, by decide, by decide, by decide⟩
  obtain ⟨w3, J4, K4, R4, e3, p3, pk3, pr3, f3, y3, u3⟩ := w_copyW (d := d) (J := J3) (K := K) hW3 hV3 (by decide) (by rw [f2 12 (by decide), f1 12 (by decide), o1 12 (by decide) (by decide)]; omega)
  rw [p3, pk3, pr3] at e3
  refine ⟨J4, ?_, fun a ha => ?_, ⟨?_, fun j => ?_⟩, ⟨?_, fun j hj => ?_⟩, ⟨?_, fun j hj => ?_⟩, ⟨?_, fun j hj => ?_⟩⟩
  · simp (disch := first | assumption | omega | exact bi_lo | exact bi_hi | exact bi_01 | exact jcmp_lo | exact jcmp_hi | exact (jor_r _ _).1 | exact (jor_r _ _).2 | exact (jand_r _ _).1 | exact (jand_r _ _).2) only [x55_0, x55_1, x55_4, x55_4n, x55_5, x55_8, x55_11, x55_12, x55_15, x55_15n, x55_16, x55_19, x55_22, x55_23, x55_26, x55_26n, x55_27, x55_30, x55_33, x55_34, x55_37, x55_37n, x55_38, x55_41, x55_44, kb_some, kb_none, clr_vi, clr_ref, clr_null, clr_none, va_rf_some, va_rf_none, ↓bi_ite_t, ↓bi_ite_f, ↓jc_lt_t, ↓jc_lt_f, ↓jc_gt_t, ↓jc_gt_f, ↓jc_le_t, ↓jc_le_f, ↓jc_ge_t, ↓jc_ge_f, ↓jc_eq_t, ↓jc_eq_f, ↓if_pos, ↓if_neg, hcp, e1, e2, e3]
  · rw [f3 a (by omega), f2 a (by omega), f1 a (by omega), o1 a (by omega) (by omega)]
  · rw [f3 16 (by decide), f2 16 (by decide), f1 16 (by decide), z1]
  · rw [f3 17 (by decide), f2 17 (by decide), f1 17 (by decide), v1]
  · rw [f3 18 (by decide), f2 18 (by decide), y1, o1 6 (by decide) (by decide)]
  · have q := u1 j (by rw [o1 6 (by decide) (by decide)]; exact hj)
    rw [f3 19 (by decide), f2 19 (by decide), f3 20 (by decide), f2 20 (by decide), q.1, q.2, o1 7 (by decide) (by decide), o1 8 (by decide) (by decide)]
    exact ⟨rfl, rfl⟩
  · rw [f3 21 (by decide), y2, f1 9 (by decide), o1 9 (by decide) (by decide)]
  · have q := u2 j (by rw [f1 9 (by decide), o1 9 (by decide) (by decide)]; exact hj)
    rw [f3 22 (by decide), f3 23 (by decide), q.1, q.2, f1 10 (by decide), f1 11 (by decide), o1 10 (by decide) (by decide), o1 11 (by decide) (by decide)]
    exact ⟨rfl, rfl⟩
  · rw [y3, f2 12 (by decide), f1 12 (by decide), o1 12 (by decide) (by decide)]
  · have q := u3 j (by rw [f2 12 (by decide), f1 12 (by decide), o1 12 (by decide) (by decide)]; exact hj)
    rw [q.1, q.2, f2 13 (by decide), f2 14 (by decide), f1 13 (by decide), f1 14 (by decide), o1 13 (by decide) (by decide), o1 14 (by decide) (by decide)]
    exact ⟨rfl, rfl⟩
theorem c_undone (hR : wfR R) (h0 : 0 ≤ J 16 1 ∧ J 16 1 ≤ 120) (h1 : 0 ≤ J 18 2 ∧ J 18 2 ≤ 5) (h2 : 0 ≤ J 21 2 ∧ J 21 2 ≤ 10) (h3 : 0 ≤ J 24 2 ∧ J 24 2 ≤ 8) : ∃ J', EE (d + 2) 55 0 [some (.ref 3), some (.ref 15)] [] (SH L) J K R = ok none (SH L) J' K R ∧ (∀ a, ¬ (3 < a ∧ a ≤ 14) → J' a = J a) ∧ (J' 4 1 = J 16 1 ∧ ∀ j : Nat, J' 5 j = if (j : Int) < J 16 1 then J 17 j else J 5 j) ∧ (J' 6 2 = J 18 2 ∧ ∀ j : Nat, (j : Int) < J 18 2 → J' 7 j = J 19 j ∧ J' 8 j = J 20 j) ∧ (J' 9 2 = J 21 2 ∧ ∀ j : Nat, (j : Int) < J 21 2 → J' 10 j = J 22 j ∧ J' 11 j = J 23 j) ∧ (J' 12 2 = J 24 2 ∧ ∀ j : Nat, (j : Int) < J 24 2 → J' 13 j = J 25 j ∧ J' 14 j = J 26 j) := by
  have s3 : (SH L)[3]? = some (6, 4) := rfl; have r3_0 : R 3 0 = some 4 := rr_lk hR rfl; have r3_1 : R 3 1 = some 6 := rr_lk hR rfl; have r3_2 : R 3 2 = some 9 := rr_lk hR rfl; have r3_3 : R 3 3 = some 12 := rr_lk hR rfl; have s15 : (SH L)[15]? = some (6, 4) := rfl; have r15_0 : R 15 0 = some 16 := rr_lk hR rfl; have r15_1 : R 15 1 = some 18 := rr_lk hR rfl; have r15_2 : R 15 2 = some 21 := rr_lk hR rfl; have r15_3 : R 15 3 = some 24 := rr_lk hR rfl; have s4 : (SH L)[4]? = some (0, 2) := rfl; have r4_0 : R 4 0 = some 5 := rr_lk hR rfl; have s16 : (SH L)[16]? = some (0, 2) := rfl; have r16_0 : R 16 0 = some 17 := rr_lk hR rfl; have s6 : (SH L)[6]? = some (4, 3) := rfl; have r6_0 : R 6 0 = some 7 := rr_lk hR rfl; have r6_1 : R 6 1 = some 8 := rr_lk hR rfl; have s18 : (SH L)[18]? = some (4, 3) := rfl; have r18_0 : R 18 0 = some 19 := rr_lk hR rfl; have r18_1 : R 18 1 = some 20 := rr_lk hR rfl; have s9 : (SH L)[9]? = some (4, 3) := rfl; have r9_0 : R 9 0 = some 10 := rr_lk hR rfl; have r9_1 : R 9 1 = some 11 := rr_lk hR rfl; have s21 : (SH L)[21]? = some (4, 3) := rfl; have r21_0 : R 21 0 = some 22 := rr_lk hR rfl; have r21_1 : R 21 1 = some 23 := rr_lk hR rfl; have s12 : (SH L)[12]? = some (4, 3) := rfl; have r12_0 : R 12 0 = some 13 := rr_lk hR rfl; have r12_1 : R 12 1 = some 14 := rr_lk hR rfl; have s24 : (SH L)[24]? = some (4, 3) := rfl; have r24_0 : R 24 0 = some 25 := rr_lk hR rfl; have r24_1 : R 24 1 = some 26 := rr_lk hR rfl
  have hB : isB (SH L) R 4 5 120 := ⟨rfl, rr_lk hR rfl, rfl, by decide, by decide, by decide⟩
  have hB' : isB (SH L) R 16 17 120 := ⟨rfl, rr_lk hR rfl, rfl, by decide, by decide, by decide⟩
  have hcp := fun d => c_copyFrom (d := d) (J := J) (K := K) hB hB' (by omega) (by decide)
  generalize hJ1 : mm_rw (mm_up J 4 1 (J 16 1)) 5 (va_cpy (J 17) (mm_up J 4 1 (J 16 1) 5) 0 0 (J 16 1).toNat) = J1 at hcp
  have o1 : ∀ a, a ≠ 4 → a ≠ 5 → J1 a = J a := fun a p q => by
    rw [← hJ1]; funext j; rw [rw_a q, up_ne p]
  have z1 : J1 4 1 = J 16 1 := by rw [← hJ1, rw_a (by decide), up_s]
  have v1 : ∀ j : Nat, J1 5 j = if (j : Int) < J 16 1 then J 17 j else J 5 j := fun j => by
    rw [← hJ1, rw_s]
    unfold va_cpy
    by_cases c : (j : Int) < J 16 1
    · rw [if_pos c, if_pos (by omega), Nat.zero_add, Nat.sub_zero]
    · rw [if_neg c, if_neg (by omega), up_ne (by decide)]
  have hW1 : isW (SH L) R 6 7 8 5 := ⟨rfl, rr_lk hR rfl, rr_lk hR rfl, rfl, rfl, by decide, by decide, by decide, by decide, by decide, by decide⟩
  have hV1 : isW (SH L) R 18 19 20 5 := ⟨rfl, rr_lk hR rfl, rr_lk hR rfl, rfl, rfl, by decide, by decide, by decide, by decide, by decide, by decide⟩
  obtain ⟨w1, J2, K2, R2, e1, p1, pk1, pr1, f1, y1, u1⟩ := w_copyW (d := d) (J := J1) (K := K) hW1 hV1 (by decide) (by rw [o1 18 (by decide) (by decide)]; omega)
  rw [p1, pk1, pr1] at e1
  have hW2 : isW (SH L) R 9 10 11 10 := ⟨rfl, rr_lk hR rfl, rr_lk hR rfl, rfl, rfl, by decide, by decide, by decide, by decide, by decide, by decide⟩
  have hV2 : isW (SH L) R 21 22 23 10 := ⟨rfl, rr_lk hR rfl, rr_lk hR rfl, rfl, rfl, by decide, by decide, by decide, by decide, by decide, by decide⟩
  obtain ⟨w2, J3, K3, R3, e2, p2, pk2, pr2, f2, y2, u2⟩ := w_copyW (d := d) (J := J2) (K := K) hW2 hV2 (by decide) (by rw [f1 21 (by decide), o1 21 (by decide) (by decide)]; omega)
  rw [p2, pk2, pr2] at e2
  have hW3 : isW (SH L) R 12 13 14 8 := ⟨rfl, rr_lk hR rfl, rr_lk hR rfl, rfl, rfl, by decide, by decide, by decide, by decide, by decide, by decide⟩
  have hV3 : isW (SH L) R 24 25 26 8 := ⟨rfl, rr_lk hR rfl, rr_lk hR rfl, rfl, rfl, by decide, by decide, by decide, by decide, by decide, by decide⟩
  obtain ⟨w3, J4, K4, R4, e3, p3, pk3, pr3, f3, y3, u3⟩ := w_copyW (d := d) (J := J3) (K := K) hW3 hV3 (by decide) (by rw [f2 24 (by decide), f1 24 (by decide), o1 24 (by decide) (by decide)]; omega)
  rw [p3, pk3, pr3] at e3
  refine ⟨J4, ?_, fun a ha => ?_, ⟨?_, fun j => ?_⟩, ⟨?_, fun j hj => ?_⟩, ⟨?_, fun j hj => ?_⟩, ⟨?_, fun j hj => ?_⟩⟩
  · simp (disch := first | assumption | omega | exact bi_lo | exact bi_hi | exact bi_01 | exact jcmp_lo | exact jcmp_hi | exact (jor_r _ _).1 | exact (jor_r _ _).2 | exact (jand_r _ _).1 | exact (jand_r _ _).2) only [x55_0, x55_1, x55_4, x55_4n, x55_5, x55_8, x55_11, x55_12, x55_15, x55_15n, x55_16, x55_19, x55_22, x55_23, x55_26, x55_26n, x55_27, x55_30, x55_33, x55_34, x55_37, x55_37n, x55_38, x55_41, x55_44, kb_some, kb_none, clr_vi, clr_ref, clr_null, clr_none, va_rf_some, va_rf_none, ↓bi_ite_t, ↓bi_ite_f, ↓jc_lt_t, ↓jc_lt_f, ↓jc_gt_t, ↓jc_gt_f, ↓jc_le_t, ↓jc_le_f, ↓jc_ge_t, ↓jc_ge_f, ↓jc_eq_t, ↓jc_eq_f, ↓if_pos, ↓if_neg, hcp, e1, e2, e3]
  · rw [f3 a (by omega), f2 a (by omega), f1 a (by omega), o1 a (by omega) (by omega)]
  · rw [f3 4 (by decide), f2 4 (by decide), f1 4 (by decide), z1]
  · rw [f3 5 (by decide), f2 5 (by decide), f1 5 (by decide), v1]
  · rw [f3 6 (by decide), f2 6 (by decide), y1, o1 18 (by decide) (by decide)]
  · have q := u1 j (by rw [o1 18 (by decide) (by decide)]; exact hj)
    rw [f3 7 (by decide), f2 7 (by decide), f3 8 (by decide), f2 8 (by decide), q.1, q.2, o1 19 (by decide) (by decide), o1 20 (by decide) (by decide)]
    exact ⟨rfl, rfl⟩
  · rw [f3 9 (by decide), y2, f1 21 (by decide), o1 21 (by decide) (by decide)]
  · have q := u2 j (by rw [f1 21 (by decide), o1 21 (by decide) (by decide)]; exact hj)
    rw [f3 10 (by decide), f3 11 (by decide), q.1, q.2, f1 22 (by decide), f1 23 (by decide), o1 22 (by decide) (by decide), o1 23 (by decide) (by decide)]
    exact ⟨rfl, rfl⟩
  · rw [y3, f2 24 (by decide), f1 24 (by decide), o1 24 (by decide) (by decide)]
  · have q := u3 j (by rw [f2 24 (by decide), f1 24 (by decide), o1 24 (by decide) (by decide)]; exact hj)
    rw [q.1, q.2, f2 25 (by decide), f2 26 (by decide), f1 25 (by decide), f1 26 (by decide), o1 25 (by decide) (by decide), o1 26 (by decide) (by decide)]
    exact ⟨rfl, rfl⟩
end
