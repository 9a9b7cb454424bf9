/-! the calls, one by one: image, undo -/
theorem ix77 {i : Nat} (h : i < 120) : idx 77 i = 4 + i := by
  unfold idx
  rw [if_neg (by omega), if_pos ⟨rfl, h⟩]
theorem ix78 {i : Nat} (h : i < 5) : idx 78 i = 124 + 2 * i := by
  unfold idx
  rw [if_neg (by omega), if_neg (by omega), if_pos ⟨rfl, h⟩]
theorem ix79 {i : Nat} (h : i < 5) : idx 79 i = 125 + 2 * i := by
  unfold idx
  rw [if_neg (by omega), if_neg (by omega), if_neg (by omega), if_pos ⟨rfl, h⟩]
theorem ix80 {i : Nat} (h : i < 10) : idx 80 i = 134 + 2 * i := by
  unfold idx
  rw [if_neg (by omega), if_neg (by omega), if_neg (by omega), if_neg (by omega), if_pos ⟨rfl, h⟩]
theorem ix81 {i : Nat} (h : i < 10) : idx 81 i = 135 + 2 * i := by
  unfold idx
  rw [if_neg (by omega), if_neg (by omega), if_neg (by omega), if_neg (by omega), if_neg (by omega), if_pos ⟨rfl, h⟩]
theorem ix82 {i : Nat} (h : i < 8) : idx 82 i = 154 + 2 * i := by
  unfold idx
  rw [if_neg (by omega), if_neg (by omega), if_neg (by omega), if_neg (by omega), if_neg (by omega), if_neg (by omega), if_pos ⟨rfl, h⟩]
theorem ix83 {i : Nat} (h : i < 8) : idx 83 i = 155 + 2 * i := by
  unfold idx
  rw [if_neg (by omega), if_neg (by omega), if_neg (by omega), if_neg (by omega), if_neg (by omega), if_neg (by omega), if_neg (by omega), if_pos ⟨rfl, h⟩]
section
variable {L d X p a j : Nat} {J J' J1 J2 K K' : mJ} {R R1 R' : mm_R} {x y z v w n : Int}
theorem sv_at (hX : X = 84 ∨ X = 85) (hi : idx a j = p) (hp : p < 170) : csJ 1 X J 170 X p = J a j := by
  have hf := idx_f hi hp
  unfold csJ
  rw [if_neg (show ¬ (X = 76 ∧ p = 15) by omega), if_neg (show ¬ (X = 76 ∧ p = 16) by omega), if_pos rfl, if_pos ⟨rfl, hp⟩, ← hf.1, ← hf.2]
theorem sv_o (h : ¬ (a = X ∨ (a = 76 ∧ (j = 15 ∨ j = 16)))) : csJ 1 X J 170 a j = J a j := by
  unfold csJ
  rw [if_neg (show ¬ (a = 76 ∧ j = 15) by omega), if_neg (show ¬ (a = 76 ∧ j = 16) by omega), if_pos rfl, if_neg (by omega)]
theorem rs_at (hi : idx a j = p) (hp : p < 170) : csJ 0 X J 170 a j = J X p := by
  have hn := idx_n (a := a) (j := j) (by omega)
  unfold csJ
  rw [if_neg (show ¬ (a = 76 ∧ j = 15) by omega), if_neg (show ¬ (a = 76 ∧ j = 16) by omega), if_neg (by omega), hi, if_pos hp]
theorem rs_o (h : ¬ idx a j < 170) (h2 : ¬ (a = 76 ∧ (j = 15 ∨ j = 16))) : csJ 0 X J 170 a j = J a j := by
  unfold csJ
  rw [if_neg (show ¬ (a = 76 ∧ j = 15) by omega), if_neg (show ¬ (a = 76 ∧ j = 16) by omega), if_neg (show ¬ (0 : Int) = 1 by omega), if_neg h]
theorem op_image (h : INV J K R) : OP L d 122 144 [] [] J K R := by
  have hR := h.1
  have s2 : (SH L)[2]? = some (10, 10) := rfl; have r2_0 : R 2 0 = some 3 := rr_lk hR rfl; have r2_1 : R 2 1 = some 15 := rr_lk hR rfl; have r2_3 : R 2 3 = some 27 := rr_lk hR rfl; have r2_4 : R 2 4 = some 29 := rr_lk hR rfl; have r2_5 : R 2 5 = some 31 := rr_lk hR rfl; have r2_6 : R 2 6 = some 46 := rr_lk hR rfl; have r2_7 : R 2 7 = some 57 := rr_lk hR rfl; have r2_8 : R 2 8 = some 60 := rr_lk hR rfl; have r2_9 : R 2 9 = some 63 := rr_lk hR rfl; have s3 : (SH L)[3]? = some (6, 4) := rfl; have r3_0 : R 3 0 = some 4 := rr_lk hR rfl; have r3_1 : R 3 1 = some 6 := rr_lk hR rfl; have r3_2 : R 3 2 = some 9 := rr_lk hR rfl; have r3_3 : R 3 3 = some 12 := rr_lk hR rfl; have s4 : (SH L)[4]? = some (0, 2) := rfl; have r4_0 : R 4 0 = some 5 := rr_lk hR rfl; have s15 : (SH L)[15]? = some (6, 4) := rfl; have r15_0 : R 15 0 = some 16 := rr_lk hR rfl; have r15_1 : R 15 1 = some 18 := rr_lk hR rfl; have r15_2 : R 15 2 = some 21 := rr_lk hR rfl; have r15_3 : R 15 3 = some 24 := rr_lk hR rfl; have s16 : (SH L)[16]? = some (0, 2) := rfl; have r16_0 : R 16 0 = some 17 := rr_lk hR rfl; have s76 : (SH L)[76]? = some (11, 58) := rfl; have r76_0 : R 76 0 = some 77 := rr_lk hR rfl; have r76_3 : R 76 3 = some 78 := rr_lk hR rfl; have r76_4 : R 76 4 = some 79 := rr_lk hR rfl; have r76_6 : R 76 6 = some 80 := rr_lk hR rfl; have r76_7 : R 76 7 = some 81 := rr_lk hR rfl; have r76_9 : R 76 9 = some 82 := rr_lk hR rfl; have r76_10 : R 76 10 = some 83 := rr_lk hR rfl; have r76_12 : R 76 12 = some 84 := rr_lk hR rfl; have r76_13 : R 76 13 = some 85 := rr_lk hR rfl; have r76_19 : R 76 19 = some 86 := rr_lk hR rfl; have r76_20 : R 76 20 = some 87 := rr_lk hR rfl; have r76_21 : R 76 21 = some 88 := rr_lk hR rfl; have r76_22 : R 76 22 = some 89 := rr_lk hR rfl; have r76_24 : R 76 24 = some 90 := rr_lk hR rfl; have r76_25 : R 76 25 = some 91 := rr_lk hR rfl; have r76_26 : R 76 26 = some 92 := rr_lk hR rfl; have r76_28 : R 76 28 = some 93 := rr_lk hR rfl; have r76_29 : R 76 29 = some 94 := rr_lk hR rfl; have r76_30 : R 76 30 = some 95 := rr_lk hR rfl; have r76_31 : R 76 31 = some 96 := rr_lk hR rfl; have r76_32 : R 76 32 = some 97 := rr_lk hR rfl; have r76_36 : R 76 36 = some 98 := rr_lk hR rfl; have r76_38 : R 76 38 = some 99 := rr_lk hR rfl; have r76_39 : R 76 39 = some 100 := rr_lk hR rfl; have r76_40 : R 76 40 = some 101 := rr_lk hR rfl; have r76_41 : R 76 41 = some 102 := rr_lk hR rfl; have r76_42 : R 76 42 = some 103 := rr_lk hR rfl; have r76_47 : R 76 47 = some 104 := rr_lk hR rfl; have r76_53 : R 76 53 = some 105 := rr_lk hR rfl; have r76_54 : R 76 54 = some 106 := rr_lk hR rfl; have r76_55 : R 76 55 = some 107 := rr_lk hR rfl; have r76_56 : R 76 56 = some 108 := rr_lk hR rfl; have r76_57 : R 76 57 = some 109 := rr_lk hR rfl
  obtain ⟨g1, g2, g3, ⟨g4, g5, g6⟩, g7, g8, g9⟩ := h
  obtain ⟨a1, a2, a3⟩ := g2
  obtain ⟨w1, w2, w3⟩ := g4
  obtain ⟨p1, p2, p3⟩ := g5
  obtain ⟨b1, b2, b3⟩ := g6
  obtain ⟨J1, e1, f1, ⟨c1, c2⟩, ⟨c3, c4⟩, ⟨c5, c6⟩, ⟨c7, c8⟩⟩ := c_imaged (L := L) (d := d + 17) (J := J) (K := K) hR (by omega) (by omega) (by omega) (by omega)
  have hB : isB (SH L) R 16 17 120 := ⟨rfl, rr_lk hR rfl, rfl, by decide, by decide, by decide⟩
  have e16 : mm_up J1 2 2 1 16 1 = J 76 1 := by rw [up_ne (by decide), c1, a1]
  have hsz := fun d => c_size (d := d) (J := mm_up J1 2 2 1) (K := K) hB
  rw [e16] at hsz
  generalize hJM : mm_up (mm_up (mm_up J1 2 2 1) 76 11 0) 76 14 1 = JM
  have hca := fun d => m_carryAll (L := L) (d := d) (J := JM) (K := K) (t := 1) hR (Or.inr rfl) (Or.inr rfl)
  have oM : ∀ a j, ¬ (a = 2 ∧ j = 2) → ¬ (a = 76 ∧ (j = 11 ∨ j = 14)) → JM a j = J1 a j := fun a j q1 q2 => by
    rw [← hJM]; unfold mm_up
    rw [if_neg (by omega), if_neg (by omega), if_neg q1]
  have oJ : ∀ a j, ¬ (a = 2 ∧ j = 2) → ¬ (15 < a ∧ a ≤ 26) → ¬ (a = 76 ∧ (j = 11 ∨ j = 14)) → JM a j = J a j := fun a j q1 q2 q3 => by
    rw [oM a j q1 q3, f1 a q2]
  generalize hJ2 : csJ 1 85 JM 170 = J2 at hca
  have kk : ∀ a, a ≠ 2 → ¬ (15 < a ∧ a ≤ 26) → a ≠ 76 → a ≠ 85 → J2 a = J a := fun a q1 q2 q3 q4 => by
    funext j; rw [← hJ2, sv_o (by omega), oJ a j (by omega) q2 (by omega)]
  have ki : ∀ a, (15 < a ∧ a ≤ 26) → J2 a = J1 a := fun a q => by
    funext j; rw [← hJ2, sv_o (by omega), oM a j (by omega) (by omega)]
  have k : ∀ j, j ≠ 11 → j ≠ 14 → j ≠ 15 → j ≠ 16 → J2 76 j = J 76 j := fun j q1 q2 q3 q4 => by
    rw [← hJ2, sv_o (by omega), oJ 76 j (by omega) (by omega) (by omega)]
  have sv : ∀ {a j p : Nat}, idx a j = p → p < 170 → J2 85 p = J a j := fun {a j p} q1 q2 => by
    have hn := idx_n (a := a) (j := j) (by omega)
    have hn2 : ¬ (a = 76 ∧ (j = 11 ∨ j = 14)) := fun q => by
      rcases q with ⟨q5, q6 | q6⟩
      · subst q5; subst q6
        rw [show idx 76 11 = 1000 from rfl] at q1; omega
      · subst q5; subst q6
        rw [show idx 76 14 = 1000 from rfl] at q1; omega
    rw [← hJ2, sv_at (Or.inr rfl) q1 q2, oJ a j (by omega) (by omega) hn2]
  have k14 : J2 76 14 = 1 := by rw [← hJ2, sv_o (by omega), ← hJM, up_s]
  have k2 : J2 2 2 = 1 := by
    rw [← hJ2, sv_o (by omega), ← hJM, up_ne (by decide), up_ne (by decide), up_s]
  have s0 := sv (a := 76) (j := 1) (p := 0) (by decide) (by omega)
  have s1 := sv (a := 76) (j := 2) (p := 1) (by decide) (by omega)
  have s2' := sv (a := 76) (j := 5) (p := 2) (by decide) (by omega)
  have s3' := sv (a := 76) (j := 8) (p := 3) (by decide) (by omega)
  have t1 := g7.1
  have hi : INV J2 K (mm_up R 76 17 (some 85)) := by
    refine ⟨wfR_up hR rfl, IF_o ⟨a1, a2, a3⟩ (by rw [kk 4 (by decide) (by decide) (by decide) (by decide)]) (kk 5 (by decide) (by decide) (by decide) (by decide)) (k 1 (by decide) (by decide) (by decide) (by decide)) (kk 77 (by decide) (by decide) (by decide) (by decide)), IT_o g3 (by rw [kk 27 (by decide) (by decide) (by decide) (by decide)]) (kk 28 (by decide) (by decide) (by decide) (by decide)) (k 43 (by decide) (by decide) (by decide) (by decide)) (kk 103 (by decide) (by decide) (by decide) (by decide)), ⟨?_, ?_, ?_⟩, ⟨?_, ?_, Or.inr ⟨k14, ⟨?_, ?_, ?_, ?_⟩, ?_, ?_, ?_, ?_, fun i hi => ?_, fun i hi => ?_, fun i hi => ⟨?_, ?_⟩, fun i hi => ⟨?_, ?_⟩, fun i hi => ⟨?_, ?_⟩⟩⟩, IX_o g8 (fun a q1 q2 => kk a (by omega) (by omega) (by omega) (by omega)), IK_o g9 (fun a q1 q2 => kk a (by omega) (by omega) (by omega) (by omega)) (kk 105 (by decide) (by decide) (by decide) (by decide)) (kk 106 (by decide) (by decide) (by decide) (by decide)) (kk 109 (by decide) (by decide) (by decide) (by decide))⟩
    · exact IW_o ⟨w1, w2, w3⟩ (by rw [kk 6 (by decide) (by decide) (by decide) (by decide)]) (kk 7 (by decide) (by decide) (by decide) (by decide)) (kk 8 (by decide) (by decide) (by decide) (by decide)) (k 2 (by decide) (by decide) (by decide) (by decide)) (kk 78 (by decide) (by decide) (by decide) (by decide)) (kk 79 (by decide) (by decide) (by decide) (by decide))
    · exact IW_o ⟨p1, p2, p3⟩ (by rw [kk 9 (by decide) (by decide) (by decide) (by decide)]) (kk 10 (by decide) (by decide) (by decide) (by decide)) (kk 11 (by decide) (by decide) (by decide) (by decide)) (k 5 (by decide) (by decide) (by decide) (by decide)) (kk 80 (by decide) (by decide) (by decide) (by decide)) (kk 81 (by decide) (by decide) (by decide) (by decide))
    · exact IW_o ⟨b1, b2, b3⟩ (by rw [kk 12 (by decide) (by decide) (by decide) (by decide)]) (kk 13 (by decide) (by decide) (by decide) (by decide)) (kk 14 (by decide) (by decide) (by decide) (by decide)) (k 8 (by decide) (by decide) (by decide) (by decide)) (kk 82 (by decide) (by decide) (by decide) (by decide)) (kk 83 (by decide) (by decide) (by decide) (by decide))
    · rw [kk 1 (by decide) (by decide) (by decide) (by decide)]; exact t1
    · rw [k2, k14]
    · rw [ki 16 (by decide), c1, s0, a1]
    · rw [ki 18 (by decide), c3, s1, w1]
    · rw [ki 21 (by decide), c5, s2', p1]
    · rw [ki 24 (by decide), c7, s3', b1]
    · rw [s0]; exact a2
    · rw [s1]; exact w2
    · rw [s2']; exact p2
    · rw [s3']; exact b2
    · rw [s0] at hi
      rw [ki 17 (by decide), c2, if_pos (by omega), sv (ix77 (by omega)) (by omega)]
      exact (a3 i (by omega)).2.2 hi
    · rw [sv (ix77 hi) (by omega)]
      exact (a3 i hi).2.1
    · rw [s1] at hi
      have q := w3 i hi
      have q2 := c4 i (by omega)
      rw [ki 19 (by decide), q2.1, sv (ix78 (by omega)) (by omega)]
      exact ⟨q.1.1, by omega, by omega⟩
    · rw [s1] at hi
      have q := w3 i hi
      have q2 := c4 i (by omega)
      rw [ki 20 (by decide), q2.2, sv (ix79 (by omega)) (by omega)]
      exact ⟨q.2.1, by omega, by omega⟩
    · rw [s2'] at hi
      have q := p3 i hi
      have q2 := c6 i (by omega)
      rw [ki 22 (by decide), q2.1, sv (ix80 (by omega)) (by omega)]
      exact ⟨q.1.1, by omega, by omega⟩
    · rw [s2'] at hi
      have q := p3 i hi
      have q2 := c6 i (by omega)
      rw [ki 23 (by decide), q2.2, sv (ix81 (by omega)) (by omega)]
      exact ⟨q.2.1, by omega, by omega⟩
    · rw [s3'] at hi
      have q := b3 i hi
      have q2 := c8 i (by omega)
      rw [ki 25 (by decide), q2.1, sv (ix82 (by omega)) (by omega)]
      exact ⟨q.1.1, by omega, by omega⟩
    · rw [s3'] at hi
      have q := b3 i hi
      have q2 := c8 i (by omega)
      rw [ki 26 (by decide), q2.2, sv (ix83 (by omega)) (by omega)]
      exact ⟨q.2.1, by omega, by omega⟩
  have k1 : J2 76 1 = J 76 1 := k 1 (by decide) (by decide) (by decide) (by decide)
  refine ⟨vi (J 76 1), mm_up J1 2 2 1, K, R, J2, K, mm_up R 76 17 (some 85), ?_, ?_, hi⟩
  · simp (disch := first | assumption | omega | exact bi_lo | exact bi_hi | exact bi_01 | exact jcmp_lo | exact jcmp_hi | exact (jor_r _ _).1 | exact (jor_r _ _).2 | exact (jand_r _ _).1 | exact (jand_r _ _).2) only [x122_0, x122_1, x122_4, x122_5, x122_8, x122_11, x122_12, x122_13, x122_16, x122_17, x122_20, x122_23, x122_26, kb_some, kb_none, clr_vi, clr_ref, clr_null, clr_none, va_rf_some, va_rf_none, ↓bi_ite_t, ↓bi_ite_f, ↓jc_lt_t, ↓jc_lt_f, ↓jc_gt_t, ↓jc_gt_f, ↓jc_le_t, ↓jc_le_f, ↓jc_ge_t, ↓jc_ge_f, ↓jc_eq_t, ↓jc_eq_f, ↓if_pos, ↓if_neg, e1, hsz]
  · simp (disch := first | assumption | omega | exact bi_lo | exact bi_hi | exact bi_01 | exact jcmp_lo | exact jcmp_hi | exact (jor_r _ _).1 | exact (jor_r _ _).2 | exact (jand_r _ _).1 | exact (jand_r _ _).2) only [x144_0, x144_1, x144_2, x144_5, x144_6, x144_7, x144_10, x144_11, x144_12, x144_15, x144_16, x144_19, x144_20, x144_23, kb_some, kb_none, clr_vi, clr_ref, clr_null, clr_none, va_rf_some, va_rf_none, ↓bi_ite_t, ↓bi_ite_f, ↓jc_lt_t, ↓jc_lt_f, ↓jc_gt_t, ↓jc_gt_f, ↓jc_le_t, ↓jc_le_f, ↓jc_ge_t, ↓jc_ge_f, ↓jc_eq_t, ↓jc_eq_f, ↓if_pos, ↓if_neg, hJM, hca, k1]
theorem op_undo (h : INV J K R) : OP L d 123 145 [] [] J K R := by
  have hR := h.1
  have s2 : (SH L)[2]? = some (10, 10) := rfl; have r2_0 : R 2 0 = some 3 := rr_lk hR rfl; have r2_1 : R 2 1 = some 15 := rr_lk hR rfl; have r2_3 : R 2 3 = some 27 := rr_lk hR rfl; have r2_4 : R 2 4 = some 29 := rr_lk hR rfl; have r2_5 : R 2 5 = some 31 := rr_lk hR rfl; have r2_6 : R 2 6 = some 46 := rr_lk hR rfl; have r2_7 : R 2 7 = some 57 := rr_lk hR rfl; have r2_8 : R 2 8 = some 60 := rr_lk hR rfl; have r2_9 : R 2 9 = some 63 := rr_lk hR rfl; have s3 : (SH L)[3]? = some (6, 4) := rfl; have r3_0 : R 3 0 = some 4 := rr_lk hR rfl; have r3_1 : R 3 1 = some 6 := rr_lk hR rfl; have r3_2 : R 3 2 = some 9 := rr_lk hR rfl; have r3_3 : R 3 3 = some 12 := rr_lk hR rfl; have s4 : (SH L)[4]? = some (0, 2) := rfl; have r4_0 : R 4 0 = some 5 := rr_lk hR rfl; have s15 : (SH L)[15]? = some (6, 4) := rfl; have r15_0 : R 15 0 = some 16 := rr_lk hR rfl; have r15_1 : R 15 1 = some 18 := rr_lk hR rfl; have r15_2 : R 15 2 = some 21 := rr_lk hR rfl; have r15_3 : R 15 3 = some 24 := rr_lk hR rfl; have s16 : (SH L)[16]? = some (0, 2) := rfl; have r16_0 : R 16 0 = some 17 := rr_lk hR rfl; have s76 : (SH L)[76]? = some (11, 58) := rfl; have r76_0 : R 76 0 = some 77 := rr_lk hR rfl; have r76_3 : R 76 3 = some 78 := rr_lk hR rfl; have r76_4 : R 76 4 = some 79 := rr_lk hR rfl; have r76_6 : R 76 6 = some 80 := rr_lk hR rfl; have r76_7 : R 76 7 = some 81 := rr_lk hR rfl; have r76_9 : R 76 9 = some 82 := rr_lk hR rfl; have r76_10 : R 76 10 = some 83 := rr_lk hR rfl; have r76_12 : R 76 12 = some 84 := rr_lk hR rfl; have r76_13 : R 76 13 = some 85 := rr_lk hR rfl; have r76_19 : R 76 19 = some 86 := rr_lk hR rfl; have r76_20 : R 76 20 = some 87 := rr_lk hR rfl; have r76_21 : R 76 21 = some 88 := rr_lk hR rfl; have r76_22 : R 76 22 = some 89 := rr_lk hR rfl; have r76_24 : R 76 24 = some 90 := rr_lk hR rfl; have r76_25 : R 76 25 = some 91 := rr_lk hR rfl; have r76_26 : R 76 26 = some 92 := rr_lk hR rfl; have r76_28 : R 76 28 = some 93 := rr_lk hR rfl; have r76_29 : R 76 29 = some 94 := rr_lk hR rfl; have r76_30 : R 76 30 = some 95 := rr_lk hR rfl; have r76_31 : R 76 31 = some 96 := rr_lk hR rfl; have r76_32 : R 76 32 = some 97 := rr_lk hR rfl; have r76_36 : R 76 36 = some 98 := rr_lk hR rfl; have r76_38 : R 76 38 = some 99 := rr_lk hR rfl; have r76_39 : R 76 39 = some 100 := rr_lk hR rfl; have r76_40 : R 76 40 = some 101 := rr_lk hR rfl; have r76_41 : R 76 41 = some 102 := rr_lk hR rfl; have r76_42 : R 76 42 = some 103 := rr_lk hR rfl; have r76_47 : R 76 47 = some 104 := rr_lk hR rfl; have r76_53 : R 76 53 = some 105 := rr_lk hR rfl; have r76_54 : R 76 54 = some 106 := rr_lk hR rfl; have r76_55 : R 76 55 = some 107 := rr_lk hR rfl; have r76_56 : R 76 56 = some 108 := rr_lk hR rfl; have r76_57 : R 76 57 = some 109 := rr_lk hR rfl
  have h11 := INV_11 (z := 0) h
  obtain ⟨g1, g2, g3, ⟨g4, g5, g6⟩, ⟨g71, g72, g73⟩, g8, g9⟩ := h
  have e14 : mm_up J 76 11 0 76 14 = J 76 14 := up_j (by decide)
  rcases g73 with ⟨q1, q2⟩ | ⟨q1, ⟨u0, u1, u2, u3⟩, v0, v1, v2, v3, y0, y1, y2, y3, y4⟩
  · refine ⟨vi (-3), J, K, R, mm_up J 76 11 0, K, R, ?_, ?_, h11⟩
    · simp (disch := first | assumption | omega | exact bi_lo | exact bi_hi | exact bi_01 | exact jcmp_lo | exact jcmp_hi | exact (jor_r _ _).1 | exact (jor_r _ _).2 | exact (jand_r _ _).1 | exact (jand_r _ _).2) only [x123_0, x123_1, x123_4, x123_7, x123_9, kb_some, kb_none, clr_vi, clr_ref, clr_null, clr_none, va_rf_some, va_rf_none, ↓bi_ite_t, ↓bi_ite_f, ↓jc_lt_t, ↓jc_lt_f, ↓jc_gt_t, ↓jc_gt_f, ↓jc_le_t, ↓jc_le_f, ↓jc_ge_t, ↓jc_ge_f, ↓jc_eq_t, ↓jc_eq_f, ↓if_pos, ↓if_neg, g72, q1]
    · simp (disch := first | assumption | omega | exact bi_lo | exact bi_hi | exact bi_01 | exact jcmp_lo | exact jcmp_hi | exact (jor_r _ _).1 | exact (jor_r _ _).2 | exact (jand_r _ _).1 | exact (jand_r _ _).2) only [x145_0, x145_1, x145_2, x145_5, x145_6, x145_9, x145_12, x145_14, kb_some, kb_none, clr_vi, clr_ref, clr_null, clr_none, va_rf_some, va_rf_none, ↓bi_ite_t, ↓bi_ite_f, ↓jc_lt_t, ↓jc_lt_f, ↓jc_gt_t, ↓jc_gt_f, ↓jc_le_t, ↓jc_le_f, ↓jc_ge_t, ↓jc_ge_f, ↓jc_eq_t, ↓jc_eq_f, ↓if_pos, ↓if_neg, e14, q1]
  obtain ⟨J1, e1, f1, ⟨c1, c2⟩, ⟨c3, c4⟩, ⟨c5, c6⟩, ⟨c7, c8⟩⟩ := c_undone (L := L) (d := d + 17) (J := J) (K := K) hR (by omega) (by omega) (by omega) (by omega)
  have hB : isB (SH L) R 4 5 120 := ⟨rfl, rr_lk hR rfl, rfl, by decide, by decide, by decide⟩
  have e4 : J1 4 1 = J 85 0 := by rw [c1, u0]
  have hsz := fun d => c_size (d := d) (J := J1) (K := K) hB
  rw [e4] at hsz
  have e14' : mm_up J1 76 11 0 76 14 = 1 := by rw [up_j (by decide), f1 76 (by decide)]; exact q1
  have hca := fun d => m_carryAll (L := L) (d := d) (J := mm_up J1 76 11 0) (K := K) (t := 0) hR (Or.inr rfl) (Or.inl rfl)
  generalize hJ2 : csJ 0 85 (mm_up J1 76 11 0) 170 = J2 at hca
  have e85 : ∀ j, mm_up J1 76 11 0 85 j = J 85 j := fun j => by rw [up_ne (by decide), f1 85 (by decide)]
  have kk : ∀ a, (a < 76 ∨ 83 < a) → ¬ (3 < a ∧ a ≤ 14) → J2 a = J a := fun a q1 q2 => by
    funext j; rw [← hJ2, rs_o (by rw [idx_X q1]; omega) (by omega), up_ne (by omega), f1 a q2]
  have kn : ∀ a, (3 < a ∧ a ≤ 14) → J2 a = J1 a := fun a q => by
    funext j; rw [← hJ2, rs_o (by rw [idx_X (by omega)]; omega) (by omega), up_ne (by omega)]
  have k : ∀ j, ¬ idx 76 j < 170 → j ≠ 11 → j ≠ 15 → j ≠ 16 → J2 76 j = J 76 j := fun j q1 q2 q3 q4 => by
    rw [← hJ2, rs_o q1 (by omega), up_j q2, f1 76 (by decide)]
  have rs : ∀ {a j p : Nat}, idx a j = p → p < 170 → J2 a j = J 85 p := fun {a j p} q1 q2 => by
    rw [← hJ2, rs_at q1 q2, e85]
  have s0 := rs (a := 76) (j := 1) (p := 0) (by decide) (by omega)
  have s1 := rs (a := 76) (j := 2) (p := 1) (by decide) (by omega)
  have s2' := rs (a := 76) (j := 5) (p := 2) (by decide) (by omega)
  have s3' := rs (a := 76) (j := 8) (p := 3) (by decide) (by omega)
  have hi : INV J2 K (mm_up R 76 17 (some 85)) := by
    refine ⟨wfR_up hR rfl, ⟨?_, ?_, fun i hi => ?_⟩, IT_o g3 (by rw [kk 27 (by decide) (by decide)]) (kk 28 (by decide) (by decide)) (k 43 (by decide) (by decide) (by decide) (by decide)) (kk 103 (by decide) (by decide)), ⟨⟨?_, ?_, fun i hi => ⟨?_, ?_⟩⟩, ⟨?_, ?_, fun i hi => ⟨?_, ?_⟩⟩, ⟨?_, ?_, fun i hi => ⟨?_, ?_⟩⟩⟩, IG_o ⟨g71, g72, Or.inr ⟨q1, ⟨u0, u1, u2, u3⟩, v0, v1, v2, v3, y0, y1, y2, y3, y4⟩⟩ ⟨kk 1 (by decide) (by decide), by rw [kk 2 (by decide) (by decide)]⟩ (k 14 (by decide) (by decide) (by decide) (by decide)) (kk 85 (by decide) (by decide)) (fun a q1 q2 => kk a (by omega) (by omega)), IX_o g8 (fun a q1 q2 => kk a (by omega) (by omega)), IK_o g9 (fun a q1 q2 => kk a (by omega) (by omega)) (kk 105 (by decide) (by decide)) (kk 106 (by decide) (by decide)) (kk 109 (by decide) (by decide))⟩
    · rw [kn 4 (by decide), e4, s0]
    · rw [s0]; exact v0
    · have o5 := (g2.2.2 i hi).1
      have y1' := y1 i hi
      rw [kn 5 (by decide), c2, rs (ix77 hi) (by omega), s0, u0]
      by_cases c : (i : Int) < J 85 0
      · have := y0 i c
        rw [if_pos c]
        exact ⟨by omega, y1', fun _ => this⟩
      · rw [if_neg c]
        exact ⟨o5, y1', fun q => absurd q c⟩
    · rw [kn 6 (by decide), c3, s1, u1]
    · rw [s1]; exact v1
    · rw [s1] at hi
      have q := y2 i hi
      rw [kn 7 (by decide), (c4 i (by omega)).1, rs (ix78 (by omega)) (by omega)]
      exact ⟨q.1.1, by omega, by omega⟩
    · rw [s1] at hi
      have q := y2 i hi
      rw [kn 8 (by decide), (c4 i (by omega)).2, rs (ix79 (by omega)) (by omega)]
      exact ⟨q.2.1, by omega, by omega⟩
    · rw [kn 9 (by decide), c5, s2', u2]
    · rw [s2']; exact v2
    · rw [s2'] at hi
      have q := y3 i hi
      rw [kn 10 (by decide), (c6 i (by omega)).1, rs (ix80 (by omega)) (by omega)]
      exact ⟨q.1.1, by omega, by omega⟩
    · rw [s2'] at hi
      have q := y3 i hi
      rw [kn 11 (by decide), (c6 i (by omega)).2, rs (ix81 (by omega)) (by omega)]
      exact ⟨q.2.1, by omega, by omega⟩
    · rw [kn 12 (by decide), c7, s3', u3]
    · rw [s3']; exact v3
    · rw [s3'] at hi
      have q := y4 i hi
      rw [kn 13 (by decide), (c8 i (by omega)).1, rs (ix82 (by omega)) (by omega)]
      exact ⟨q.1.1, by omega, by omega⟩
    · rw [s3'] at hi
      have q := y4 i hi
      rw [kn 14 (by decide), (c8 i (by omega)).2, rs (ix83 (by omega)) (by omega)]
      exact ⟨q.2.1, by omega, by omega⟩
  refine ⟨vi (J 85 0), J1, K, R, J2, K, mm_up R 76 17 (some 85), ?_, ?_, hi⟩
  · simp (disch := first | assumption | omega | exact bi_lo | exact bi_hi | exact bi_01 | exact jcmp_lo | exact jcmp_hi | exact (jor_r _ _).1 | exact (jor_r _ _).2 | exact (jand_r _ _).1 | exact (jand_r _ _).2) only [x123_0, x123_1, x123_4, x123_7, x123_9, x123_10, x123_11, x123_14, x123_15, x123_18, x123_21, x123_22, x123_25, x123_28, x123_31, kb_some, kb_none, clr_vi, clr_ref, clr_null, clr_none, va_rf_some, va_rf_none, ↓bi_ite_t, ↓bi_ite_f, ↓jc_lt_t, ↓jc_lt_f, ↓jc_gt_t, ↓jc_gt_f, ↓jc_le_t, ↓jc_le_f, ↓jc_ge_t, ↓jc_ge_f, ↓jc_eq_t, ↓jc_eq_f, ↓if_pos, ↓if_neg, g72, q1, e1, hsz]
  · simp (disch := first | assumption | omega | exact bi_lo | exact bi_hi | exact bi_01 | exact jcmp_lo | exact jcmp_hi | exact (jor_r _ _).1 | exact (jor_r _ _).2 | exact (jand_r _ _).1 | exact (jand_r _ _).2) only [x145_0, x145_1, x145_2, x145_5, x145_6, x145_9, x145_12, x145_14, x145_15, x145_16, x145_17, x145_20, x145_21, x145_24, x145_25, x145_28, kb_some, kb_none, clr_vi, clr_ref, clr_null, clr_none, va_rf_some, va_rf_none, ↓bi_ite_t, ↓bi_ite_f, ↓jc_lt_t, ↓jc_lt_f, ↓jc_gt_t, ↓jc_gt_f, ↓jc_le_t, ↓jc_le_f, ↓jc_ge_t, ↓jc_ge_f, ↓jc_eq_t, ↓jc_eq_f, ↓if_pos, ↓if_neg, e14', hca, s0]
end
