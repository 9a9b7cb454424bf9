/-! the reference reads a text: small steps -/
def mt (J : mJ) (p : Int) : Int := if 0 ≤ p ∧ p < J 76 43 then J 103 p.toNat else -1
def MT (t : Int → Int) (J : mJ) (R : mm_R) : Prop := wfR R ∧ (0 ≤ J 76 43 ∧ J 76 43 ≤ 100) ∧ (∀ i, i < 100 → 0 ≤ J 103 i ∧ J 103 i ≤ 127) ∧ mt J = t
def st (J : mJ) (b p : Int) : mJ := mm_up (mm_up J 76 45 b) 76 44 p
section
variable {t : Int → Int} {J : mJ} {R : mm_R} {p b b' p' x : Int}
theorem st_st : st (st J b p) b' p' = st J b' p' := by
  funext a j
  unfold st mm_up
  repeat' split
  all_goals first | rfl | omega
theorem st_o {a j : Nat} (h : ¬ (a = 76 ∧ (j = 44 ∨ j = 45))) : st J b p a j = J a j := by
  unfold st mm_up; rw [if_neg (by omega), if_neg (by omega)]
theorem st_a {a : Nat} (h : a ≠ 76) : st J b p a = J a := by funext j; exact st_o (by omega)
theorem st_44 : st J b p 76 44 = p := by simp [st, mm_up]
theorem st_45 : st J b p 76 45 = b := by simp [st, mm_up]
theorem st_p : mm_up (st J b p) 76 44 p' = st J b p' := by
  funext a j; unfold st mm_up
  repeat' split
  all_goals first | rfl | omega
theorem st_b : mm_up (st J b p) 76 45 b' = st J b' p := by
  funext a j; unfold st mm_up
  repeat' split
  all_goals first | rfl | omega
theorem st_up {a j : Nat} {v : Int} (h : ¬ (a = 76 ∧ (j = 44 ∨ j = 45))) : mm_up (st J b p) a j v = st (mm_up J a j v) b p := by
  funext a' j'; unfold st mm_up
  repeat' split
  all_goals first | rfl | omega
theorem MT_o {J' : mJ} (h : MT t J R) (h1 : J' 76 43 = J 76 43) (h2 : J' 103 = J 103) : MT t J' R := by
  obtain ⟨u1, u2, u3, u4⟩ := h
  refine ⟨u1, by rw [h1]; exact u2, by rw [h2]; exact u3, ?_⟩
  rw [← u4]; funext p; unfold mt; rw [h1, h2]
theorem MT_st (h : MT t J R) : MT t (st J b p) R := MT_o h (st_o (by decide)) (st_a (by decide))
theorem MT_r (h : MT t J R) : -1 ≤ t p ∧ t p ≤ 127 := by
  obtain ⟨u1, u2, u3, u4⟩ := h
  rw [← u4]; unfold mt
  split
  · have := u3 p.toNat (by omega); omega
  · omega
theorem MT_N (h : MT t J R) : TN t (J 76 43) := by
  intro p hp
  rw [← h.2.2.2]; unfold mt
  rw [if_neg (by omega)]
theorem MT_at (h : MT t J R) (h0 : 0 ≤ p) (h1 : p < J 76 43) : J 103 p.toNat = t p := by
  rw [← h.2.2.2]; unfold mt
  rw [if_pos ⟨h0, h1⟩]
end
section
variable {L d : Nat} {t : Int → Int} {J K : mJ} {R : mm_R} {p x y b : Int}
theorem mx_here (h : MT t J R) (hp : 0 ≤ p ∧ p ≤ J 76 43) : EE d 174 0 [some (.ref 76)] [] (SH L) (st J b p) K R = ok (some (vi (t p))) (SH L) (st J b p) K R := by
  have hR := h.1
  have hn := h.2.1
  have s76 : (SH L)[76]? = some (11, 58) := rfl; have r76_0 : R 76 0 = some 77 := rr_lk hR rfl; have r76_3 : R 76 3 = some 78 := rr_lk hR rfl; have r76_4 : R 76 4 = some 79 := rr_lk hR rfl; have r76_6 : R 76 6 = some 80 := rr_lk hR rfl; have r76_7 : R 76 7 = some 81 := rr_lk hR rfl; have r76_9 : R 76 9 = some 82 := rr_lk hR rfl; have r76_10 : R 76 10 = some 83 := rr_lk hR rfl; have r76_12 : R 76 12 = some 84 := rr_lk hR rfl; have r76_13 : R 76 13 = some 85 := rr_lk hR rfl; have r76_19 : R 76 19 = some 86 := rr_lk hR rfl; have r76_20 : R 76 20 = some 87 := rr_lk hR rfl; have r76_21 : R 76 21 = some 88 := rr_lk hR rfl; have r76_22 : R 76 22 = some 89 := rr_lk hR rfl; have r76_24 : R 76 24 = some 90 := rr_lk hR rfl; have r76_25 : R 76 25 = some 91 := rr_lk hR rfl; have r76_26 : R 76 26 = some 92 := rr_lk hR rfl; have r76_28 : R 76 28 = some 93 := rr_lk hR rfl; have r76_29 : R 76 29 = some 94 := rr_lk hR rfl; have r76_30 : R 76 30 = some 95 := rr_lk hR rfl; have r76_31 : R 76 31 = some 96 := rr_lk hR rfl; have r76_32 : R 76 32 = some 97 := rr_lk hR rfl; have r76_36 : R 76 36 = some 98 := rr_lk hR rfl; have r76_38 : R 76 38 = some 99 := rr_lk hR rfl; have r76_39 : R 76 39 = some 100 := rr_lk hR rfl; have r76_40 : R 76 40 = some 101 := rr_lk hR rfl; have r76_41 : R 76 41 = some 102 := rr_lk hR rfl; have r76_42 : R 76 42 = some 103 := rr_lk hR rfl; have r76_47 : R 76 47 = some 104 := rr_lk hR rfl; have r76_53 : R 76 53 = some 105 := rr_lk hR rfl; have r76_54 : R 76 54 = some 106 := rr_lk hR rfl; have r76_55 : R 76 55 = some 107 := rr_lk hR rfl; have r76_56 : R 76 56 = some 108 := rr_lk hR rfl; have r76_57 : R 76 57 = some 109 := rr_lk hR rfl; have s103 : (SH L)[103]? = some (20, 100) := rfl
  have e43 : st J b p 76 43 = J 76 43 := st_o (by decide)
  have e103 : st J b p 103 = J 103 := st_a (by decide)
  by_cases c : J 76 43 ≤ p
  · rw [MT_N h p c]
    simp (disch := first | assumption | omega | exact bi_lo | exact bi_hi | exact bi_01 | exact jcmp_lo | exact jcmp_hi | exact (jor_r _ _).1 | exact (jor_r _ _).2 | exact (jand_r _ _).1 | exact (jand_r _ _).2) only [x174_0, x174_1, x174_4, x174_5, x174_8, x174_11, x174_12, x174_15, x174_16, x174_19, x174_20, x174_23, x174_24, kb_some, kb_none, clr_vi, clr_ref, clr_null, clr_none, va_rf_some, va_rf_none, ↓bi_ite_t, ↓bi_ite_f, ↓jc_lt_t, ↓jc_lt_f, ↓jc_gt_t, ↓jc_gt_f, ↓jc_le_t, ↓jc_le_f, ↓jc_ge_t, ↓jc_ge_f, ↓jc_eq_t, ↓jc_eq_f, ↓if_pos, ↓if_neg, st_44, e43]
  · have ha := MT_at h hp.1 (show p < J 76 43 by omega)
    simp (disch := first | assumption | omega | exact bi_lo | exact bi_hi | exact bi_01 | exact jcmp_lo | exact jcmp_hi | exact (jor_r _ _).1 | exact (jor_r _ _).2 | exact (jand_r _ _).1 | exact (jand_r _ _).2) only [x174_0, x174_1, x174_4, x174_5, x174_8, x174_11, x174_12, x174_15, x174_16, x174_19, x174_20, x174_23, x174_24, kb_some, kb_none, clr_vi, clr_ref, clr_null, clr_none, va_rf_some, va_rf_none, ↓bi_ite_t, ↓bi_ite_f, ↓jc_lt_t, ↓jc_lt_f, ↓jc_gt_t, ↓jc_gt_f, ↓jc_le_t, ↓jc_le_f, ↓jc_ge_t, ↓jc_ge_f, ↓jc_eq_t, ↓jc_eq_f, ↓if_pos, ↓if_neg, st_44, e43, e103, ha]
theorem mx_isL (h : MT t J R) (hx : 0 ≤ x ∧ x ≤ 1000) : EE (d + 1) 175 0 [some (.ref 76), some (vi x)] [] (SH L) (st J b p) K R = ok (some (vi (bi (isL (t x))))) (SH L) (st J b p) K R := by
  have hR := h.1
  have hn := h.2.1
  have s76 : (SH L)[76]? = some (11, 58) := rfl; have r76_0 : R 76 0 = some 77 := rr_lk hR rfl; have r76_3 : R 76 3 = some 78 := rr_lk hR rfl; have r76_4 : R 76 4 = some 79 := rr_lk hR rfl; have r76_6 : R 76 6 = some 80 := rr_lk hR rfl; have r76_7 : R 76 7 = some 81 := rr_lk hR rfl; have r76_9 : R 76 9 = some 82 := rr_lk hR rfl; have r76_10 : R 76 10 = some 83 := rr_lk hR rfl; have r76_12 : R 76 12 = some 84 := rr_lk hR rfl; have r76_13 : R 76 13 = some 85 := rr_lk hR rfl; have r76_19 : R 76 19 = some 86 := rr_lk hR rfl; have r76_20 : R 76 20 = some 87 := rr_lk hR rfl; have r76_21 : R 76 21 = some 88 := rr_lk hR rfl; have r76_22 : R 76 22 = some 89 := rr_lk hR rfl; have r76_24 : R 76 24 = some 90 := rr_lk hR rfl; have r76_25 : R 76 25 = some 91 := rr_lk hR rfl; have r76_26 : R 76 26 = some 92 := rr_lk hR rfl; have r76_28 : R 76 28 = some 93 := rr_lk hR rfl; have r76_29 : R 76 29 = some 94 := rr_lk hR rfl; have r76_30 : R 76 30 = some 95 := rr_lk hR rfl; have r76_31 : R 76 31 = some 96 := rr_lk hR rfl; have r76_32 : R 76 32 = some 97 := rr_lk hR rfl; have r76_36 : R 76 36 = some 98 := rr_lk hR rfl; have r76_38 : R 76 38 = some 99 := rr_lk hR rfl; have r76_39 : R 76 39 = some 100 := rr_lk hR rfl; have r76_40 : R 76 40 = some 101 := rr_lk hR rfl; have r76_41 : R 76 41 = some 102 := rr_lk hR rfl; have r76_42 : R 76 42 = some 103 := rr_lk hR rfl; have r76_47 : R 76 47 = some 104 := rr_lk hR rfl; have r76_53 : R 76 53 = some 105 := rr_lk hR rfl; have r76_54 : R 76 54 = some 106 := rr_lk hR rfl; have r76_55 : R 76 55 = some 107 := rr_lk hR rfl; have r76_56 : R 76 56 = some 108 := rr_lk hR rfl; have r76_57 : R 76 57 = some 109 := rr_lk hR rfl; have s103 : (SH L)[103]? = some (20, 100) := rfl
  have e43 : st J b p 76 43 = J 76 43 := st_o (by decide)
  have e103 : st J b p 103 = J 103 := st_a (by decide)
  by_cases c : J 76 43 ≤ x
  · have := MT_N h x c
    rw [bi_f (by omega)]
    simp (disch := first | assumption | omega | exact bi_lo | exact bi_hi | exact bi_01 | exact jcmp_lo | exact jcmp_hi | exact (jor_r _ _).1 | exact (jor_r _ _).2 | exact (jand_r _ _).1 | exact (jand_r _ _).2) only [x175_0, x175_1, x175_2, x175_5, x175_8, x175_9, x175_12, x175_13, x175_14, x175_15, x175_18, x175_21, x175_24, x175_27, x175_28, x175_31, x175_32, kb_some, kb_none, clr_vi, clr_ref, clr_null, clr_none, va_rf_some, va_rf_none, ↓bi_ite_t, ↓bi_ite_f, ↓jc_lt_t, ↓jc_lt_f, ↓jc_gt_t, ↓jc_gt_f, ↓jc_le_t, ↓jc_le_f, ↓jc_ge_t, ↓jc_ge_f, ↓jc_eq_t, ↓jc_eq_f, ↓if_pos, ↓if_neg, e43]
  · have ha := MT_at h hx.1 (show x < J 76 43 by omega)
    have hr := MT_r (p := x) h
    have hin := m_in (d := d) (S := SH L) (J := st J b p) (K := K) (R := R) (x := t x) (y := 97) (z := 122) (by omega) (by omega) (by omega)
    by_cases c2 : isL (t x)
    · rw [bi_t c2]
      rw [bi_t c2] at hin
      simp (disch := first | assumption | omega | exact bi_lo | exact bi_hi | exact bi_01 | exact jcmp_lo | exact jcmp_hi | exact (jor_r _ _).1 | exact (jor_r _ _).2 | exact (jand_r _ _).1 | exact (jand_r _ _).2) only [x175_0, x175_1, x175_2, x175_5, x175_8, x175_9, x175_12, x175_13, x175_14, x175_15, x175_18, x175_21, x175_24, x175_27, x175_28, x175_31, x175_32, kb_some, kb_none, clr_vi, clr_ref, clr_null, clr_none, va_rf_some, va_rf_none, ↓bi_ite_t, ↓bi_ite_f, ↓jc_lt_t, ↓jc_lt_f, ↓jc_gt_t, ↓jc_gt_f, ↓jc_le_t, ↓jc_le_f, ↓jc_ge_t, ↓jc_ge_f, ↓jc_eq_t, ↓jc_eq_f, ↓if_pos, ↓if_neg, e43, e103, ha, hin]
    · rw [bi_f c2]
      rw [bi_f c2] at hin
      simp (disch := first | assumption | omega | exact bi_lo | exact bi_hi | exact bi_01 | exact jcmp_lo | exact jcmp_hi | exact (jor_r _ _).1 | exact (jor_r _ _).2 | exact (jand_r _ _).1 | exact (jand_r _ _).2) only [x175_0, x175_1, x175_2, x175_5, x175_8, x175_9, x175_12, x175_13, x175_14, x175_15, x175_18, x175_21, x175_24, x175_27, x175_28, x175_31, x175_32, kb_some, kb_none, clr_vi, clr_ref, clr_null, clr_none, va_rf_some, va_rf_none, ↓bi_ite_t, ↓bi_ite_f, ↓jc_lt_t, ↓jc_lt_f, ↓jc_gt_t, ↓jc_gt_f, ↓jc_le_t, ↓jc_le_f, ↓jc_ge_t, ↓jc_ge_f, ↓jc_eq_t, ↓jc_eq_f, ↓if_pos, ↓if_neg, e43, e103, ha, hin]
theorem mx_isWord (h : MT t J R) (hp : 0 ≤ p ∧ p ≤ J 76 43) {a b' c : Int} (hL : isL a ∧ isL b' ∧ isL c) : EE (d + 2) 176 0 [some (.ref 76), some (vi a), some (vi b'), some (vi c)] [] (SH L) (st J b p) K R = ok (some (vi (bi (wd3 t p a b' c)))) (SH L) (st J b p) K R := by
  have hR := h.1
  have hn := h.2.1
  have hN := MT_N h
  have s76 : (SH L)[76]? = some (11, 58) := rfl; have r76_0 : R 76 0 = some 77 := rr_lk hR rfl; have r76_3 : R 76 3 = some 78 := rr_lk hR rfl; have r76_4 : R 76 4 = some 79 := rr_lk hR rfl; have r76_6 : R 76 6 = some 80 := rr_lk hR rfl; have r76_7 : R 76 7 = some 81 := rr_lk hR rfl; have r76_9 : R 76 9 = some 82 := rr_lk hR rfl; have r76_10 : R 76 10 = some 83 := rr_lk hR rfl; have r76_12 : R 76 12 = some 84 := rr_lk hR rfl; have r76_13 : R 76 13 = some 85 := rr_lk hR rfl; have r76_19 : R 76 19 = some 86 := rr_lk hR rfl; have r76_20 : R 76 20 = some 87 := rr_lk hR rfl; have r76_21 : R 76 21 = some 88 := rr_lk hR rfl; have r76_22 : R 76 22 = some 89 := rr_lk hR rfl; have r76_24 : R 76 24 = some 90 := rr_lk hR rfl; have r76_25 : R 76 25 = some 91 := rr_lk hR rfl; have r76_26 : R 76 26 = some 92 := rr_lk hR rfl; have r76_28 : R 76 28 = some 93 := rr_lk hR rfl; have r76_29 : R 76 29 = some 94 := rr_lk hR rfl; have r76_30 : R 76 30 = some 95 := rr_lk hR rfl; have r76_31 : R 76 31 = some 96 := rr_lk hR rfl; have r76_32 : R 76 32 = some 97 := rr_lk hR rfl; have r76_36 : R 76 36 = some 98 := rr_lk hR rfl; have r76_38 : R 76 38 = some 99 := rr_lk hR rfl; have r76_39 : R 76 39 = some 100 := rr_lk hR rfl; have r76_40 : R 76 40 = some 101 := rr_lk hR rfl; have r76_41 : R 76 41 = some 102 := rr_lk hR rfl; have r76_42 : R 76 42 = some 103 := rr_lk hR rfl; have r76_47 : R 76 47 = some 104 := rr_lk hR rfl; have r76_53 : R 76 53 = some 105 := rr_lk hR rfl; have r76_54 : R 76 54 = some 106 := rr_lk hR rfl; have r76_55 : R 76 55 = some 107 := rr_lk hR rfl; have r76_56 : R 76 56 = some 108 := rr_lk hR rfl; have r76_57 : R 76 57 = some 109 := rr_lk hR rfl; have s103 : (SH L)[103]? = some (20, 100) := rfl
  have e43 : st J b p 76 43 = J 76 43 := st_o (by decide)
  have e103 : st J b p 103 = J 103 := st_a (by decide)
  by_cases c0 : J 76 43 < p + 3
  · rw [bi_f (fun q => by have := wd3_lt hN q (by omega); omega)]
    simp (disch := first | assumption | omega | exact bi_lo | exact bi_hi | exact bi_01 | exact jcmp_lo | exact jcmp_hi | exact (jor_r _ _).1 | exact (jor_r _ _).2 | exact (jand_r _ _).1 | exact (jand_r _ _).2) only [x176_0, x176_1, x176_4, x176_5, x176_6, x176_7, x176_10, x176_13, x176_14, x176_17, x176_18, x176_21, x176_22, x176_23, x176_26, x176_27, x176_30, x176_31, x176_34, x176_35, x176_36, x176_37, x176_38, x176_41, x176_42, x176_45, x176_46, x176_49, x176_50, x176_51, x176_52, x176_53, x176_56, x176_57, x176_58, x176_61, x176_62, x176_63, x176_66, x176_69, x176_70, x176_73, x176_74, kb_some, kb_none, clr_vi, clr_ref, clr_null, clr_none, va_rf_some, va_rf_none, ↓bi_ite_t, ↓bi_ite_f, ↓jc_lt_t, ↓jc_lt_f, ↓jc_gt_t, ↓jc_gt_f, ↓jc_le_t, ↓jc_le_f, ↓jc_ge_t, ↓jc_ge_f, ↓jc_eq_t, ↓jc_eq_f, ↓if_pos, ↓if_neg, e43, st_44]
  · have a0 := MT_at h hp.1 (show p < J 76 43 by omega)
    have a1 := MT_at h (p := p + 1) (by omega) (by omega)
    have a2 := MT_at h (p := p + 2) (by omega) (by omega)
    have r0 := MT_r (p := p) h
    have r1 := MT_r (p := p + 1) h
    have r2 := MT_r (p := p + 2) h
    have hl := mx_isL (L := L) (d := d) (b := b) (p := p) (K := K) h (x := p + 3) (by omega)
    by_cases c1 : t p = a
    · by_cases c2 : t (p + 1) = b'
      · by_cases c3 : t (p + 2) = c
        · by_cases c4 : isL (t (p + 3))
          · rw [bi_f (fun q => q.2.2.2 c4)]
            rw [bi_t c4] at hl
            simp (disch := first | assumption | omega | exact bi_lo | exact bi_hi | exact bi_01 | exact jcmp_lo | exact jcmp_hi | exact (jor_r _ _).1 | exact (jor_r _ _).2 | exact (jand_r _ _).1 | exact (jand_r _ _).2) only [x176_0, x176_1, x176_4, x176_5, x176_6, x176_7, x176_10, x176_13, x176_14, x176_17, x176_18, x176_21, x176_22, x176_23, x176_26, x176_27, x176_30, x176_31, x176_34, x176_35, x176_36, x176_37, x176_38, x176_41, x176_42, x176_45, x176_46, x176_49, x176_50, x176_51, x176_52, x176_53, x176_56, x176_57, x176_58, x176_61, x176_62, x176_63, x176_66, x176_69, x176_70, x176_73, x176_74, kb_some, kb_none, clr_vi, clr_ref, clr_null, clr_none, va_rf_some, va_rf_none, ↓bi_ite_t, ↓bi_ite_f, ↓jc_lt_t, ↓jc_lt_f, ↓jc_gt_t, ↓jc_gt_f, ↓jc_le_t, ↓jc_le_f, ↓jc_ge_t, ↓jc_ge_f, ↓jc_eq_t, ↓jc_eq_f, ↓if_pos, ↓if_neg, e43, e103, st_44, a0, a1, a2, hl]
          · rw [bi_t ⟨c1, c2, c3, c4⟩]
            rw [bi_f c4] at hl
            simp (disch := first | assumption | omega | exact bi_lo | exact bi_hi | exact bi_01 | exact jcmp_lo | exact jcmp_hi | exact (jor_r _ _).1 | exact (jor_r _ _).2 | exact (jand_r _ _).1 | exact (jand_r _ _).2) only [x176_0, x176_1, x176_4, x176_5, x176_6, x176_7, x176_10, x176_13, x176_14, x176_17, x176_18, x176_21, x176_22, x176_23, x176_26, x176_27, x176_30, x176_31, x176_34, x176_35, x176_36, x176_37, x176_38, x176_41, x176_42, x176_45, x176_46, x176_49, x176_50, x176_51, x176_52, x176_53, x176_56, x176_57, x176_58, x176_61, x176_62, x176_63, x176_66, x176_69, x176_70, x176_73, x176_74, kb_some, kb_none, clr_vi, clr_ref, clr_null, clr_none, va_rf_some, va_rf_none, ↓bi_ite_t, ↓bi_ite_f, ↓jc_lt_t, ↓jc_lt_f, ↓jc_gt_t, ↓jc_gt_f, ↓jc_le_t, ↓jc_le_f, ↓jc_ge_t, ↓jc_ge_f, ↓jc_eq_t, ↓jc_eq_f, ↓if_pos, ↓if_neg, e43, e103, st_44, a0, a1, a2, hl]
        · rw [bi_f (fun q => c3 q.2.2.1)]
          simp (disch := first | assumption | omega | exact bi_lo | exact bi_hi | exact bi_01 | exact jcmp_lo | exact jcmp_hi | exact (jor_r _ _).1 | exact (jor_r _ _).2 | exact (jand_r _ _).1 | exact (jand_r _ _).2) only [x176_0, x176_1, x176_4, x176_5, x176_6, x176_7, x176_10, x176_13, x176_14, x176_17, x176_18, x176_21, x176_22, x176_23, x176_26, x176_27, x176_30, x176_31, x176_34, x176_35, x176_36, x176_37, x176_38, x176_41, x176_42, x176_45, x176_46, x176_49, x176_50, x176_51, x176_52, x176_53, x176_56, x176_57, x176_58, x176_61, x176_62, x176_63, x176_66, x176_69, x176_70, x176_73, x176_74, kb_some, kb_none, clr_vi, clr_ref, clr_null, clr_none, va_rf_some, va_rf_none, ↓bi_ite_t, ↓bi_ite_f, ↓jc_lt_t, ↓jc_lt_f, ↓jc_gt_t, ↓jc_gt_f, ↓jc_le_t, ↓jc_le_f, ↓jc_ge_t, ↓jc_ge_f, ↓jc_eq_t, ↓jc_eq_f, ↓if_pos, ↓if_neg, e43, e103, st_44, a0, a1, a2]
      · rw [bi_f (fun q => c2 q.2.1)]
        simp (disch := first | assumption | omega | exact bi_lo | exact bi_hi | exact bi_01 | exact jcmp_lo | exact jcmp_hi | exact (jor_r _ _).1 | exact (jor_r _ _).2 | exact (jand_r _ _).1 | exact (jand_r _ _).2) only [x176_0, x176_1, x176_4, x176_5, x176_6, x176_7, x176_10, x176_13, x176_14, x176_17, x176_18, x176_21, x176_22, x176_23, x176_26, x176_27, x176_30, x176_31, x176_34, x176_35, x176_36, x176_37, x176_38, x176_41, x176_42, x176_45, x176_46, x176_49, x176_50, x176_51, x176_52, x176_53, x176_56, x176_57, x176_58, x176_61, x176_62, x176_63, x176_66, x176_69, x176_70, x176_73, x176_74, kb_some, kb_none, clr_vi, clr_ref, clr_null, clr_none, va_rf_some, va_rf_none, ↓bi_ite_t, ↓bi_ite_f, ↓jc_lt_t, ↓jc_lt_f, ↓jc_gt_t, ↓jc_gt_f, ↓jc_le_t, ↓jc_le_f, ↓jc_ge_t, ↓jc_ge_f, ↓jc_eq_t, ↓jc_eq_f, ↓if_pos, ↓if_neg, e43, e103, st_44, a0, a1]
    · rw [bi_f (fun q => c1 q.1)]
      simp (disch := first | assumption | omega | exact bi_lo | exact bi_hi | exact bi_01 | exact jcmp_lo | exact jcmp_hi | exact (jor_r _ _).1 | exact (jor_r _ _).2 | exact (jand_r _ _).1 | exact (jand_r _ _).2) only [x176_0, x176_1, x176_4, x176_5, x176_6, x176_7, x176_10, x176_13, x176_14, x176_17, x176_18, x176_21, x176_22, x176_23, x176_26, x176_27, x176_30, x176_31, x176_34, x176_35, x176_36, x176_37, x176_38, x176_41, x176_42, x176_45, x176_46, x176_49, x176_50, x176_51, x176_52, x176_53, x176_56, x176_57, x176_58, x176_61, x176_62, x176_63, x176_66, x176_69, x176_70, x176_73, x176_74, kb_some, kb_none, clr_vi, clr_ref, clr_null, clr_none, va_rf_some, va_rf_none, ↓bi_ite_t, ↓bi_ite_f, ↓jc_lt_t, ↓jc_lt_f, ↓jc_gt_t, ↓jc_gt_f, ↓jc_le_t, ↓jc_le_f, ↓jc_ge_t, ↓jc_ge_f, ↓jc_eq_t, ↓jc_eq_f, ↓if_pos, ↓if_neg, e43, e103, st_44, a0]
theorem mx_wants (h : MT t J R) (hp : 0 ≤ p ∧ p ≤ J 76 43) (hy : 0 ≤ y ∧ y ≤ 127) : EE (d + 1) 177 0 [some (.ref 76), some (vi y)] [] (SH L) (st J 0 p) K R = ok none (SH L) (if t p = y then st J 0 (p + 1) else st J 1 p) K R := by
  have s76 : (SH L)[76]? = some (11, 58) := rfl
  have hh := mx_here (L := L) (d := d) (b := 0) (K := K) h hp
  have hr := MT_r (p := p) h
  by_cases c : t p = y
  · rw [if_pos c]
    simp (disch := first | assumption | omega | exact bi_lo | exact bi_hi | exact bi_01 | exact jcmp_lo | exact jcmp_hi | exact (jor_r _ _).1 | exact (jor_r _ _).2 | exact (jand_r _ _).1 | exact (jand_r _ _).2) only [x177_0, x177_1, x177_2, x177_5, x177_8, x177_9, x177_12, x177_13, x177_16, x177_17, x177_20, x177_21, x177_24, x177_25, x177_26, x177_29, x177_30, x177_33, x177_36, x177_37, x177_40, x177_41, x177_42, x177_45, kb_some, kb_none, clr_vi, clr_ref, clr_null, clr_none, va_rf_some, va_rf_none, ↓bi_ite_t, ↓bi_ite_f, ↓jc_lt_t, ↓jc_lt_f, ↓jc_gt_t, ↓jc_gt_f, ↓jc_le_t, ↓jc_le_f, ↓jc_ge_t, ↓jc_ge_f, ↓jc_eq_t, ↓jc_eq_f, ↓if_pos, ↓if_neg, st_45, st_44, hh, st_b, st_p, Int.add_zero]
  · rw [if_neg c]
    simp (disch := first | assumption | omega | exact bi_lo | exact bi_hi | exact bi_01 | exact jcmp_lo | exact jcmp_hi | exact (jor_r _ _).1 | exact (jor_r _ _).2 | exact (jand_r _ _).1 | exact (jand_r _ _).2) only [x177_0, x177_1, x177_2, x177_5, x177_8, x177_9, x177_12, x177_13, x177_16, x177_17, x177_20, x177_21, x177_24, x177_25, x177_26, x177_29, x177_30, x177_33, x177_36, x177_37, x177_40, x177_41, x177_42, x177_45, kb_some, kb_none, clr_vi, clr_ref, clr_null, clr_none, va_rf_some, va_rf_none, ↓bi_ite_t, ↓bi_ite_f, ↓jc_lt_t, ↓jc_lt_f, ↓jc_gt_t, ↓jc_gt_f, ↓jc_le_t, ↓jc_le_f, ↓jc_ge_t, ↓jc_ge_f, ↓jc_eq_t, ↓jc_eq_f, ↓if_pos, ↓if_neg, st_45, st_44, hh, st_b, st_p, Int.add_zero]
theorem l_mdigits (h : MT t J R) {x1 : Int} (hx1 : 0 ≤ x1 ∧ x1 ≤ 9) : ∀ (m : Nat) (k p v : Int), (x1 - k).toNat = m → 0 ≤ k ∧ k ≤ x1 → 0 ≤ p → p ≤ J 76 43 →
    EE (d + 1) 179 37 [some (.ref 76), some (vi x1), some (vi v), some (vi k)] [] (SH L) (st J 0 p) K R = ok (some (vi (dg t m p v).1)) (SH L) (st J 0 (dg t m p v).2) K R := by
  have s76 : (SH L)[76]? = some (11, 58) := rfl
  have hn := h.2.1
  intro m
  induction m with
  | zero =>
    intro k p v hm hk hp0 hp
    simp (disch := first | assumption | omega | exact bi_lo | exact bi_hi | exact bi_01 | exact jcmp_lo | exact jcmp_hi | exact (jor_r _ _).1 | exact (jor_r _ _).2 | exact (jand_r _ _).1 | exact (jand_r _ _).2) only [x179_37, x179_38, x179_39, x179_95, x179_96, kb_some, kb_none, clr_vi, clr_ref, clr_null, clr_none, va_rf_some, va_rf_none, ↓bi_ite_t, ↓bi_ite_f, ↓jc_lt_t, ↓jc_lt_f, ↓jc_gt_t, ↓jc_gt_f, ↓jc_le_t, ↓jc_le_f, ↓jc_ge_t, ↓jc_ge_f, ↓jc_eq_t, ↓jc_eq_f, ↓if_pos, ↓if_neg]
    rfl
  | succ m ih =>
    intro k p v hm hk hp0 hp
    have hh := fun d => mx_here (L := L) (d := d) (b := 0) (K := K) h ⟨hp0, hp⟩
    have hr := MT_r (p := p) h
    have hin := fun d => m_in (d := d) (S := SH L) (J := st J 0 p) (K := K) (R := R) (x := t p) (y := 48) (z := 57) (by omega) (by omega) (by omega)
    unfold dg
    by_cases c : isD (t p)
    · rw [if_pos c]
      simp only [bi_t (show 48 ≤ t p ∧ t p ≤ 57 from c)] at hin
      have hpn : p < J 76 43 := by
        by_cases c2 : J 76 43 ≤ p
        · have := MT_N h p c2; omega
        · omega
      have ih' := ih (k + 1) (p + 1) (v * 10 + t p - 48) (by omega) (by omega) (by omega) (by omega)
      have ev : 10 * v + t p - 48 = v * 10 + t p - 48 := by omega
      have go : ∀ X, EE (d + 1) 179 37 [some (.ref 76), some (vi x1), some (vi (v * 10 + t p - 48)), some (vi (k + 1))] [] (SH L) (st J 0 (p + 1)) K R = X → EE (d + 1) 179 37 [some (.ref 76), some (vi x1), some (vi v), some (vi k)] [] (SH L) (st J 0 p) K R = X := by
        intro X hX
        simp (disch := first | assumption | omega | exact bi_lo | exact bi_hi | exact bi_01 | exact jcmp_lo | exact jcmp_hi | exact (jor_r _ _).1 | exact (jor_r _ _).2 | exact (jand_r _ _).1 | exact (jand_r _ _).2) only [x179_37, x179_38, x179_39, x179_42, x179_43, x179_46, kb_some, kb_none, clr_vi, clr_ref, clr_null, clr_none, va_rf_some, va_rf_none, ↓bi_ite_t, ↓bi_ite_f, ↓jc_lt_t, ↓jc_lt_f, ↓jc_gt_t, ↓jc_gt_f, ↓jc_le_t, ↓jc_le_f, ↓jc_ge_t, ↓jc_ge_f, ↓jc_eq_t, ↓jc_eq_f, ↓if_pos, ↓if_neg, st_45]
        simp (disch := first | assumption | omega | exact bi_lo | exact bi_hi | exact bi_01 | exact jcmp_lo | exact jcmp_hi | exact (jor_r _ _).1 | exact (jor_r _ _).2 | exact (jand_r _ _).1 | exact (jand_r _ _).2) only [x179_49, x179_50, x179_53, x179_54, x179_57, x179_60, x179_63, x179_66, x179_68, x179_69, x179_70, x179_71, x179_74, x179_75, x179_77, x179_78, x179_79, x179_80, x179_81, x179_84, x179_85, x179_86, x179_89, x179_92, kb_some, kb_none, clr_vi, clr_ref, clr_null, clr_none, va_rf_some, va_rf_none, ↓bi_ite_t, ↓bi_ite_f, ↓jc_lt_t, ↓jc_lt_f, ↓jc_gt_t, ↓jc_gt_f, ↓jc_le_t, ↓jc_le_f, ↓jc_ge_t, ↓jc_ge_f, ↓jc_eq_t, ↓jc_eq_f, ↓if_pos, ↓if_neg, hh, hin, ev, st_44, st_p]
        exact hX
      exact go _ ih'
    · rw [if_neg c]
      simp only [bi_f (show ¬ (48 ≤ t p ∧ t p ≤ 57) from c)] at hin
      simp (disch := first | assumption | omega | exact bi_lo | exact bi_hi | exact bi_01 | exact jcmp_lo | exact jcmp_hi | exact (jor_r _ _).1 | exact (jor_r _ _).2 | exact (jand_r _ _).1 | exact (jand_r _ _).2) only [x179_37, x179_38, x179_39, x179_42, x179_43, x179_46, kb_some, kb_none, clr_vi, clr_ref, clr_null, clr_none, va_rf_some, va_rf_none, ↓bi_ite_t, ↓bi_ite_f, ↓jc_lt_t, ↓jc_lt_f, ↓jc_gt_t, ↓jc_gt_f, ↓jc_le_t, ↓jc_le_f, ↓jc_ge_t, ↓jc_ge_f, ↓jc_eq_t, ↓jc_eq_f, ↓if_pos, ↓if_neg, st_45]
      simp (disch := first | assumption | omega | exact bi_lo | exact bi_hi | exact bi_01 | exact jcmp_lo | exact jcmp_hi | exact (jor_r _ _).1 | exact (jor_r _ _).2 | exact (jand_r _ _).1 | exact (jand_r _ _).2) only [x179_49, x179_50, x179_53, x179_54, x179_57, x179_60, x179_63, x179_95, x179_96, kb_some, kb_none, clr_vi, clr_ref, clr_null, clr_none, va_rf_some, va_rf_none, ↓bi_ite_t, ↓bi_ite_f, ↓jc_lt_t, ↓jc_lt_f, ↓jc_gt_t, ↓jc_gt_f, ↓jc_le_t, ↓jc_le_f, ↓jc_ge_t, ↓jc_ge_f, ↓jc_eq_t, ↓jc_eq_f, ↓if_pos, ↓if_neg, hh, hin]
theorem mx_digits (h : MT t J R) (hx : 0 ≤ x ∧ x ≤ 9) (hp : 0 ≤ p ∧ p ≤ J 76 43) : EE (d + 1) 179 0 [some (.ref 76), some (vi x), none, none] [] (SH L) (st J 0 p) K R = if isD (t p) then ok (some (vi (dg t x.toNat p 0).1)) (SH L) (st J 0 (dg t x.toNat p 0).2) K R else ok (some (vi 0)) (SH L) (st J 1 p) K R := by
  have s76 : (SH L)[76]? = some (11, 58) := rfl
  have hh := fun d => mx_here (L := L) (d := d) (b := 0) (K := K) h hp
  have hr := MT_r (p := p) h
  have hin := fun d => m_in (d := d) (S := SH L) (J := st J 0 p) (K := K) (R := R) (x := t p) (y := 48) (z := 57) (by omega) (by omega) (by omega)
  by_cases c : isD (t p)
  · rw [if_pos c]
    simp only [bi_t (show 48 ≤ t p ∧ t p ≤ 57 from c)] at hin
    have hl := l_mdigits (L := L) (d := d) (K := K) h (x1 := x) hx x.toNat 0 p 0 (by omega) (by omega) hp.1 hp.2
    simp (disch := first | assumption | omega | exact bi_lo | exact bi_hi | exact bi_01 | exact jcmp_lo | exact jcmp_hi | exact (jor_r _ _).1 | exact (jor_r _ _).2 | exact (jand_r _ _).1 | exact (jand_r _ _).2) only [x179_0, x179_1, x179_2, x179_5, x179_8, x179_9, x179_12, x179_13, x179_16, x179_19, x179_22, x179_25, x179_26, x179_29, x179_30, x179_33, x179_34, x179_35, x179_36, kb_some, kb_none, clr_vi, clr_ref, clr_null, clr_none, va_rf_some, va_rf_none, ↓bi_ite_t, ↓bi_ite_f, ↓jc_lt_t, ↓jc_lt_f, ↓jc_gt_t, ↓jc_gt_f, ↓jc_le_t, ↓jc_le_f, ↓jc_ge_t, ↓jc_ge_f, ↓jc_eq_t, ↓jc_eq_f, ↓if_pos, ↓if_neg, st_45, hh, hin, st_b]
    exact hl
  · rw [if_neg c]
    simp only [bi_f (show ¬ (48 ≤ t p ∧ t p ≤ 57) from c)] at hin
    by_cases c2 : 0 < x
    · simp (disch := first | assumption | omega | exact bi_lo | exact bi_hi | exact bi_01 | exact jcmp_lo | exact jcmp_hi | exact (jor_r _ _).1 | exact (jor_r _ _).2 | exact (jand_r _ _).1 | exact (jand_r _ _).2) only [x179_0, x179_1, x179_2, x179_5, x179_8, x179_9, x179_12, x179_13, x179_16, x179_19, x179_22, x179_25, x179_26, x179_29, x179_30, x179_33, x179_34, x179_35, x179_36, x179_37, x179_38, x179_39, x179_42, x179_43, x179_46, x179_95, x179_96, kb_some, kb_none, clr_vi, clr_ref, clr_null, clr_none, va_rf_some, va_rf_none, ↓bi_ite_t, ↓bi_ite_f, ↓jc_lt_t, ↓jc_lt_f, ↓jc_gt_t, ↓jc_gt_f, ↓jc_le_t, ↓jc_le_f, ↓jc_ge_t, ↓jc_ge_f, ↓jc_eq_t, ↓jc_eq_f, ↓if_pos, ↓if_neg, st_45, hh, hin, st_b]
    · simp (disch := first | assumption | omega | exact bi_lo | exact bi_hi | exact bi_01 | exact jcmp_lo | exact jcmp_hi | exact (jor_r _ _).1 | exact (jor_r _ _).2 | exact (jand_r _ _).1 | exact (jand_r _ _).2) only [x179_0, x179_1, x179_2, x179_5, x179_8, x179_9, x179_12, x179_13, x179_16, x179_19, x179_22, x179_25, x179_26, x179_29, x179_30, x179_33, x179_34, x179_35, x179_36, x179_37, x179_38, x179_39, x179_95, x179_96, kb_some, kb_none, clr_vi, clr_ref, clr_null, clr_none, va_rf_some, va_rf_none, ↓bi_ite_t, ↓bi_ite_f, ↓jc_lt_t, ↓jc_lt_f, ↓jc_gt_t, ↓jc_gt_f, ↓jc_le_t, ↓jc_le_f, ↓jc_ge_t, ↓jc_ge_f, ↓jc_eq_t, ↓jc_eq_f, ↓if_pos, ↓if_neg, st_45, hh, hin, st_b]
theorem mx_digits1 (h : MT t J R) (hx : 0 ≤ x ∧ x ≤ 9) : EE (d + 1) 179 0 [some (.ref 76), some (vi x), none, none] [] (SH L) (st J 1 p) K R = ok (some (vi 0)) (SH L) (st J 1 p) K R := by
  have s76 : (SH L)[76]? = some (11, 58) := rfl
  by_cases c2 : 0 < x
  · simp (disch := first | assumption | omega | exact bi_lo | exact bi_hi | exact bi_01 | exact jcmp_lo | exact jcmp_hi | exact (jor_r _ _).1 | exact (jor_r _ _).2 | exact (jand_r _ _).1 | exact (jand_r _ _).2) only [x179_0, x179_1, x179_2, x179_5, x179_8, x179_9, x179_12, x179_13, x179_16, x179_19, x179_22, x179_25, x179_26, x179_29, x179_30, x179_33, x179_34, x179_35, x179_36, x179_37, x179_38, x179_39, x179_42, x179_43, x179_46, x179_95, x179_96, kb_some, kb_none, clr_vi, clr_ref, clr_null, clr_none, va_rf_some, va_rf_none, ↓bi_ite_t, ↓bi_ite_f, ↓jc_lt_t, ↓jc_lt_f, ↓jc_gt_t, ↓jc_gt_f, ↓jc_le_t, ↓jc_le_f, ↓jc_ge_t, ↓jc_ge_f, ↓jc_eq_t, ↓jc_eq_f, ↓if_pos, ↓if_neg, st_45, st_b]
  · simp (disch := first | assumption | omega | exact bi_lo | exact bi_hi | exact bi_01 | exact jcmp_lo | exact jcmp_hi | exact (jor_r _ _).1 | exact (jor_r _ _).2 | exact (jand_r _ _).1 | exact (jand_r _ _).2) only [x179_0, x179_1, x179_2, x179_5, x179_8, x179_9, x179_12, x179_13, x179_16, x179_19, x179_22, x179_25, x179_26, x179_29, x179_30, x179_33, x179_34, x179_35, x179_36, x179_37, x179_38, x179_39, x179_95, x179_96, kb_some, kb_none, clr_vi, clr_ref, clr_null, clr_none, va_rf_some, va_rf_none, ↓bi_ite_t, ↓bi_ite_f, ↓jc_lt_t, ↓jc_lt_f, ↓jc_gt_t, ↓jc_gt_f, ↓jc_le_t, ↓jc_le_f, ↓jc_ge_t, ↓jc_ge_f, ↓jc_eq_t, ↓jc_eq_f, ↓if_pos, ↓if_neg, st_45, st_b]
def tM (J : mJ) (v : Int) : mJ := mm_up (mm_up (mm_up J 102 (J 76 46).toNat v) 76 46 (J 76 46 + 1)) 87 (J 76 18 - 1).toNat (J 87 (J 76 18 - 1).toNat + 1)
def tML (J : mJ) (l : List Int) : mJ := List.foldl tM J l
theorem tM_st : tM (st J b p) x = st (tM J x) b p := by
  unfold tM
  rw [st_o (show ¬ ((76 : Nat) = 76 ∧ ((46 : Nat) = 44 ∨ (46 : Nat) = 45)) by decide), st_o (show ¬ ((76 : Nat) = 76 ∧ ((18 : Nat) = 44 ∨ (18 : Nat) = 45)) by decide), st_a (show (87 : Nat) ≠ 76 by decide), st_up (by omega), st_up (by omega), st_up (by omega)]
theorem tML_snoc {l : List Int} : tM (tML J l) x = tML J (l ++ [x]) := by unfold tML; rw [List.foldl_append]; rfl
theorem tML_cons {l : List Int} : tML J (x :: l) = tML (tM J x) l := rfl
theorem tM_o {a j : Nat} (h : ¬ ((a = 102 ∧ j = (J 76 46).toNat) ∨ (a = 76 ∧ j = 46) ∨ (a = 87 ∧ j = (J 76 18 - 1).toNat))) : tM J x a j = J a j := by
  unfold tM mm_up
  rw [if_neg (by omega), if_neg (by omega), if_neg (by omega)]
theorem tM_46 : tM J x 76 46 = J 76 46 + 1 := by simp [tM, mm_up]
theorem tM_18 : tM J x 76 18 = J 76 18 := tM_o (by omega)
theorem tM_87 : tM J x 87 (J 76 18 - 1).toNat = J 87 (J 76 18 - 1).toNat + 1 := by simp [tM, mm_up]
theorem tML_18 : ∀ {l : List Int} {J : mJ}, tML J l 76 18 = J 76 18 := by
  intro l
  induction l with
  | nil => intro J; rfl
  | cons v l ih => intro J; rw [tML_cons, ih, tM_18]
theorem tML_46 : ∀ {l : List Int} {J : mJ}, tML J l 76 46 = J 76 46 + l.length := by
  intro l
  induction l with
  | nil => intro J; simp [tML]
  | cons v l ih => intro J; rw [tML_cons, ih, tM_46, List.length_cons]; omega
theorem tML_87 : ∀ {l : List Int} {J : mJ}, tML J l 87 (J 76 18 - 1).toNat = J 87 (J 76 18 - 1).toNat + l.length := by
  intro l
  induction l with
  | nil => intro J; simp [tML]
  | cons v l ih =>
    intro J
    have := ih (J := tM J v)
    rw [tM_18, tM_87] at this
    rw [tML_cons, this, List.length_cons]; omega
theorem tML_o {a j : Nat} : ∀ {l : List Int} {J : mJ}, 0 ≤ J 76 46 → ¬ ((a = 102 ∧ J 76 46 ≤ j) ∨ (a = 76 ∧ j = 46) ∨ (a = 87 ∧ j = (J 76 18 - 1).toNat)) → tML J l a j = J a j := by
  intro l
  induction l with
  | nil => intro J h0 h; rfl
  | cons v l ih =>
    intro J h0 h
    have e := tM_46 (J := J) (x := v)
    have e2 := tM_18 (J := J) (x := v)
    rw [tML_cons, ih (by omega) (by rw [e, e2]; omega)]
    exact tM_o (by omega)
theorem tML_102 : ∀ {l : List Int} {J : mJ}, 0 ≤ J 76 46 → ∀ (k : Nat) (hk : k < l.length), tML J l 102 ((J 76 46).toNat + k) = l[k] := by
  intro l
  induction l with
  | nil => intro J h0 k hk; simp at hk
  | cons v l ih =>
    intro J h0 k hk
    have e := tM_46 (J := J) (x := v)
    rw [tML_cons]
    cases k with
    | zero =>
      rw [tML_o (by omega) (by omega), Nat.add_zero]
      show _ = v
      simp [tM, mm_up]
    | succ k =>
      have := ih (J := tM J v) (by omega) k (by simpa using hk)
      rw [e, show (J 76 46 + 1).toNat + k = (J 76 46).toNat + (k + 1) by omega] at this
      rw [this]; rfl
end
