section
variable {L d e c : Nat} {f : Int → Int} {ver x : Int} {J K : mJ} {R : mm_R}
theorem FRM_refl (h36 : J 36 6 ≤ 40) (h42 : J 42 1 ≤ 120) (h32 : 0 ≤ J 32 3 ∧ J 32 3 ≤ 6) : FRM J J := ⟨fr_refl, by omega, by omega, by omega, fun _ _ => ⟨rfl, rfl, rfl, rfl, rfl⟩, fun _ _ => rfl⟩
theorem rd_isMagic (h : RD L e c f ver J R) (h32 : 0 ≤ J 32 3 ∧ J 32 3 ≤ 6) (hx : 0 ≤ x ∧ x ≤ 10000) {y : Int} (hy : 0 ≤ y ∧ y ≤ 255) :
    wp (SH L) (EE (d + 2) 21 0 [some (.ref 31), some (vi x), some (vi y)] [] (SH L) J K R) fun v J' K' R' => K' = K ∧ R' = R ∧ HP J (if J e 1 ≤ x then some (3, J e 1) else if f x ≠ y then some (1, x) else none) v J' := by
  have hR := h.1
  have hs := h.2.1
  have hB := h.2.2.1.1
  have hn := h.2.2.2.2.1
  have s31 : (SH L)[31]? = some (2, 5) := rfl; have r31_0 : R 31 0 = some 32 := rr_lk hR rfl; have r31_1 : R 31 1 = some 36 := rr_lk hR rfl; have s32 : (SH L)[32]? = some (1, 4) := rfl; have r32_0 : R 32 0 = some 33 := rr_lk hR rfl; have r32_1 : R 32 1 = some 34 := rr_lk hR rfl; have r32_2 : R 32 2 = some 35 := rr_lk hR rfl
  have h36 := h.2.2.2.2.2.2.2.2.1
  have h42 := h.2.2.2.2.2.2.2.2.2
  have hf := RD_f h x
  have ha := RD_at (d := d + 1) (K := K) h x (by omega)
  simp (disch := first | assumption | omega | exact bi_lo | exact bi_hi | exact bi_01 | exact jcmp_lo | exact jcmp_hi | exact (jor_r _ _).1 | exact (jor_r _ _).2 | exact (jand_r _ _).1 | exact (jand_r _ _).2) only [x21_0, x21_1, x21_2, kb_some, kb_none, clr_vi, clr_ref, clr_null, clr_none, va_rf_some, va_rf_none]
  refine wp_kb (rd_isThere (d := d) (K := K) h h32 hx) ?_
  rintro v J1 K1 R1 ⟨rfl, rfl, q3, q4⟩
  by_cases c1 : J e 1 ≤ x
  · rw [if_pos c1] at q4 ⊢
    obtain ⟨rfl, q5⟩ := q4
    simp (disch := first | assumption | omega | exact bi_lo | exact bi_hi | exact bi_01 | exact jcmp_lo | exact jcmp_hi | exact (jor_r _ _).1 | exact (jor_r _ _).2 | exact (jand_r _ _).1 | exact (jand_r _ _).2) only [x21_5, x21_8, x21_9, x21_12, x21_13, x21_16, x21_17, x21_20, x21_21, x21_24, x21_25, x21_26, x21_27, x21_30, x21_33, x21_34, x21_37, x21_38, kb_some, kb_none, clr_vi, clr_ref, clr_null, clr_none, va_rf_some, va_rf_none, if_true]
    exact wp_ok ⟨rfl, rfl, q3, rfl, q5⟩
  · rw [if_neg c1] at q4 ⊢
    obtain ⟨rfl, rfl⟩ := q4
    by_cases c2 : f x = y
    · rw [if_neg (not_not_intro c2)]
      simp (disch := first | assumption | omega | exact bi_lo | exact bi_hi | exact bi_01 | exact jcmp_lo | exact jcmp_hi | exact (jor_r _ _).1 | exact (jor_r _ _).2 | exact (jand_r _ _).1 | exact (jand_r _ _).2) only [x21_5, x21_8, x21_9, x21_12, x21_13, x21_16, x21_17, x21_20, x21_21, x21_24, x21_25, x21_26, x21_27, x21_30, x21_33, x21_34, x21_37, x21_38, kb_some, kb_none, clr_vi, clr_ref, clr_null, clr_none, va_rf_some, va_rf_none, hs, ha, if_pos c2, if_neg (show ¬ (1 : Int) = 0 by omega)]
      exact wp_ok ⟨rfl, rfl, q3, rfl, rfl⟩
    · rw [if_pos c2]
      simp (disch := first | assumption | omega | exact bi_lo | exact bi_hi | exact bi_01 | exact jcmp_lo | exact jcmp_hi | exact (jor_r _ _).1 | exact (jor_r _ _).2 | exact (jand_r _ _).1 | exact (jand_r _ _).2) only [x21_5, x21_8, x21_9, x21_12, x21_13, x21_16, x21_17, x21_20, x21_21, x21_24, x21_25, x21_26, x21_27, kb_some, kb_none, clr_vi, clr_ref, clr_null, clr_none, va_rf_some, va_rf_none, hs, ha, if_neg c2, if_neg (show ¬ (1 : Int) = 0 by omega)]
      refine wp_kb (rd_raise (L := L) hR h32 h36 h42) ?_
      rintro v J2 K2 R2 ⟨rfl, rfl, rfl, p4, p5, p6, p7⟩
      simp (disch := first | assumption | omega | exact bi_lo | exact bi_hi | exact bi_01 | exact jcmp_lo | exact jcmp_hi | exact (jor_r _ _).1 | exact (jor_r _ _).2 | exact (jand_r _ _).1 | exact (jand_r _ _).2) only [x21_30, x21_33, x21_34, x21_37, x21_38, kb_some, kb_none, clr_vi, clr_ref, clr_null, clr_none, va_rf_some, va_rf_none, if_true]
      exact wp_ok ⟨rfl, rfl, p4, rfl, fun hf => p7 [] (by simp) hf⟩
theorem RD_31 {v' : Int} (h : RD L e c f ver J R) {j : Nat} {z : Int} (hv : mm_up J 31 j z 31 3 = v') : RD L e c f v' (mm_up J 31 j z) R := by
  obtain ⟨u1, u2, u3, u4, u5, u6, u7, u8, u9, u10⟩ := h
  have e1 : mm_up J 31 j z e = J e := up_ne (by omega)
  have e2 : mm_up J 31 j z c = J c := up_ne (by omega)
  refine ⟨u1, u2, u3, u4, by rw [e1]; exact u5, by rw [e2]; exact u6, ?_, hv, by rw [up_ne (by decide)]; exact u9, by rw [up_ne (by decide)]; exact u10⟩
  rw [← u7]; unfold bA; rw [e1, e2]
theorem c_isVersion {d : Nat} {S : mm_S} (hx : -2147483648 ≤ x ∧ x ≤ 2147483647) : EE d 131 0 [some (vi x)] [] S J K R = ok (some (vi (bi (1 ≤ x ∧ x ≤ 3)))) S J K R := by
  by_cases c1 : x < 1
  · simp (disch := first | assumption | omega | exact bi_lo | exact bi_hi | exact bi_01 | exact jcmp_lo | exact jcmp_hi | exact (jor_r _ _).1 | exact (jor_r _ _).2 | exact (jand_r _ _).1 | exact (jand_r _ _).2) only [x131_0, x131_1, x131_2, x131_5, x131_6, x131_7, x131_10, x131_11, x131_14, x131_15, kb_some, kb_none, clr_vi, clr_ref, clr_null, clr_none, va_rf_some, va_rf_none, if_pos c1]
    rw [bi_f (by omega)]
  · by_cases c2 : x ≤ 3
    · simp (disch := first | assumption | omega | exact bi_lo | exact bi_hi | exact bi_01 | exact jcmp_lo | exact jcmp_hi | exact (jor_r _ _).1 | exact (jor_r _ _).2 | exact (jand_r _ _).1 | exact (jand_r _ _).2) only [x131_0, x131_1, x131_2, x131_5, x131_6, x131_7, x131_10, x131_11, x131_14, x131_15, kb_some, kb_none, clr_vi, clr_ref, clr_null, clr_none, va_rf_some, va_rf_none, if_neg c1, if_neg (show ¬ 3 < x by omega)]
      rw [bi_t (by omega)]
    · simp (disch := first | assumption | omega | exact bi_lo | exact bi_hi | exact bi_01 | exact jcmp_lo | exact jcmp_hi | exact (jor_r _ _).1 | exact (jor_r _ _).2 | exact (jand_r _ _).1 | exact (jand_r _ _).2) only [x131_0, x131_1, x131_2, x131_5, x131_6, x131_7, x131_10, x131_11, x131_14, x131_15, kb_some, kb_none, clr_vi, clr_ref, clr_null, clr_none, va_rf_some, va_rf_none, if_neg c1, if_pos (show 3 < x by omega)]
      rw [bi_f (by omega)]
theorem rd_version (h : RD L e c f ver J R) (h32 : 0 ≤ J 32 3 ∧ J 32 3 ≤ 6) :
    wp (SH L) (EE (d + 2) 22 0 [some (.ref 31)] [] (SH L) J K R) fun v J' K' R' => K' = K ∧ R' = R ∧ HP (mm_up J 31 3 (f 2)) (if J e 1 ≤ 2 then some (3, J e 1) else if ¬ (1 ≤ f 2 ∧ f 2 ≤ 3) then some (2, 2) else none) v J' := by
  have hR := h.1
  have hs := h.2.1
  have hB := h.2.2.1.1
  have hee := h.2.2.2.1
  have hn := h.2.2.2.2.1
  have s31 : (SH L)[31]? = some (2, 5) := rfl; have r31_0 : R 31 0 = some 32 := rr_lk hR rfl; have r31_1 : R 31 1 = some 36 := rr_lk hR rfl; have s32 : (SH L)[32]? = some (1, 4) := rfl; have r32_0 : R 32 0 = some 33 := rr_lk hR rfl; have r32_1 : R 32 1 = some 34 := rr_lk hR rfl; have r32_2 : R 32 2 = some 35 := rr_lk hR rfl
  have hf := RD_f h 2
  have ha := RD_at (d := d + 1) (K := K) h 2 (by omega)
  have h1 : RD L e c f (f 2) (mm_up J 31 3 (f 2)) R := RD_31 h up_s
  have hv := c_isVersion (d := d + 1) (S := SH L) (J := mm_up J 31 3 (f 2)) (K := K) (R := R) (x := f 2) (by omega)
  have e31 : mm_up J 31 3 (f 2) 31 3 = f 2 := up_s
  have ee : mm_up J 31 3 (f 2) e 1 = J e 1 := by rw [up_ne (by omega)]
  have e32 : mm_up J 31 3 (f 2) 32 3 = J 32 3 := by rw [up_ne (by decide)]
  simp (disch := first | assumption | omega | exact bi_lo | exact bi_hi | exact bi_01 | exact jcmp_lo | exact jcmp_hi | exact (jor_r _ _).1 | exact (jor_r _ _).2 | exact (jand_r _ _).1 | exact (jand_r _ _).2) only [x22_0, x22_1, x22_2, x22_5, x22_6, x22_9, x22_12, x22_13, x22_14, kb_some, kb_none, clr_vi, clr_ref, clr_null, clr_none, va_rf_some, va_rf_none, hs, ha]
  have ht := rd_isThere (d := d) (K := K) (x := 2) h1 (by rw [e32]; exact h32) (by omega)
  rw [ee] at ht
  generalize mm_up J 31 3 (f 2) = J0 at *
  have h36 := h1.2.2.2.2.2.2.2.2.1
  have h42 := h1.2.2.2.2.2.2.2.2.2
  refine wp_kb ht ?_
  rintro v J1 K1 R1 ⟨rfl, rfl, q3, q4⟩
  by_cases c1 : J e 1 ≤ 2
  · rw [if_pos c1] at q4 ⊢
    obtain ⟨rfl, q5⟩ := q4
    simp (disch := first | assumption | omega | exact bi_lo | exact bi_hi | exact bi_01 | exact jcmp_lo | exact jcmp_hi | exact (jor_r _ _).1 | exact (jor_r _ _).2 | exact (jand_r _ _).1 | exact (jand_r _ _).2) only [x22_17, x22_20, x22_21, x22_24, x22_27, x22_30, x22_31, x22_34, x22_35, x22_36, x22_37, x22_40, x22_43, x22_44, x22_47, x22_48, kb_some, kb_none, clr_vi, clr_ref, clr_null, clr_none, va_rf_some, va_rf_none, if_true]
    exact wp_ok ⟨rfl, rfl, q3, rfl, q5⟩
  · rw [if_neg c1] at q4 ⊢
    obtain ⟨rfl, rfl⟩ := q4
    by_cases c2 : 1 ≤ f 2 ∧ f 2 ≤ 3
    · rw [if_neg (not_not_intro c2)]
      simp (disch := first | assumption | omega | exact bi_lo | exact bi_hi | exact bi_01 | exact jcmp_lo | exact jcmp_hi | exact (jor_r _ _).1 | exact (jor_r _ _).2 | exact (jand_r _ _).1 | exact (jand_r _ _).2) only [x22_17, x22_20, x22_21, x22_24, x22_27, x22_30, x22_31, x22_34, x22_35, x22_36, x22_37, x22_40, x22_43, x22_44, x22_47, x22_48, kb_some, kb_none, clr_vi, clr_ref, clr_null, clr_none, va_rf_some, va_rf_none, e31, hv, bi_t c2, if_neg (show ¬ (1 : Int) = 0 by omega)]
      exact wp_ok ⟨rfl, rfl, q3, rfl, rfl⟩
    · rw [if_pos c2]
      simp (disch := first | assumption | omega | exact bi_lo | exact bi_hi | exact bi_01 | exact jcmp_lo | exact jcmp_hi | exact (jor_r _ _).1 | exact (jor_r _ _).2 | exact (jand_r _ _).1 | exact (jand_r _ _).2) only [x22_17, x22_20, x22_21, x22_24, x22_27, x22_30, x22_31, x22_34, x22_35, x22_36, x22_37, kb_some, kb_none, clr_vi, clr_ref, clr_null, clr_none, va_rf_some, va_rf_none, e31, hv, bi_f c2, if_true, if_neg (show ¬ (1 : Int) = 0 by omega)]
      refine wp_kb (rd_raise (L := L) hR (by rw [e32]; exact h32) h36 h42) ?_
      rintro v J2 K2 R2 ⟨rfl, rfl, rfl, p4, p5, p6, p7⟩
      simp (disch := first | assumption | omega | exact bi_lo | exact bi_hi | exact bi_01 | exact jcmp_lo | exact jcmp_hi | exact (jor_r _ _).1 | exact (jor_r _ _).2 | exact (jand_r _ _).1 | exact (jand_r _ _).2) only [x22_40, x22_43, x22_44, x22_47, x22_48, kb_some, kb_none, clr_vi, clr_ref, clr_null, clr_none, va_rf_some, va_rf_none, if_true]
      exact wp_ok ⟨rfl, rfl, p4, rfl, fun hf => p7 [] (by simp) hf⟩
end
