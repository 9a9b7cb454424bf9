/-! the reference reads a text: sets -/
def sJ (J : mJ) : mJ := mm_up (mm_up (tc J 103) 104 (J 76 48).toNat (J 76 18)) 76 48 (J 76 48 + 1)
section
variable {L d : Nat} {t : Int → Int} {J K : mJ} {R : mm_R} {p x y b : Int}
theorem sJ_frm : frm AT J (sJ J) := frm_up (frm_up tc_frm (by unfold AT; omega)) (by unfold AT; omega)
theorem sJ_o {a j : Nat} (h : ¬ (a = 104 ∧ j = (J 76 48).toNat) ∧ ¬ (a = 76 ∧ j = 48)) : sJ J a j = tc J 103 a j := by
  unfold sJ mm_up; rw [if_neg (by omega), if_neg (by omega)]
theorem sJ_48 : sJ J 76 48 = J 76 48 + 1 := by simp [sJ, mm_up]
theorem sJ_104 : sJ J 104 (J 76 48).toNat = J 76 18 := by simp [sJ, mm_up]
theorem sJ_18 : sJ J 76 18 = J 76 18 + 1 := (sJ_o (by omega)).trans tc_18
theorem sJ_46 (h : 0 ≤ J 76 48) : sJ J 76 46 = J 76 46 := (sJ_o (by omega)).trans (tc_o (by omega) h)
theorem sJ_par (h : 0 ≤ J 76 48) : parM (sJ J) = J 76 18 := by
  unfold parM
  rw [sJ_48, if_neg (by omega), show J 76 48 + 1 - 1 = J 76 48 by omega, sJ_104]
theorem mx_set (h : PC t J R p) (hw : wd3 t p 115 101 116) :
    (J 76 48 = 3 → EE (d + 4) 184 0 [some (.ref 76), none, none] [] (SH L) (st J 0 p) K R = ok (some (vi 0)) (SH L) (st J 1 p) K R) ∧
    (J 76 48 < 3 → EE (d + 4) 184 0 [some (.ref 76), none, none] [] (SH L) (st J 0 p) K R = if t (p + 3) = 40 then ok (some (vi (bi (t (p + 4) ≠ 41)))) (SH L) (st (sJ J) 0 (p + 4)) K R else ok (some (vi 0)) (SH L) (st (sJ J) 1 (p + 3)) K R) := by
  have hM := h.1
  have hR := hM.1
  have hp := h.2.1
  have hk := h.2.2.2.1
  have hc := h.2.2.1
  have s76 : (SH L)[76]? = some (11, 58) := rfl; have r76_0 : R 76 0 = some 77 := rr_lk hR rfl; have r76_3 : R 76 3 = some 78 := rr_lk hR rfl; have r76_4 : R 76 4 = some 79 := rr_lk hR rfl; have r76_6 : R 76 6 = some 80 := rr_lk hR rfl; have r76_7 : R 76 7 = some 81 := rr_lk hR rfl; have r76_9 : R 76 9 = some 82 := rr_lk hR rfl; have r76_10 : R 76 10 = some 83 := rr_lk hR rfl; have r76_12 : R 76 12 = some 84 := rr_lk hR rfl; have r76_13 : R 76 13 = some 85 := rr_lk hR rfl; have r76_19 : R 76 19 = some 86 := rr_lk hR rfl; have r76_20 : R 76 20 = some 87 := rr_lk hR rfl; have r76_21 : R 76 21 = some 88 := rr_lk hR rfl; have r76_22 : R 76 22 = some 89 := rr_lk hR rfl; have r76_24 : R 76 24 = some 90 := rr_lk hR rfl; have r76_25 : R 76 25 = some 91 := rr_lk hR rfl; have r76_26 : R 76 26 = some 92 := rr_lk hR rfl; have r76_28 : R 76 28 = some 93 := rr_lk hR rfl; have r76_29 : R 76 29 = some 94 := rr_lk hR rfl; have r76_30 : R 76 30 = some 95 := rr_lk hR rfl; have r76_31 : R 76 31 = some 96 := rr_lk hR rfl; have r76_32 : R 76 32 = some 97 := rr_lk hR rfl; have r76_36 : R 76 36 = some 98 := rr_lk hR rfl; have r76_38 : R 76 38 = some 99 := rr_lk hR rfl; have r76_39 : R 76 39 = some 100 := rr_lk hR rfl; have r76_40 : R 76 40 = some 101 := rr_lk hR rfl; have r76_41 : R 76 41 = some 102 := rr_lk hR rfl; have r76_42 : R 76 42 = some 103 := rr_lk hR rfl; have r76_47 : R 76 47 = some 104 := rr_lk hR rfl; have r76_53 : R 76 53 = some 105 := rr_lk hR rfl; have r76_54 : R 76 54 = some 106 := rr_lk hR rfl; have r76_55 : R 76 55 = some 107 := rr_lk hR rfl; have r76_56 : R 76 56 = some 108 := rr_lk hR rfl; have r76_57 : R 76 57 = some 109 := rr_lk hR rfl; have s104 : (SH L)[104]? = some (20, 3) := rfl
  have hn := hM.2.1
  have hlt := wd3_lt (MT_N hM) hw (by decide)
  have w1 := mx_isWord (L := L) (d := d + 1) (b := 0) (K := K) hM hp (a := 115) (b' := 101) (c := 116) (by decide)
  have w2 := mx_isWord (L := L) (d := d + 1) (b := 0) (K := K) hM hp (a := 110) (b' := 117) (c := 109) (by decide)
  have w3 := mx_isWord (L := L) (d := d + 1) (b := 0) (K := K) hM hp (a := 115) (b' := 116) (c := 114) (by decide)
  have w4 := mx_isWord (L := L) (d := d + 1) (b := 0) (K := K) hM hp (a := 114) (b' := 97) (c := 119) (by decide)
  have c103 := mx_comes (L := L) (d := d + 3) (b := 0) (q := p) (K := K) h (ty := 103) (by decide)
  rw [bi_t hw] at w1
  rw [bi_f (wd3_ne hw (by decide))] at w2 w3 w4
  have q48 : ∀ b p, st J b p 76 48 = J 76 48 := fun b p => st_o (by decide)
  have e48 : tc J 103 76 48 = J 76 48 := tc_o (by omega) hk.1
  have e43 : tc J 103 76 43 = J 76 43 := tc_o (by omega) hk.1
  have z48 : ∀ b p, st (tc J 103) b p 76 48 = J 76 48 := fun b p => (st_o (by decide)).trans e48
  have z18 : ∀ b p, st (tc J 103) b p 76 18 = J 76 18 + 1 := fun b p => (st_o (by decide)).trans tc_18
  have hw1 := mx_wants (L := L) (d := d + 2) (K := K) (MT_frm hM (tc_frm (ty := 103))) (p := p + 3) (y := 40) (by rw [e43]; omega) (by decide)
  rw [show p + 3 + 1 = p + 4 by omega] at hw1
  have est : ∀ b p, mm_up (mm_up (st (tc J 103) b p) 104 (J 76 48).toNat (J 76 18 + 1 - 1)) 76 48 (J 76 48 + 1) = st (sJ J) b p := fun b p => by
    rw [show J 76 18 + 1 - 1 = J 76 18 by omega, st_up (by omega), st_up (by omega)]; rfl
  refine ⟨fun c => ?_, fun c => ?_⟩
  · simp (disch := first | assumption | omega | exact bi_lo | exact bi_hi | exact bi_01 | exact jcmp_lo | exact jcmp_hi | exact (jor_r _ _).1 | exact (jor_r _ _).2 | exact (jand_r _ _).1 | exact (jand_r _ _).2) only [x184_0, x184_1, x184_3, x184_5, x184_7, x184_10, x184_13, x184_14, x184_17, x184_18, x184_90, x184_91, x184_93, x184_95, x184_97, x184_100, x184_101, x184_102, x184_104, x184_106, x184_108, x184_111, x184_112, x184_113, x184_114, x184_117, x184_118, x184_121, x184_122, x184_124, x184_126, x184_128, x184_131, x184_134, x184_135, x184_138, x184_139, x184_142, x184_143, x184_146, x184_149, x184_150, kb_some, kb_none, clr_vi, clr_ref, clr_null, clr_none, va_rf_some, va_rf_none, ↓bi_ite_t, ↓bi_ite_f, ↓jc_lt_t, ↓jc_lt_f, ↓jc_gt_t, ↓jc_gt_f, ↓jc_le_t, ↓jc_le_f, ↓jc_ge_t, ↓jc_ge_f, ↓jc_eq_t, ↓jc_eq_f, ↓if_pos, ↓if_neg, w1, w2, w3, w4, st_45, st_44, st_b, st_p, q48]
  · by_cases c2 : t (p + 3) = 40
    · rw [if_pos c2] at hw1 ⊢
      have h3 := TN_lt (MT_N hM) c2 (by omega)
      have hh := mx_here (L := L) (d := d + 3) (b := 0) (K := K) (MT_frm hM (sJ_frm (J := J))) (p := p + 4) (by rw [sJ_frm 76 43 (by unfold AT; omega)]; omega)
      have hr := MT_r (p := p + 4) hM
      by_cases c3 : t (p + 4) = 41
      · rw [bi_f (by omega)]
        simp (disch := first | assumption | omega | exact bi_lo | exact bi_hi | exact bi_01 | exact jcmp_lo | exact jcmp_hi | exact (jor_r _ _).1 | exact (jor_r _ _).2 | exact (jand_r _ _).1 | exact (jand_r _ _).2) only [x184_0, x184_1, x184_3, x184_5, x184_7, x184_10, x184_13, x184_14, x184_17, x184_18, x184_21, x184_22, x184_24, x184_27, x184_28, x184_29, x184_32, x184_33, x184_34, x184_37, x184_38, x184_40, x184_43, x184_44, x184_47, x184_48, x184_51, x184_52, x184_55, x184_56, x184_57, x184_58, x184_59, x184_60, x184_63, x184_64, x184_65, x184_68, x184_69, x184_72, x184_75, x184_76, x184_79, x184_81, x184_84, x184_85, x184_88, x184_89, kb_some, kb_none, clr_vi, clr_ref, clr_null, clr_none, va_rf_some, va_rf_none, ↓bi_ite_t, ↓bi_ite_f, ↓jc_lt_t, ↓jc_lt_f, ↓jc_gt_t, ↓jc_gt_f, ↓jc_le_t, ↓jc_le_f, ↓jc_ge_t, ↓jc_ge_f, ↓jc_eq_t, ↓jc_eq_f, ↓if_pos, ↓if_neg, w1, st_45, st_44, st_b, st_p, q48, c103, hw1, z48, z18, est, hh, up_s, up_a, up_j]
      · rw [bi_t (by omega)]
        simp (disch := first | assumption | omega | exact bi_lo | exact bi_hi | exact bi_01 | exact jcmp_lo | exact jcmp_hi | exact (jor_r _ _).1 | exact (jor_r _ _).2 | exact (jand_r _ _).1 | exact (jand_r _ _).2) only [x184_0, x184_1, x184_3, x184_5, x184_7, x184_10, x184_13, x184_14, x184_17, x184_18, x184_21, x184_22, x184_24, x184_27, x184_28, x184_29, x184_32, x184_33, x184_34, x184_37, x184_38, x184_40, x184_43, x184_44, x184_47, x184_48, x184_51, x184_52, x184_55, x184_56, x184_57, x184_58, x184_59, x184_60, x184_63, x184_64, x184_65, x184_68, x184_69, x184_72, x184_75, x184_76, x184_79, x184_81, x184_84, x184_85, x184_88, x184_89, kb_some, kb_none, clr_vi, clr_ref, clr_null, clr_none, va_rf_some, va_rf_none, ↓bi_ite_t, ↓bi_ite_f, ↓jc_lt_t, ↓jc_lt_f, ↓jc_gt_t, ↓jc_gt_f, ↓jc_le_t, ↓jc_le_f, ↓jc_ge_t, ↓jc_ge_f, ↓jc_eq_t, ↓jc_eq_f, ↓if_pos, ↓if_neg, w1, st_45, st_44, st_b, st_p, q48, c103, hw1, z48, z18, est, hh, up_s, up_a, up_j]
    · rw [if_neg c2] at hw1 ⊢
      simp (disch := first | assumption | omega | exact bi_lo | exact bi_hi | exact bi_01 | exact jcmp_lo | exact jcmp_hi | exact (jor_r _ _).1 | exact (jor_r _ _).2 | exact (jand_r _ _).1 | exact (jand_r _ _).2) only [x184_0, x184_1, x184_3, x184_5, x184_7, x184_10, x184_13, x184_14, x184_17, x184_18, x184_21, x184_22, x184_24, x184_27, x184_28, x184_29, x184_32, x184_33, x184_34, x184_37, x184_38, x184_40, x184_43, x184_44, x184_47, x184_48, x184_51, x184_52, x184_55, x184_56, x184_57, x184_58, x184_59, x184_60, x184_63, x184_64, x184_65, x184_68, x184_69, x184_72, x184_75, x184_76, x184_79, x184_81, x184_84, x184_85, x184_88, x184_89, kb_some, kb_none, clr_vi, clr_ref, clr_null, clr_none, va_rf_some, va_rf_none, ↓bi_ite_t, ↓bi_ite_f, ↓jc_lt_t, ↓jc_lt_f, ↓jc_gt_t, ↓jc_gt_f, ↓jc_le_t, ↓jc_le_f, ↓jc_ge_t, ↓jc_ge_f, ↓jc_eq_t, ↓jc_eq_f, ↓if_pos, ↓if_neg, w1, st_45, st_44, st_b, st_p, q48, c103, hw1, z48, z18, est, up_s, up_a, up_j]
end
