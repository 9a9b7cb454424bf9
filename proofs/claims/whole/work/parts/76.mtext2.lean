/-! the reference reads a text: numbers, words, raw, things that come -/
section
variable {L d : Nat} {t : Int → Int} {J K : mJ} {R : mm_R} {p x y b : Int}
theorem mx_number (h : MT t J R) (hp : 0 ≤ p ∧ p ≤ J 76 43) (h18 : 1 ≤ J 76 18 ∧ J 76 18 ≤ 60) : EE (d + 2) 180 0 [some (.ref 76), none, none] [] (SH L) (st J 0 p) K R =
    if isD (t (p + (if t p = 45 then 1 else 0))) then ok none (SH L) (st (mm_up J 87 (J 76 18 - 1).toNat (if t p = 45 then -(dg t 9 (p + (if t p = 45 then 1 else 0)) 0).1 else (dg t 9 (p + (if t p = 45 then 1 else 0)) 0).1)) 0 (dg t 9 (p + (if t p = 45 then 1 else 0)) 0).2) K R
    else ok none (SH L) (st (mm_up J 87 (J 76 18 - 1).toNat 0) 1 (p + (if t p = 45 then 1 else 0))) K R := by
  have hR := h.1
  have hn := h.2.1
  have s76 : (SH L)[76]? = some (11, 58) := rfl; have r76_0 : R 76 0 = some 77 := rr_lk hR rfl; have r76_3 : R 76 3 = some 78 := rr_lk hR rfl; have r76_4 : R 76 4 = some 79 := rr_lk hR rfl; have r76_6 : R 76 6 = some 80 := rr_lk hR rfl; have r76_7 : R 76 7 = some 81 := rr_lk hR rfl; have r76_9 : R 76 9 = some 82 := rr_lk hR rfl; have r76_10 : R 76 10 = some 83 := rr_lk hR rfl; have r76_12 : R 76 12 = some 84 := rr_lk hR rfl; have r76_13 : R 76 13 = some 85 := rr_lk hR rfl; have r76_19 : R 76 19 = some 86 := rr_lk hR rfl; have r76_20 : R 76 20 = some 87 := rr_lk hR rfl; have r76_21 : R 76 21 = some 88 := rr_lk hR rfl; have r76_22 : R 76 22 = some 89 := rr_lk hR rfl; have r76_24 : R 76 24 = some 90 := rr_lk hR rfl; have r76_25 : R 76 25 = some 91 := rr_lk hR rfl; have r76_26 : R 76 26 = some 92 := rr_lk hR rfl; have r76_28 : R 76 28 = some 93 := rr_lk hR rfl; have r76_29 : R 76 29 = some 94 := rr_lk hR rfl; have r76_30 : R 76 30 = some 95 := rr_lk hR rfl; have r76_31 : R 76 31 = some 96 := rr_lk hR rfl; have r76_32 : R 76 32 = some 97 := rr_lk hR rfl; have r76_36 : R 76 36 = some 98 := rr_lk hR rfl; have r76_38 : R 76 38 = some 99 := rr_lk hR rfl; have r76_39 : R 76 39 = some 100 := rr_lk hR rfl; have r76_40 : R 76 40 = some 101 := rr_lk hR rfl; have r76_41 : R 76 41 = some 102 := rr_lk hR rfl; have r76_42 : R 76 42 = some 103 := rr_lk hR rfl; have r76_47 : R 76 47 = some 104 := rr_lk hR rfl; have r76_53 : R 76 53 = some 105 := rr_lk hR rfl; have r76_54 : R 76 54 = some 106 := rr_lk hR rfl; have r76_55 : R 76 55 = some 107 := rr_lk hR rfl; have r76_56 : R 76 56 = some 108 := rr_lk hR rfl; have r76_57 : R 76 57 = some 109 := rr_lk hR rfl; have s87 : (SH L)[87]? = some (20, 60) := rfl
  have hh := mx_here (L := L) (d := d + 1) (b := 0) (K := K) h hp
  have hr := MT_r (p := p) h
  have e18 : ∀ b p, st J b p 76 18 = J 76 18 := fun b p => st_o (by decide)
  have eup : ∀ b p v, mm_up (st J b p) 87 (J 76 18 - 1).toNat v = st (mm_up J 87 (J 76 18 - 1).toNat v) b p := fun b p v => st_up (by omega)
  by_cases c1 : t p = 45
  · have hlt := TN_lt (MT_N h) c1 (by omega)
    have hd := mx_digits (L := L) (d := d) (K := K) (x := 9) (p := p + 1) h (by omega) (by omega)
    simp only [c1, if_true]
    by_cases c2 : isD (t (p + 1))
    · rw [if_pos c2] at hd ⊢
      rw [show (9 : Int).toNat = 9 from rfl] at hd
      simp (disch := first | assumption | omega | exact bi_lo | exact bi_hi | exact bi_01 | exact jcmp_lo | exact jcmp_hi | exact (jor_r _ _).1 | exact (jor_r _ _).2 | exact (jand_r _ _).1 | exact (jand_r _ _).2) only [x180_0, x180_1, x180_4, x180_7, x180_8, x180_11, x180_13, x180_16, x180_17, x180_20, x180_21, x180_22, x180_23, x180_24, x180_27, x180_28, x180_31, x180_32, x180_35, x180_36, x180_37, x180_40, x180_41, x180_43, x180_46, x180_47, x180_48, x180_51, x180_52, x180_55, x180_56, x180_57, x180_58, x180_61, x180_62, x180_63, x180_66, x180_67, x180_68, kb_some, kb_none, clr_vi, clr_ref, clr_null, clr_none, va_rf_some, va_rf_none, ↓bi_ite_t, ↓bi_ite_f, ↓jc_lt_t, ↓jc_lt_f, ↓jc_gt_t, ↓jc_gt_f, ↓jc_le_t, ↓jc_le_f, ↓jc_ge_t, ↓jc_ge_f, ↓jc_eq_t, ↓jc_eq_f, ↓if_pos, ↓if_neg, st_45, st_44, hh, st_p, hd, e18, eup]
    · rw [if_neg c2] at hd ⊢
      simp (disch := first | assumption | omega | exact bi_lo | exact bi_hi | exact bi_01 | exact jcmp_lo | exact jcmp_hi | exact (jor_r _ _).1 | exact (jor_r _ _).2 | exact (jand_r _ _).1 | exact (jand_r _ _).2) only [x180_0, x180_1, x180_4, x180_7, x180_8, x180_11, x180_13, x180_16, x180_17, x180_20, x180_21, x180_22, x180_23, x180_24, x180_27, x180_28, x180_31, x180_32, x180_35, x180_36, x180_37, x180_40, x180_41, x180_43, x180_46, x180_47, x180_48, x180_51, x180_52, x180_55, x180_56, x180_57, x180_58, x180_61, x180_62, x180_63, x180_66, x180_67, x180_68, kb_some, kb_none, clr_vi, clr_ref, clr_null, clr_none, va_rf_some, va_rf_none, ↓bi_ite_t, ↓bi_ite_f, ↓jc_lt_t, ↓jc_lt_f, ↓jc_gt_t, ↓jc_gt_f, ↓jc_le_t, ↓jc_le_f, ↓jc_ge_t, ↓jc_ge_f, ↓jc_eq_t, ↓jc_eq_f, ↓if_pos, ↓if_neg, st_45, st_44, hh, st_p, hd, e18, eup]
      rfl
  · have hd := mx_digits (L := L) (d := d) (K := K) (x := 9) (p := p) h (by omega) hp
    simp only [c1, if_false, Int.add_zero]
    by_cases c2 : isD (t p)
    · rw [if_pos c2] at hd ⊢
      rw [show (9 : Int).toNat = 9 from rfl] at hd
      simp (disch := first | assumption | omega | exact bi_lo | exact bi_hi | exact bi_01 | exact jcmp_lo | exact jcmp_hi | exact (jor_r _ _).1 | exact (jor_r _ _).2 | exact (jand_r _ _).1 | exact (jand_r _ _).2) only [x180_0, x180_1, x180_4, x180_7, x180_8, x180_11, x180_13, x180_16, x180_17, x180_20, x180_21, x180_22, x180_23, x180_24, x180_27, x180_28, x180_31, x180_32, x180_35, x180_36, x180_37, x180_40, x180_41, x180_43, x180_46, x180_47, x180_48, x180_51, x180_52, x180_55, x180_56, x180_57, x180_58, x180_61, x180_62, x180_63, x180_66, x180_67, x180_68, kb_some, kb_none, clr_vi, clr_ref, clr_null, clr_none, va_rf_some, va_rf_none, ↓bi_ite_t, ↓bi_ite_f, ↓jc_lt_t, ↓jc_lt_f, ↓jc_gt_t, ↓jc_gt_f, ↓jc_le_t, ↓jc_le_f, ↓jc_ge_t, ↓jc_ge_f, ↓jc_eq_t, ↓jc_eq_f, ↓if_pos, ↓if_neg, st_45, st_44, hh, st_p, hd, e18, eup, Int.add_zero]
    · rw [if_neg c2] at hd ⊢
      simp (disch := first | assumption | omega | exact bi_lo | exact bi_hi | exact bi_01 | exact jcmp_lo | exact jcmp_hi | exact (jor_r _ _).1 | exact (jor_r _ _).2 | exact (jand_r _ _).1 | exact (jand_r _ _).2) only [x180_0, x180_1, x180_4, x180_7, x180_8, x180_11, x180_13, x180_16, x180_17, x180_20, x180_21, x180_22, x180_23, x180_24, x180_27, x180_28, x180_31, x180_32, x180_35, x180_36, x180_37, x180_40, x180_41, x180_43, x180_46, x180_47, x180_48, x180_51, x180_52, x180_55, x180_56, x180_57, x180_58, x180_61, x180_62, x180_63, x180_66, x180_67, x180_68, kb_some, kb_none, clr_vi, clr_ref, clr_null, clr_none, va_rf_some, va_rf_none, ↓bi_ite_t, ↓bi_ite_f, ↓jc_lt_t, ↓jc_lt_f, ↓jc_gt_t, ↓jc_gt_f, ↓jc_le_t, ↓jc_le_f, ↓jc_ge_t, ↓jc_ge_f, ↓jc_eq_t, ↓jc_eq_f, ↓if_pos, ↓if_neg, st_45, st_44, hh, st_p, hd, e18, eup, Int.add_zero]
theorem mx_number1 (h : MT t J R) (h18 : 1 ≤ J 76 18 ∧ J 76 18 ≤ 60) : EE (d + 2) 180 0 [some (.ref 76), none, none] [] (SH L) (st J 1 p) K R = ok none (SH L) (st (mm_up J 87 (J 76 18 - 1).toNat 0) 1 p) K R := by
  have hR := h.1
  have s76 : (SH L)[76]? = some (11, 58) := rfl; have r76_0 : R 76 0 = some 77 := rr_lk hR rfl; have r76_3 : R 76 3 = some 78 := rr_lk hR rfl; have r76_4 : R 76 4 = some 79 := rr_lk hR rfl; have r76_6 : R 76 6 = some 80 := rr_lk hR rfl; have r76_7 : R 76 7 = some 81 := rr_lk hR rfl; have r76_9 : R 76 9 = some 82 := rr_lk hR rfl; have r76_10 : R 76 10 = some 83 := rr_lk hR rfl; have r76_12 : R 76 12 = some 84 := rr_lk hR rfl; have r76_13 : R 76 13 = some 85 := rr_lk hR rfl; have r76_19 : R 76 19 = some 86 := rr_lk hR rfl; have r76_20 : R 76 20 = some 87 := rr_lk hR rfl; have r76_21 : R 76 21 = some 88 := rr_lk hR rfl; have r76_22 : R 76 22 = some 89 := rr_lk hR rfl; have r76_24 : R 76 24 = some 90 := rr_lk hR rfl; have r76_25 : R 76 25 = some 91 := rr_lk hR rfl; have r76_26 : R 76 26 = some 92 := rr_lk hR rfl; have r76_28 : R 76 28 = some 93 := rr_lk hR rfl; have r76_29 : R 76 29 = some 94 := rr_lk hR rfl; have r76_30 : R 76 30 = some 95 := rr_lk hR rfl; have r76_31 : R 76 31 = some 96 := rr_lk hR rfl; have r76_32 : R 76 32 = some 97 := rr_lk hR rfl; have r76_36 : R 76 36 = some 98 := rr_lk hR rfl; have r76_38 : R 76 38 = some 99 := rr_lk hR rfl; have r76_39 : R 76 39 = some 100 := rr_lk hR rfl; have r76_40 : R 76 40 = some 101 := rr_lk hR rfl; have r76_41 : R 76 41 = some 102 := rr_lk hR rfl; have r76_42 : R 76 42 = some 103 := rr_lk hR rfl; have r76_47 : R 76 47 = some 104 := rr_lk hR rfl; have r76_53 : R 76 53 = some 105 := rr_lk hR rfl; have r76_54 : R 76 54 = some 106 := rr_lk hR rfl; have r76_55 : R 76 55 = some 107 := rr_lk hR rfl; have r76_56 : R 76 56 = some 108 := rr_lk hR rfl; have r76_57 : R 76 57 = some 109 := rr_lk hR rfl; have s87 : (SH L)[87]? = some (20, 60) := rfl
  have e18 : ∀ b p, st J b p 76 18 = J 76 18 := fun b p => st_o (by decide)
  have eup : ∀ b p v, mm_up (st J b p) 87 (J 76 18 - 1).toNat v = st (mm_up J 87 (J 76 18 - 1).toNat v) b p := fun b p v => st_up (by omega)
  have hd := mx_digits1 (L := L) (d := d) (K := K) (x := 9) (p := p) h (by omega)
  simp (disch := first | assumption | omega | exact bi_lo | exact bi_hi | exact bi_01 | exact jcmp_lo | exact jcmp_hi | exact (jor_r _ _).1 | exact (jor_r _ _).2 | exact (jand_r _ _).1 | exact (jand_r _ _).2) only [x180_0, x180_1, x180_4, x180_7, x180_8, x180_11, x180_13, x180_16, x180_17, x180_20, x180_21, x180_22, x180_23, x180_24, x180_27, x180_28, x180_31, x180_32, x180_35, x180_36, x180_37, x180_40, x180_41, x180_43, x180_46, x180_47, x180_48, x180_51, x180_52, x180_55, x180_56, x180_57, x180_58, x180_61, x180_62, x180_63, x180_66, x180_67, x180_68, kb_some, kb_none, clr_vi, clr_ref, clr_null, clr_none, va_rf_some, va_rf_none, ↓bi_ite_t, ↓bi_ite_f, ↓jc_lt_t, ↓jc_lt_f, ↓jc_gt_t, ↓jc_gt_f, ↓jc_le_t, ↓jc_le_f, ↓jc_ge_t, ↓jc_ge_f, ↓jc_eq_t, ↓jc_eq_f, ↓if_pos, ↓if_neg, st_45, st_44, st_p, hd, e18, eup, Int.add_zero]
theorem l_mletters (h : MT t J R) (h18 : 1 ≤ J 76 18 ∧ J 76 18 ≤ 60) (h46 : 0 ≤ J 76 46) : ∀ (m : Nat) (k p : Int) (l : List Int), (20 - k).toNat = m → 0 ≤ k ∧ k ≤ 20 → 0 ≤ p → p ≤ J 76 43 → J 76 46 + l.length ≤ p →
    EE (d + 2) 181 2 [some (.ref 76), some (vi k)] [] (SH L) (st (tML J l) 0 p) K R = ok none (SH L) (st (tML J (l ++ rowL t (lc t m p) p)) 0 (p + (lc t m p : Nat))) K R := by
  have hR := h.1
  have hn := h.2.1
  have s76 : (SH L)[76]? = some (11, 58) := rfl; have r76_0 : R 76 0 = some 77 := rr_lk hR rfl; have r76_3 : R 76 3 = some 78 := rr_lk hR rfl; have r76_4 : R 76 4 = some 79 := rr_lk hR rfl; have r76_6 : R 76 6 = some 80 := rr_lk hR rfl; have r76_7 : R 76 7 = some 81 := rr_lk hR rfl; have r76_9 : R 76 9 = some 82 := rr_lk hR rfl; have r76_10 : R 76 10 = some 83 := rr_lk hR rfl; have r76_12 : R 76 12 = some 84 := rr_lk hR rfl; have r76_13 : R 76 13 = some 85 := rr_lk hR rfl; have r76_19 : R 76 19 = some 86 := rr_lk hR rfl; have r76_20 : R 76 20 = some 87 := rr_lk hR rfl; have r76_21 : R 76 21 = some 88 := rr_lk hR rfl; have r76_22 : R 76 22 = some 89 := rr_lk hR rfl; have r76_24 : R 76 24 = some 90 := rr_lk hR rfl; have r76_25 : R 76 25 = some 91 := rr_lk hR rfl; have r76_26 : R 76 26 = some 92 := rr_lk hR rfl; have r76_28 : R 76 28 = some 93 := rr_lk hR rfl; have r76_29 : R 76 29 = some 94 := rr_lk hR rfl; have r76_30 : R 76 30 = some 95 := rr_lk hR rfl; have r76_31 : R 76 31 = some 96 := rr_lk hR rfl; have r76_32 : R 76 32 = some 97 := rr_lk hR rfl; have r76_36 : R 76 36 = some 98 := rr_lk hR rfl; have r76_38 : R 76 38 = some 99 := rr_lk hR rfl; have r76_39 : R 76 39 = some 100 := rr_lk hR rfl; have r76_40 : R 76 40 = some 101 := rr_lk hR rfl; have r76_41 : R 76 41 = some 102 := rr_lk hR rfl; have r76_42 : R 76 42 = some 103 := rr_lk hR rfl; have r76_47 : R 76 47 = some 104 := rr_lk hR rfl; have r76_53 : R 76 53 = some 105 := rr_lk hR rfl; have r76_54 : R 76 54 = some 106 := rr_lk hR rfl; have r76_55 : R 76 55 = some 107 := rr_lk hR rfl; have r76_56 : R 76 56 = some 108 := rr_lk hR rfl; have r76_57 : R 76 57 = some 109 := rr_lk hR rfl; have s87 : (SH L)[87]? = some (20, 60) := rfl; have s102 : (SH L)[102]? = some (20, 200) := rfl; have s103 : (SH L)[103]? = some (20, 100) := rfl
  have hM : ∀ l, MT t (tML J l) R := fun l => MT_o h (tML_o h46 (by omega)) (by funext j; exact tML_o h46 (by omega))
  have e43 : ∀ l, tML J l 76 43 = J 76 43 := fun l => tML_o h46 (by omega)
  have e103 : ∀ l j, tML J l 103 j = J 103 j := fun l j => tML_o h46 (by omega)
  intro m
  induction m with
  | zero =>
    intro k p l hm hk hp0 hp hc
    have e : lc t 0 p = 0 := rfl
    rw [e]
    show _ = ok none (SH L) (st (tML J (l ++ [])) 0 (p + ((0 : Nat) : Int))) K R
    rw [List.append_nil, show p + ((0 : Nat) : Int) = p by omega]
    simp (disch := first | assumption | omega | exact bi_lo | exact bi_hi | exact bi_01 | exact jcmp_lo | exact jcmp_hi | exact (jor_r _ _).1 | exact (jor_r _ _).2 | exact (jand_r _ _).1 | exact (jand_r _ _).2) only [x181_2, x181_3, x181_5, x181_85, kb_some, kb_none, clr_vi, clr_ref, clr_null, clr_none, va_rf_some, va_rf_none, ↓bi_ite_t, ↓bi_ite_f, ↓jc_lt_t, ↓jc_lt_f, ↓jc_gt_t, ↓jc_gt_f, ↓jc_le_t, ↓jc_le_f, ↓jc_ge_t, ↓jc_ge_f, ↓jc_eq_t, ↓jc_eq_f, ↓if_pos, ↓if_neg]
  | succ m ih =>
    intro k p l hm hk hp0 hp hc
    have hl := mx_isL (L := L) (d := d) (b := 0) (p := p) (K := K) (hM l) (x := p) (by omega)
    by_cases c : isL (t p)
    · rw [bi_t c] at hl
      have hpn : p < J 76 43 := by
        by_cases c2 : J 76 43 ≤ p
        · have := MT_N h p c2; omega
        · omega
      have e : lc t (m + 1) p = lc t m (p + 1) + 1 := by
        rw [show lc t (m + 1) p = if isL (t p) then lc t m (p + 1) + 1 else 0 from rfl, if_pos c]
      have ha := MT_at h hp0 hpn
      have ih' := ih (k + 1) (p + 1) (l ++ [t p]) (by omega) (by omega) (by omega) (by omega) (by simp; omega)
      rw [e]
      have go : ∀ X, EE (d + 2) 181 2 [some (.ref 76), some (vi (k + 1))] [] (SH L) (st (tML J (l ++ [t p])) 0 (p + 1)) K R = X → EE (d + 2) 181 2 [some (.ref 76), some (vi k)] [] (SH L) (st (tML J l) 0 p) K R = X := by
        intro X hX
        have q103 : ∀ j, st (tML J l) 0 p 103 j = J 103 j := fun j => by rw [st_o (by omega), e103]
        have q46 : st (tML J l) 0 p 76 46 = J 76 46 + l.length := by rw [st_o (by decide), tML_46]
        have q18 : st (tML J l) 0 p 76 18 = J 76 18 := by rw [st_o (by decide), tML_18]
        have q45 : st (tML J l) 0 p 76 45 = 0 := st_45
        have q44 : st (tML J l) 0 p 76 44 = p := st_44
        have est : mm_up (mm_up (mm_up (mm_up (st (tML J l) 0 p) 102 (J 76 46 + l.length).toNat (t p)) 76 46 (J 76 46 + l.length + 1)) 87 (J 76 18 - 1).toNat (st (tML J l) 0 p 87 (J 76 18 - 1).toNat + 1)) 76 44 (p + 1) = st (tML J (l ++ [t p])) 0 (p + 1) := by
          rw [← tML_snoc, ← q46, ← q18]
          have e1 : mm_up (mm_up (mm_up (st (tML J l) 0 p) 102 (st (tML J l) 0 p 76 46).toNat (t p)) 76 46 (st (tML J l) 0 p 76 46 + 1)) 87 (st (tML J l) 0 p 76 18 - 1).toNat (st (tML J l) 0 p 87 (st (tML J l) 0 p 76 18 - 1).toNat + 1) = tM (st (tML J l) 0 p) (t p) := rfl
          rw [e1, tM_st, st_p]
        rw [← est] at hX
        simp (disch := first | assumption | omega | exact bi_lo | exact bi_hi | exact bi_01 | exact jcmp_lo | exact jcmp_hi | exact (jor_r _ _).1 | exact (jor_r _ _).2 | exact (jand_r _ _).1 | exact (jand_r _ _).2) only [x181_2, x181_3, x181_5, kb_some, kb_none, clr_vi, clr_ref, clr_null, clr_none, va_rf_some, va_rf_none, ↓bi_ite_t, ↓bi_ite_f, ↓jc_lt_t, ↓jc_lt_f, ↓jc_gt_t, ↓jc_gt_f, ↓jc_le_t, ↓jc_le_f, ↓jc_ge_t, ↓jc_ge_f, ↓jc_eq_t, ↓jc_eq_f, ↓if_pos, ↓if_neg]
        simp (disch := first | assumption | omega | exact bi_lo | exact bi_hi | exact bi_01 | exact jcmp_lo | exact jcmp_hi | exact (jor_r _ _).1 | exact (jor_r _ _).2 | exact (jand_r _ _).1 | exact (jand_r _ _).2) only [x181_8, x181_9, x181_12, x181_15, x181_16, x181_17, x181_20, x181_23, x181_26, x181_27, x181_30, x181_31, x181_34, x181_35, x181_38, x181_39, x181_42, x181_43, x181_44, x181_45, x181_46, x181_49, x181_50, x181_51, x181_54, x181_55, x181_58, x181_59, x181_62, x181_63, x181_64, x181_65, x181_66, x181_67, x181_68, x181_69, x181_70, x181_71, x181_74, x181_75, x181_76, x181_79, x181_82, kb_some, kb_none, clr_vi, clr_ref, clr_null, clr_none, va_rf_some, va_rf_none, ↓bi_ite_t, ↓bi_ite_f, ↓jc_lt_t, ↓jc_lt_f, ↓jc_gt_t, ↓jc_gt_f, ↓jc_le_t, ↓jc_le_f, ↓jc_ge_t, ↓jc_ge_f, ↓jc_eq_t, ↓jc_eq_f, ↓if_pos, ↓if_neg, q45, q44, hl, q46, q103, ha, q18, up_a, up_j]
        exact hX
      rw [go _ ih', rowL_s, List.append_assoc, show p + 1 + (lc t m (p + 1) : Nat) = p + ((lc t m (p + 1) + 1 : Nat) : Int) by omega]
      rfl
    · rw [bi_f c] at hl
      have e : lc t (m + 1) p = 0 := by
        rw [show lc t (m + 1) p = if isL (t p) then lc t m (p + 1) + 1 else 0 from rfl, if_neg c]
      rw [e]
      show _ = ok none (SH L) (st (tML J (l ++ [])) 0 (p + ((0 : Nat) : Int))) K R
      rw [List.append_nil, show p + ((0 : Nat) : Int) = p by omega]
      simp (disch := first | assumption | omega | exact bi_lo | exact bi_hi | exact bi_01 | exact jcmp_lo | exact jcmp_hi | exact (jor_r _ _).1 | exact (jor_r _ _).2 | exact (jand_r _ _).1 | exact (jand_r _ _).2) only [x181_2, x181_3, x181_5, kb_some, kb_none, clr_vi, clr_ref, clr_null, clr_none, va_rf_some, va_rf_none, ↓bi_ite_t, ↓bi_ite_f, ↓jc_lt_t, ↓jc_lt_f, ↓jc_gt_t, ↓jc_gt_f, ↓jc_le_t, ↓jc_le_f, ↓jc_ge_t, ↓jc_ge_f, ↓jc_eq_t, ↓jc_eq_f, ↓if_pos, ↓if_neg]
      simp (disch := first | assumption | omega | exact bi_lo | exact bi_hi | exact bi_01 | exact jcmp_lo | exact jcmp_hi | exact (jor_r _ _).1 | exact (jor_r _ _).2 | exact (jand_r _ _).1 | exact (jand_r _ _).2) only [x181_8, x181_9, x181_12, x181_15, x181_16, x181_17, x181_20, x181_23, x181_85, kb_some, kb_none, clr_vi, clr_ref, clr_null, clr_none, va_rf_some, va_rf_none, ↓bi_ite_t, ↓bi_ite_f, ↓jc_lt_t, ↓jc_lt_f, ↓jc_gt_t, ↓jc_gt_f, ↓jc_le_t, ↓jc_le_f, ↓jc_ge_t, ↓jc_ge_f, ↓jc_eq_t, ↓jc_eq_f, ↓if_pos, ↓if_neg, st_45, st_44, hl]
theorem mx_letters1 : EE (d + 2) 181 0 [some (.ref 76), none] [] (SH L) (st J 1 p) K R = ok none (SH L) (st J 1 p) K R := by
  have s76 : (SH L)[76]? = some (11, 58) := rfl
  simp (disch := first | assumption | omega | exact bi_lo | exact bi_hi | exact bi_01 | exact jcmp_lo | exact jcmp_hi | exact (jor_r _ _).1 | exact (jor_r _ _).2 | exact (jand_r _ _).1 | exact (jand_r _ _).2) only [x181_0, x181_1, x181_2, x181_3, x181_5, x181_8, x181_9, x181_12, x181_85, kb_some, kb_none, clr_vi, clr_ref, clr_null, clr_none, va_rf_some, va_rf_none, ↓bi_ite_t, ↓bi_ite_f, ↓jc_lt_t, ↓jc_lt_f, ↓jc_gt_t, ↓jc_gt_f, ↓jc_le_t, ↓jc_le_f, ↓jc_ge_t, ↓jc_ge_f, ↓jc_eq_t, ↓jc_eq_f, ↓if_pos, ↓if_neg, st_45]
theorem mx_byte (h : MT t J R) (hp : 0 ≤ p ∧ p ≤ J 76 43) (h18 : 1 ≤ J 76 18 ∧ J 76 18 ≤ 60) (h46 : 0 ≤ J 76 46 ∧ J 76 46 < 200) : match rbB t p with
    | .error e => ∃ v, EE (d + 2) 182 0 [some (.ref 76), none] [] (SH L) (st J 0 p) K R = ok none (SH L) (st (tM J v) 1 e) K R
    | .ok r => EE (d + 2) 182 0 [some (.ref 76), none] [] (SH L) (st J 0 p) K R = ok none (SH L) (st (tM J r.1) 0 r.2) K R := by
  have hR := h.1
  have hn := h.2.1
  have s76 : (SH L)[76]? = some (11, 58) := rfl; have r76_0 : R 76 0 = some 77 := rr_lk hR rfl; have r76_3 : R 76 3 = some 78 := rr_lk hR rfl; have r76_4 : R 76 4 = some 79 := rr_lk hR rfl; have r76_6 : R 76 6 = some 80 := rr_lk hR rfl; have r76_7 : R 76 7 = some 81 := rr_lk hR rfl; have r76_9 : R 76 9 = some 82 := rr_lk hR rfl; have r76_10 : R 76 10 = some 83 := rr_lk hR rfl; have r76_12 : R 76 12 = some 84 := rr_lk hR rfl; have r76_13 : R 76 13 = some 85 := rr_lk hR rfl; have r76_19 : R 76 19 = some 86 := rr_lk hR rfl; have r76_20 : R 76 20 = some 87 := rr_lk hR rfl; have r76_21 : R 76 21 = some 88 := rr_lk hR rfl; have r76_22 : R 76 22 = some 89 := rr_lk hR rfl; have r76_24 : R 76 24 = some 90 := rr_lk hR rfl; have r76_25 : R 76 25 = some 91 := rr_lk hR rfl; have r76_26 : R 76 26 = some 92 := rr_lk hR rfl; have r76_28 : R 76 28 = some 93 := rr_lk hR rfl; have r76_29 : R 76 29 = some 94 := rr_lk hR rfl; have r76_30 : R 76 30 = some 95 := rr_lk hR rfl; have r76_31 : R 76 31 = some 96 := rr_lk hR rfl; have r76_32 : R 76 32 = some 97 := rr_lk hR rfl; have r76_36 : R 76 36 = some 98 := rr_lk hR rfl; have r76_38 : R 76 38 = some 99 := rr_lk hR rfl; have r76_39 : R 76 39 = some 100 := rr_lk hR rfl; have r76_40 : R 76 40 = some 101 := rr_lk hR rfl; have r76_41 : R 76 41 = some 102 := rr_lk hR rfl; have r76_42 : R 76 42 = some 103 := rr_lk hR rfl; have r76_47 : R 76 47 = some 104 := rr_lk hR rfl; have r76_53 : R 76 53 = some 105 := rr_lk hR rfl; have r76_54 : R 76 54 = some 106 := rr_lk hR rfl; have r76_55 : R 76 55 = some 107 := rr_lk hR rfl; have r76_56 : R 76 56 = some 108 := rr_lk hR rfl; have r76_57 : R 76 57 = some 109 := rr_lk hR rfl; have s87 : (SH L)[87]? = some (20, 60) := rfl; have s102 : (SH L)[102]? = some (20, 200) := rfl
  have hd := mx_digits (L := L) (d := d) (K := K) (x := 3) (p := p) h (by omega) hp
  have q46 : ∀ b p, st J b p 76 46 = J 76 46 := fun b p => st_o (by decide)
  have q18 : ∀ b p, st J b p 76 18 = J 76 18 := fun b p => st_o (by decide)
  have q87 : ∀ b p j, st J b p 87 j = J 87 j := fun b p j => st_o (by omega)
  have est : ∀ b p v, mm_up (mm_up (mm_up (st J b p) 102 (J 76 46).toNat v) 76 46 (J 76 46 + 1)) 87 (J 76 18 - 1).toNat (J 87 (J 76 18 - 1).toNat + 1) = st (tM J v) b p := by
    intro b p v
    rw [← tM_st]
    unfold tM
    rw [q46, q18, q87]
  unfold rbB
  by_cases c : isD (t p)
  · rw [if_pos c] at hd ⊢
    rw [show (3 : Int).toNat = 3 from rfl] at hd
    obtain ⟨d1, d2, d3, d4, d5, d6⟩ := dg_r (MT_N h) 3 p 0 hp.2 (by omega)
    have d2' : (dg t 3 p 0).1 + 1 ≤ (0 + 1) * 1000 := d2
    by_cases c2 : 255 < (dg t 3 p 0).1
    · rw [if_pos c2]
      refine ⟨(dg t 3 p 0).1, ?_⟩
      simp (disch := first | assumption | omega | exact bi_lo | exact bi_hi | exact bi_01 | exact jcmp_lo | exact jcmp_hi | exact (jor_r _ _).1 | exact (jor_r _ _).2 | exact (jand_r _ _).1 | exact (jand_r _ _).2) only [x182_0, x182_1, x182_2, x182_5, x182_6, x182_7, x182_10, x182_13, x182_14, x182_15, x182_18, x182_19, x182_20, x182_23, x182_24, x182_25, x182_28, x182_29, x182_32, x182_33, x182_36, x182_37, x182_38, x182_39, x182_40, x182_43, x182_44, x182_45, x182_48, x182_49, x182_52, x182_53, x182_56, x182_57, x182_58, x182_59, x182_60, x182_61, x182_62, x182_63, kb_some, kb_none, clr_vi, clr_ref, clr_null, clr_none, va_rf_some, va_rf_none, ↓bi_ite_t, ↓bi_ite_f, ↓jc_lt_t, ↓jc_lt_f, ↓jc_gt_t, ↓jc_gt_f, ↓jc_le_t, ↓jc_le_f, ↓jc_ge_t, ↓jc_ge_f, ↓jc_eq_t, ↓jc_eq_f, ↓if_pos, ↓if_neg, hd, st_b, st_44, st_p, q46, q18, q87, up_a, up_j, est]
    · rw [if_neg c2]
      simp only
      simp (disch := first | assumption | omega | exact bi_lo | exact bi_hi | exact bi_01 | exact jcmp_lo | exact jcmp_hi | exact (jor_r _ _).1 | exact (jor_r _ _).2 | exact (jand_r _ _).1 | exact (jand_r _ _).2) only [x182_0, x182_1, x182_2, x182_5, x182_6, x182_7, x182_10, x182_13, x182_14, x182_15, x182_18, x182_19, x182_20, x182_23, x182_24, x182_25, x182_28, x182_29, x182_32, x182_33, x182_36, x182_37, x182_38, x182_39, x182_40, x182_43, x182_44, x182_45, x182_48, x182_49, x182_52, x182_53, x182_56, x182_57, x182_58, x182_59, x182_60, x182_61, x182_62, x182_63, kb_some, kb_none, clr_vi, clr_ref, clr_null, clr_none, va_rf_some, va_rf_none, ↓bi_ite_t, ↓bi_ite_f, ↓jc_lt_t, ↓jc_lt_f, ↓jc_gt_t, ↓jc_gt_f, ↓jc_le_t, ↓jc_le_f, ↓jc_ge_t, ↓jc_ge_f, ↓jc_eq_t, ↓jc_eq_f, ↓if_pos, ↓if_neg, hd, q46, q18, q87, up_a, up_j, est]
  · rw [if_neg c] at hd ⊢
    refine ⟨0, ?_⟩
    simp (disch := first | assumption | omega | exact bi_lo | exact bi_hi | exact bi_01 | exact jcmp_lo | exact jcmp_hi | exact (jor_r _ _).1 | exact (jor_r _ _).2 | exact (jand_r _ _).1 | exact (jand_r _ _).2) only [x182_0, x182_1, x182_2, x182_5, x182_6, x182_7, x182_10, x182_13, x182_14, x182_15, x182_18, x182_19, x182_20, x182_23, x182_24, x182_25, x182_28, x182_29, x182_32, x182_33, x182_36, x182_37, x182_38, x182_39, x182_40, x182_43, x182_44, x182_45, x182_48, x182_49, x182_52, x182_53, x182_56, x182_57, x182_58, x182_59, x182_60, x182_61, x182_62, x182_63, kb_some, kb_none, clr_vi, clr_ref, clr_null, clr_none, va_rf_some, va_rf_none, ↓bi_ite_t, ↓bi_ite_f, ↓jc_lt_t, ↓jc_lt_f, ↓jc_gt_t, ↓jc_gt_f, ↓jc_le_t, ↓jc_le_f, ↓jc_ge_t, ↓jc_ge_f, ↓jc_eq_t, ↓jc_eq_f, ↓if_pos, ↓if_neg, hd, q46, q18, q87, up_a, up_j, est]
theorem l_mbytes (h : MT t J R) (h18 : 1 ≤ J 76 18 ∧ J 76 18 ≤ 60) (h46 : 0 ≤ J 76 46) (h87 : J 87 (J 76 18 - 1).toNat = 0) : ∀ (m : Nat) (p : Int) (l : List Int), l.length + m = 19 → 0 ≤ p → p ≤ J 76 43 → J 76 46 + l.length ≤ p →
    match rwF t m p with
    | .error e => ∃ l', EE (d + 3) 183 25 [some (.ref 76)] [] (SH L) (st (tML J l) 0 p) K R = ok none (SH L) (st (tML J l') 1 e) K R
    | .ok s => EE (d + 3) 183 25 [some (.ref 76)] [] (SH L) (st (tML J l) 0 p) K R = ok none (SH L) (st (tML J (l ++ s.1)) 0 s.2) K R := by
  have hR := h.1
  have hn := h.2.1
  have s76 : (SH L)[76]? = some (11, 58) := rfl; have r76_0 : R 76 0 = some 77 := rr_lk hR rfl; have r76_3 : R 76 3 = some 78 := rr_lk hR rfl; have r76_4 : R 76 4 = some 79 := rr_lk hR rfl; have r76_6 : R 76 6 = some 80 := rr_lk hR rfl; have r76_7 : R 76 7 = some 81 := rr_lk hR rfl; have r76_9 : R 76 9 = some 82 := rr_lk hR rfl; have r76_10 : R 76 10 = some 83 := rr_lk hR rfl; have r76_12 : R 76 12 = some 84 := rr_lk hR rfl; have r76_13 : R 76 13 = some 85 := rr_lk hR rfl; have r76_19 : R 76 19 = some 86 := rr_lk hR rfl; have r76_20 : R 76 20 = some 87 := rr_lk hR rfl; have r76_21 : R 76 21 = some 88 := rr_lk hR rfl; have r76_22 : R 76 22 = some 89 := rr_lk hR rfl; have r76_24 : R 76 24 = some 90 := rr_lk hR rfl; have r76_25 : R 76 25 = some 91 := rr_lk hR rfl; have r76_26 : R 76 26 = some 92 := rr_lk hR rfl; have r76_28 : R 76 28 = some 93 := rr_lk hR rfl; have r76_29 : R 76 29 = some 94 := rr_lk hR rfl; have r76_30 : R 76 30 = some 95 := rr_lk hR rfl; have r76_31 : R 76 31 = some 96 := rr_lk hR rfl; have r76_32 : R 76 32 = some 97 := rr_lk hR rfl; have r76_36 : R 76 36 = some 98 := rr_lk hR rfl; have r76_38 : R 76 38 = some 99 := rr_lk hR rfl; have r76_39 : R 76 39 = some 100 := rr_lk hR rfl; have r76_40 : R 76 40 = some 101 := rr_lk hR rfl; have r76_41 : R 76 41 = some 102 := rr_lk hR rfl; have r76_42 : R 76 42 = some 103 := rr_lk hR rfl; have r76_47 : R 76 47 = some 104 := rr_lk hR rfl; have r76_53 : R 76 53 = some 105 := rr_lk hR rfl; have r76_54 : R 76 54 = some 106 := rr_lk hR rfl; have r76_55 : R 76 55 = some 107 := rr_lk hR rfl; have r76_56 : R 76 56 = some 108 := rr_lk hR rfl; have r76_57 : R 76 57 = some 109 := rr_lk hR rfl; have s87 : (SH L)[87]? = some (20, 60) := rfl
  have hM : ∀ l, MT t (tML J l) R := fun l => MT_o h (tML_o h46 (by omega)) (by funext j; exact tML_o h46 (by omega))
  have e43 : ∀ l, tML J l 76 43 = J 76 43 := fun l => tML_o h46 (by omega)
  have q18 : ∀ l b p, st (tML J l) b p 76 18 = J 76 18 := fun l b p => by rw [st_o (by decide), tML_18]
  have q87 : ∀ l b p, st (tML J l) b p 87 (J 76 18 - 1).toNat = l.length := fun l b p => by rw [st_o (by omega), tML_87, h87]; omega
  intro m
  induction m with
  | zero =>
    intro p l hm hp0 hp hc
    have hb := mx_byte (L := L) (d := d) (K := K) (p := p) (hM l) (by rw [e43]; omega) (by rw [tML_18]; exact h18) (by rw [tML_46]; omega)
    unfold rwF
    cases hr : rbB t p with
    | error e =>
      rw [hr] at hb
      obtain ⟨v, hb⟩ := hb
      refine ⟨l ++ [v], ?_⟩
      rw [tML_snoc] at hb
      simp (disch := first | assumption | omega | exact bi_lo | exact bi_hi | exact bi_01 | exact jcmp_lo | exact jcmp_hi | exact (jor_r _ _).1 | exact (jor_r _ _).2 | exact (jand_r _ _).1 | exact (jand_r _ _).2) only [x183_25, x183_26, x183_29, x183_30, x183_33, x183_78, kb_some, kb_none, clr_vi, clr_ref, clr_null, clr_none, va_rf_some, va_rf_none, ↓bi_ite_t, ↓bi_ite_f, ↓jc_lt_t, ↓jc_lt_f, ↓jc_gt_t, ↓jc_gt_f, ↓jc_le_t, ↓jc_le_f, ↓jc_ge_t, ↓jc_ge_f, ↓jc_eq_t, ↓jc_eq_f, ↓if_pos, ↓if_neg, hb, st_45]
    | ok r =>
      rw [hr] at hb
      simp only at hb ⊢
      rw [tML_snoc] at hb
      have hrr := rbB_r (MT_N h) hp hr
      have hh := mx_here (L := L) (d := d + 2) (b := 0) (K := K) (hM (l ++ [r.1])) (p := r.2) (by rw [e43]; omega)
      have hr44 := MT_r (p := r.2) h
      have q87' := q87 (l ++ [r.1]) 0 r.2
      rw [List.length_append, List.length_singleton] at q87'
      by_cases c : t r.2 = 44
      · simp (disch := first | assumption | omega | exact bi_lo | exact bi_hi | exact bi_01 | exact jcmp_lo | exact jcmp_hi | exact (jor_r _ _).1 | exact (jor_r _ _).2 | exact (jand_r _ _).1 | exact (jand_r _ _).2) only [x183_25, x183_26, x183_29, x183_30, x183_33, x183_36, x183_37, x183_40, x183_42, x183_45, x183_46, x183_49, x183_50, x183_53, x183_54, x183_55, x183_56, x183_58, x183_78, kb_some, kb_none, clr_vi, clr_ref, clr_null, clr_none, va_rf_some, va_rf_none, ↓bi_ite_t, ↓bi_ite_f, ↓jc_lt_t, ↓jc_lt_f, ↓jc_gt_t, ↓jc_gt_f, ↓jc_le_t, ↓jc_le_f, ↓jc_ge_t, ↓jc_ge_f, ↓jc_eq_t, ↓jc_eq_f, ↓if_pos, ↓if_neg, hb, st_45, hh, q18, q87']
      · simp (disch := first | assumption | omega | exact bi_lo | exact bi_hi | exact bi_01 | exact jcmp_lo | exact jcmp_hi | exact (jor_r _ _).1 | exact (jor_r _ _).2 | exact (jand_r _ _).1 | exact (jand_r _ _).2) only [x183_25, x183_26, x183_29, x183_30, x183_33, x183_36, x183_37, x183_40, x183_42, x183_45, x183_46, x183_49, x183_50, x183_53, x183_54, x183_55, x183_56, x183_58, x183_78, kb_some, kb_none, clr_vi, clr_ref, clr_null, clr_none, va_rf_some, va_rf_none, ↓bi_ite_t, ↓bi_ite_f, ↓jc_lt_t, ↓jc_lt_f, ↓jc_gt_t, ↓jc_gt_f, ↓jc_le_t, ↓jc_le_f, ↓jc_ge_t, ↓jc_ge_f, ↓jc_eq_t, ↓jc_eq_f, ↓if_pos, ↓if_neg, hb, st_45, hh, q18, q87']
  | succ m ih =>
    intro p l hm hp0 hp hc
    have hb := mx_byte (L := L) (d := d) (K := K) (p := p) (hM l) (by rw [e43]; omega) (by rw [tML_18]; exact h18) (by rw [tML_46]; omega)
    unfold rwF
    cases hr : rbB t p with
    | error e =>
      rw [hr] at hb
      obtain ⟨v, hb⟩ := hb
      refine ⟨l ++ [v], ?_⟩
      rw [tML_snoc] at hb
      simp (disch := first | assumption | omega | exact bi_lo | exact bi_hi | exact bi_01 | exact jcmp_lo | exact jcmp_hi | exact (jor_r _ _).1 | exact (jor_r _ _).2 | exact (jand_r _ _).1 | exact (jand_r _ _).2) only [x183_25, x183_26, x183_29, x183_30, x183_33, x183_78, kb_some, kb_none, clr_vi, clr_ref, clr_null, clr_none, va_rf_some, va_rf_none, ↓bi_ite_t, ↓bi_ite_f, ↓jc_lt_t, ↓jc_lt_f, ↓jc_gt_t, ↓jc_gt_f, ↓jc_le_t, ↓jc_le_f, ↓jc_ge_t, ↓jc_ge_f, ↓jc_eq_t, ↓jc_eq_f, ↓if_pos, ↓if_neg, hb, st_45]
    | ok r =>
      rw [hr] at hb
      simp only at hb ⊢
      rw [tML_snoc] at hb
      have hrr := rbB_r (MT_N h) hp hr
      have hh := mx_here (L := L) (d := d + 2) (b := 0) (K := K) (hM (l ++ [r.1])) (p := r.2) (by rw [e43]; omega)
      have hr44 := MT_r (p := r.2) h
      have q87' := q87 (l ++ [r.1]) 0 r.2
      rw [List.length_append, List.length_singleton] at q87'
      by_cases c : t r.2 = 44
      · rw [if_pos c]
        have hlt := TN_lt (MT_N h) c (by omega)
        have ih' := ih (r.2 + 1) (l ++ [r.1]) (by simp; omega) (by omega) (by omega) (by simp; omega)
        have go : ∀ X, EE (d + 3) 183 25 [some (.ref 76)] [] (SH L) (st (tML J (l ++ [r.1])) 0 (r.2 + 1)) K R = X → EE (d + 3) 183 25 [some (.ref 76)] [] (SH L) (st (tML J l) 0 p) K R = X := by
          intro X hX
          have hb2 := mx_byte (L := L) (d := d) (K := K) (p := r.2 + 1) (hM (l ++ [r.1])) (by rw [e43]; omega) (by rw [tML_18]; exact h18) (by rw [tML_46]; simp; omega)
          have hS : ∃ S', EE (d + 2) 182 0 [some (.ref 76), none] [] (SH L) (st (tML J (l ++ [r.1])) 0 (r.2 + 1)) K R = ok none (SH L) S' K R := by
            cases hr2 : rbB t (r.2 + 1) with
            | error e => rw [hr2] at hb2; obtain ⟨v, hb2⟩ := hb2; exact ⟨_, hb2⟩
            | ok r' => rw [hr2] at hb2; exact ⟨_, hb2⟩
          obtain ⟨S', hS⟩ := hS
          have e25 : EE (d + 3) 183 25 [some (.ref 76)] [] (SH L) (st (tML J (l ++ [r.1])) 0 (r.2 + 1)) K R = EE (d + 3) 183 29 [some (.ref 76)] [] (SH L) S' K R := by
            simp (disch := first | assumption | omega | exact bi_lo | exact bi_hi | exact bi_01 | exact jcmp_lo | exact jcmp_hi | exact (jor_r _ _).1 | exact (jor_r _ _).2 | exact (jand_r _ _).1 | exact (jand_r _ _).2) only [x183_25, x183_26, kb_some, kb_none, clr_vi, clr_ref, clr_null, clr_none, va_rf_some, va_rf_none, hS]
          rw [e25] at hX
          simp (disch := first | assumption | omega | exact bi_lo | exact bi_hi | exact bi_01 | exact jcmp_lo | exact jcmp_hi | exact (jor_r _ _).1 | exact (jor_r _ _).2 | exact (jand_r _ _).1 | exact (jand_r _ _).2) only [x183_25, x183_26, x183_29, x183_30, x183_33, x183_36, x183_37, x183_40, x183_42, x183_45, x183_46, x183_49, x183_50, x183_53, x183_54, x183_55, x183_56, x183_58, x183_61, x183_62, x183_63, x183_66, x183_67, x183_68, kb_some, kb_none, clr_vi, clr_ref, clr_null, clr_none, va_rf_some, va_rf_none, ↓bi_ite_t, ↓bi_ite_f, ↓jc_lt_t, ↓jc_lt_f, ↓jc_gt_t, ↓jc_gt_f, ↓jc_le_t, ↓jc_le_f, ↓jc_ge_t, ↓jc_ge_f, ↓jc_eq_t, ↓jc_eq_f, ↓if_pos, ↓if_neg, hb, st_45, hh, q18, q87', st_44, st_p]
          simp (disch := first | assumption | omega | exact bi_lo | exact bi_hi | exact bi_01 | exact jcmp_lo | exact jcmp_hi | exact (jor_r _ _).1 | exact (jor_r _ _).2 | exact (jand_r _ _).1 | exact (jand_r _ _).2) only [x183_71, x183_72, x183_75, kb_some, kb_none, clr_vi, clr_ref, clr_null, clr_none, va_rf_some, va_rf_none, hS]
          exact hX
        cases hs : rwF t m (r.2 + 1) with
        | error e =>
          rw [hs] at ih'
          obtain ⟨l', j1⟩ := ih'
          exact ⟨l', go _ j1⟩
        | ok s =>
          rw [hs] at ih'
          simp only at ih' ⊢
          rw [go _ ih', List.append_assoc]; rfl
      · rw [if_neg c]
        simp only
        simp (disch := first | assumption | omega | exact bi_lo | exact bi_hi | exact bi_01 | exact jcmp_lo | exact jcmp_hi | exact (jor_r _ _).1 | exact (jor_r _ _).2 | exact (jand_r _ _).1 | exact (jand_r _ _).2) only [x183_25, x183_26, x183_29, x183_30, x183_33, x183_36, x183_37, x183_40, x183_42, x183_45, x183_46, x183_49, x183_50, x183_53, x183_54, x183_55, x183_56, x183_58, x183_78, kb_some, kb_none, clr_vi, clr_ref, clr_null, clr_none, va_rf_some, va_rf_none, ↓bi_ite_t, ↓bi_ite_f, ↓jc_lt_t, ↓jc_lt_f, ↓jc_gt_t, ↓jc_gt_f, ↓jc_le_t, ↓jc_le_f, ↓jc_ge_t, ↓jc_ge_f, ↓jc_eq_t, ↓jc_eq_f, ↓if_pos, ↓if_neg, hb, st_45, hh, q18, q87']
end
