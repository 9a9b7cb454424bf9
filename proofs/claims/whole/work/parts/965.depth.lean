/-! depths again, with less asked -/
section
variable {L d : Nat} {J K : mJ} {R : mm_R} {x : Int} {g : Int → Int}
theorem l_groupsW (hR : wfR R) {r : Nat} (hr : r < 60) : ∀ (b j : Nat) (t n : Int), UPr (J 86) (J 89) r b j → (0 ≤ J 86 j ∧ J 86 j ≤ 255) →
    EE d 200 5 [some (.ref 76), some (vi t), some (vi r), some (vi n), some (vi j)] [] (SH L) J K R = ok (some (vi (n + b + (if J 86 j = 103 then 1 else 0)))) (SH L) J K R := by
  have s76 : (SH L)[76]? = some (11, 58) := rfl; have r76_0 : R 76 0 = some 77 := rr_lk hR rfl; have r76_3 : R 76 3 = some 78 := rr_lk hR rfl; have r76_4 : R 76 4 = some 79 := rr_lk hR rfl; have r76_6 : R 76 6 = some 80 := rr_lk hR rfl; have r76_7 : R 76 7 = some 81 := rr_lk hR rfl; have r76_9 : R 76 9 = some 82 := rr_lk hR rfl; have r76_10 : R 76 10 = some 83 := rr_lk hR rfl; have r76_12 : R 76 12 = some 84 := rr_lk hR rfl; have r76_13 : R 76 13 = some 85 := rr_lk hR rfl; have r76_19 : R 76 19 = some 86 := rr_lk hR rfl; have r76_20 : R 76 20 = some 87 := rr_lk hR rfl; have r76_21 : R 76 21 = some 88 := rr_lk hR rfl; have r76_22 : R 76 22 = some 89 := rr_lk hR rfl; have r76_24 : R 76 24 = some 90 := rr_lk hR rfl; have r76_25 : R 76 25 = some 91 := rr_lk hR rfl; have r76_26 : R 76 26 = some 92 := rr_lk hR rfl; have r76_28 : R 76 28 = some 93 := rr_lk hR rfl; have r76_29 : R 76 29 = some 94 := rr_lk hR rfl; have r76_30 : R 76 30 = some 95 := rr_lk hR rfl; have r76_31 : R 76 31 = some 96 := rr_lk hR rfl; have r76_32 : R 76 32 = some 97 := rr_lk hR rfl; have r76_36 : R 76 36 = some 98 := rr_lk hR rfl; have r76_38 : R 76 38 = some 99 := rr_lk hR rfl; have r76_39 : R 76 39 = some 100 := rr_lk hR rfl; have r76_40 : R 76 40 = some 101 := rr_lk hR rfl; have r76_41 : R 76 41 = some 102 := rr_lk hR rfl; have r76_42 : R 76 42 = some 103 := rr_lk hR rfl; have r76_47 : R 76 47 = some 104 := rr_lk hR rfl; have r76_53 : R 76 53 = some 105 := rr_lk hR rfl; have r76_54 : R 76 54 = some 106 := rr_lk hR rfl; have r76_55 : R 76 55 = some 107 := rr_lk hR rfl; have r76_56 : R 76 56 = some 108 := rr_lk hR rfl; have r76_57 : R 76 57 = some 109 := rr_lk hR rfl; have s86 : (SH L)[86]? = some (20, 60) := rfl; have s89 : (SH L)[89]? = some (20, 60) := rfl
  intro b
  induction b with
  | zero =>
    intro j t n h hty'
    obtain ⟨h1, h2⟩ := h
    subst h1
    by_cases c : J 86 j = 103
    · simp (disch := first | assumption | omega | exact bi_lo | exact bi_hi | exact bi_01 | exact jcmp_lo | exact jcmp_hi | exact (jor_r _ _).1 | exact (jor_r _ _).2 | exact (jand_r _ _).1 | exact (jand_r _ _).2) only [x200_5, x200_7, x200_8, x200_43, x200_44, x200_45, x200_48, x200_49, x200_50, x200_52, x200_55, x200_56, x200_59, x200_60, x200_61, kb_some, kb_none, clr_vi, clr_ref, clr_null, clr_none, va_rf_some, va_rf_none, ↓bi_ite_t, ↓bi_ite_f, ↓jc_lt_t, ↓jc_lt_f, ↓jc_gt_t, ↓jc_gt_f, ↓jc_le_t, ↓jc_le_f, ↓jc_ge_t, ↓jc_ge_f, ↓jc_eq_t, ↓jc_eq_f, ↓if_pos, ↓if_neg, Int.toNat_natCast, c]
      rw [show n + ((0 : Nat) : Int) + 1 = n + 1 by omega]
    · simp (disch := first | assumption | omega | exact bi_lo | exact bi_hi | exact bi_01 | exact jcmp_lo | exact jcmp_hi | exact (jor_r _ _).1 | exact (jor_r _ _).2 | exact (jand_r _ _).1 | exact (jand_r _ _).2) only [x200_5, x200_7, x200_8, x200_43, x200_44, x200_45, x200_48, x200_49, x200_50, x200_52, x200_55, x200_56, x200_59, x200_60, x200_61, kb_some, kb_none, clr_vi, clr_ref, clr_null, clr_none, va_rf_some, va_rf_none, ↓bi_ite_t, ↓bi_ite_f, ↓jc_lt_t, ↓jc_lt_f, ↓jc_gt_t, ↓jc_gt_f, ↓jc_le_t, ↓jc_le_f, ↓jc_ge_t, ↓jc_ge_f, ↓jc_eq_t, ↓jc_eq_f, ↓if_pos, ↓if_neg, Int.toNat_natCast]
      rw [show n + ((0 : Nat) : Int) + 0 = n + 0 by omega]
  | succ b ih =>
    intro j t n h hty'
    obtain ⟨h1, h2, q, h3, h4, h5⟩ := h
    by_cases c : J 86 j = 103
    · have ih' := ih q t (n + 1) h5 (by omega)
      rw [if_pos h4] at ih'
      simp (disch := first | assumption | omega | exact bi_lo | exact bi_hi | exact bi_01 | exact jcmp_lo | exact jcmp_hi | exact (jor_r _ _).1 | exact (jor_r _ _).2 | exact (jand_r _ _).1 | exact (jand_r _ _).2) only [x200_5, x200_7, x200_8, kb_some, kb_none, clr_vi, clr_ref, clr_null, clr_none, va_rf_some, va_rf_none, ↓bi_ite_t, ↓bi_ite_f, ↓jc_lt_t, ↓jc_lt_f, ↓jc_gt_t, ↓jc_gt_f, ↓jc_le_t, ↓jc_le_f, ↓jc_ge_t, ↓jc_ge_f, ↓jc_eq_t, ↓jc_eq_f, ↓if_pos, ↓if_neg]
      simp (disch := first | assumption | omega | exact bi_lo | exact bi_hi | exact bi_01 | exact jcmp_lo | exact jcmp_hi | exact (jor_r _ _).1 | exact (jor_r _ _).2 | exact (jand_r _ _).1 | exact (jand_r _ _).2) only [x200_11, x200_12, x200_13, x200_16, x200_18, x200_19, x200_21, x200_24, x200_25, x200_28, x200_29, x200_30, x200_31, x200_32, x200_35, x200_37, x200_38, x200_40, kb_some, kb_none, clr_vi, clr_ref, clr_null, clr_none, va_rf_some, va_rf_none, ↓bi_ite_t, ↓bi_ite_f, ↓jc_lt_t, ↓jc_lt_f, ↓jc_gt_t, ↓jc_gt_f, ↓jc_le_t, ↓jc_le_f, ↓jc_ge_t, ↓jc_ge_f, ↓jc_eq_t, ↓jc_eq_f, ↓if_pos, ↓if_neg, Int.toNat_natCast, c, h3]
      rw [ih', show n + 1 + (b : Int) + 1 = n + ((b + 1 : Nat) : Int) + 1 by omega]
    · have ih' := ih q t (n + 0) h5 (by omega)
      rw [if_pos h4] at ih'
      simp (disch := first | assumption | omega | exact bi_lo | exact bi_hi | exact bi_01 | exact jcmp_lo | exact jcmp_hi | exact (jor_r _ _).1 | exact (jor_r _ _).2 | exact (jand_r _ _).1 | exact (jand_r _ _).2) only [x200_5, x200_7, x200_8, kb_some, kb_none, clr_vi, clr_ref, clr_null, clr_none, va_rf_some, va_rf_none, ↓bi_ite_t, ↓bi_ite_f, ↓jc_lt_t, ↓jc_lt_f, ↓jc_gt_t, ↓jc_gt_f, ↓jc_le_t, ↓jc_le_f, ↓jc_ge_t, ↓jc_ge_f, ↓jc_eq_t, ↓jc_eq_f, ↓if_pos, ↓if_neg]
      simp (disch := first | assumption | omega | exact bi_lo | exact bi_hi | exact bi_01 | exact jcmp_lo | exact jcmp_hi | exact (jor_r _ _).1 | exact (jor_r _ _).2 | exact (jand_r _ _).1 | exact (jand_r _ _).2) only [x200_11, x200_12, x200_13, x200_16, x200_18, x200_19, x200_21, x200_24, x200_25, x200_28, x200_29, x200_30, x200_31, x200_32, x200_35, x200_37, x200_38, x200_40, kb_some, kb_none, clr_vi, clr_ref, clr_null, clr_none, va_rf_some, va_rf_none, ↓bi_ite_t, ↓bi_ite_f, ↓jc_lt_t, ↓jc_lt_f, ↓jc_gt_t, ↓jc_gt_f, ↓jc_le_t, ↓jc_le_f, ↓jc_ge_t, ↓jc_ge_f, ↓jc_eq_t, ↓jc_eq_f, ↓if_pos, ↓if_neg, Int.toNat_natCast, h3]
      rw [ih', show n + 0 + (b : Int) + 1 = n + ((b + 1 : Nat) : Int) + 0 by omega]
theorem m_groupsToW (hR : wfR R) {r b j : Nat} (hr : r < 60) (hty : 0 ≤ J 86 j ∧ J 86 j ≤ 255) (h : UPr (J 86) (J 89) r b j) : EE d 200 0 [some (.ref 76), some (vi j), some (vi r), none, none] [] (SH L) J K R = ok (some (vi (b + (if J 86 j = 103 then 1 else 0)))) (SH L) J K R := by
  have hl := l_groupsW (L := L) (d := d) (K := K) hR hr b j j 0 h hty
  rw [Int.zero_add] at hl
  have go : ∀ X, EE d 200 5 [some (.ref 76), some (vi j), some (vi r), some (vi 0), some (vi j)] [] (SH L) J K R = X → EE d 200 0 [some (.ref 76), some (vi j), some (vi r), none, none] [] (SH L) J K R = X := by
    intro X hX
    simp (disch := first | assumption | omega | exact bi_lo | exact bi_hi | exact bi_01 | exact jcmp_lo | exact jcmp_hi | exact (jor_r _ _).1 | exact (jor_r _ _).2 | exact (jand_r _ _).1 | exact (jand_r _ _).2) only [x200_0, x200_1, x200_2, x200_3, kb_some, kb_none, clr_vi, clr_ref, clr_null, clr_none, va_rf_some, va_rf_none]
    exact hX
  exact go _ hl
theorem l_mdepthW (hR : wfR R) {n r s : Nat} (h : UN (J 86) (J 89) n r s) (hn : J 76 18 = n) : ∀ (D : Nat) (q : Int) (F : Fo D) (i b : Nat) (k : Int) (l4 : Option Value), wF g D F → mF (J 86) (J 87) (J 88) (J 89) D q F i → (∀ j, J 89 j = q → i ≤ j → j < i + fsz D F → UPr (J 86) (J 89) r b j) → r ≤ i → i + fsz D F ≤ r + s → (b : Int) ≤ k ∧ k ≤ 20 → b + D ≤ 4 →
    ∃ l4', EE (d + 1) 201 4 [some (.ref 76), some (vi r), some (vi k), some (vi i), l4] [] (SH L) J K R = EE (d + 1) 201 4 [some (.ref 76), some (vi r), some (vi (gdA D F b k)), some (vi (i + fsz D F : Nat)), l4'] [] (SH L) J K R := by
  have s76 : (SH L)[76]? = some (11, 58) := rfl
  have h' := h
  obtain ⟨h1, h2, h3, h4, h5⟩ := h
  intro D
  induction D with
  | zero => intro q F i b k l4 hw hF hU h0 hi hk hb; exact ⟨l4, rfl⟩
  | succ D ih =>
    intro q F
    induction (F : List (Nd D)) with
    | nil => intro i b k l4 hw hF hU h0 hi hk hb; exact ⟨l4, rfl⟩
    | cons x F ihF =>
      intro i b k l4 hw hF hU h0 hi hk hb
      rw [wF_cons] at hw
      rw [mF_cons] at hF
      rw [fsz_cons] at hi hU
      obtain ⟨⟨u1, u1b, u1c, u4⟩, u2, u3⟩ := hF
      have hUi := hU i u4 (by omega) (by omega)
      have hu := m_isUnder (L := L) (d := d) (K := K) hR h' (j := i) (by omega)
      rw [bi_t (by omega)] at hu
      have hg := m_groupsToW (L := L) (d := d) (K := K) hR (by omega) (by rw [u1]; have hD := hw.1.1; unfold wD at hD; omega) hUi
      rw [u1] at hg
      rw [gdA_cons]
      have hmm : (b : Int) ≤ (if x.1.1 = 103 then mx k (b + 1) else k) ∧ (if x.1.1 = 103 then mx k (b + 1) else k) ≤ 20 := by unfold mx; (repeat' split) <;> omega
      have st : ∃ l4', EE (d + 1) 201 4 [some (.ref 76), some (vi r), some (vi k), some (vi i), l4] [] (SH L) J K R = EE (d + 1) 201 4 [some (.ref 76), some (vi r), some (vi (if x.1.1 = 103 then mx k (b + 1) else k)), some (vi ((i + 1 : Nat) : Int)), l4'] [] (SH L) J K R := by
        rw [Int.natCast_succ]
        by_cases c : x.1.1 = 103
        · rw [if_pos c] at hg ⊢
          refine ⟨some (vi (b + 1)), ?_⟩
          have go : ∀ X, EE (d + 1) 201 4 [some (.ref 76), some (vi r), some (vi (mx k (b + 1))), some (vi ((i : Int) + 1)), some (vi ((b : Int) + 1))] [] (SH L) J K R = X → EE (d + 1) 201 4 [some (.ref 76), some (vi r), some (vi k), some (vi i), l4] [] (SH L) J K R = X := by
            intro X hX
            unfold mx at hX
            by_cases c2 : k < (b : Int) + 1
            · rw [if_pos c2] at hX
              simp (disch := first | assumption | omega | exact bi_lo | exact bi_hi | exact bi_01 | exact jcmp_lo | exact jcmp_hi | exact (jor_r _ _).1 | exact (jor_r _ _).2 | exact (jand_r _ _).1 | exact (jand_r _ _).2) only [x201_4, x201_5, x201_6, x201_9, kb_some, kb_none, clr_vi, clr_ref, clr_null, clr_none, va_rf_some, va_rf_none, ↓bi_ite_t, ↓bi_ite_f, ↓jc_lt_t, ↓jc_lt_f, ↓jc_gt_t, ↓jc_gt_f, ↓jc_le_t, ↓jc_le_f, ↓jc_ge_t, ↓jc_ge_f, ↓jc_eq_t, ↓jc_eq_f, ↓if_pos, ↓if_neg]
              simp (disch := first | assumption | omega | exact bi_lo | exact bi_hi | exact bi_01 | exact jcmp_lo | exact jcmp_hi | exact (jor_r _ _).1 | exact (jor_r _ _).2 | exact (jand_r _ _).1 | exact (jand_r _ _).2) only [x201_12, x201_13, x201_14, x201_15, x201_18, x201_21, x201_22, x201_23, x201_24, x201_27, x201_30, x201_31, x201_33, x201_35, x201_36, x201_39, x201_41, x201_44, x201_45, x201_46, x201_49, kb_some, kb_none, clr_vi, clr_ref, clr_null, clr_none, va_rf_some, va_rf_none, ↓bi_ite_t, ↓bi_ite_f, ↓jc_lt_t, ↓jc_lt_f, ↓jc_gt_t, ↓jc_gt_f, ↓jc_le_t, ↓jc_le_f, ↓jc_ge_t, ↓jc_ge_f, ↓jc_eq_t, ↓jc_eq_f, ↓if_pos, ↓if_neg, hu, hg]
              exact hX
            · rw [if_neg c2] at hX
              simp (disch := first | assumption | omega | exact bi_lo | exact bi_hi | exact bi_01 | exact jcmp_lo | exact jcmp_hi | exact (jor_r _ _).1 | exact (jor_r _ _).2 | exact (jand_r _ _).1 | exact (jand_r _ _).2) only [x201_4, x201_5, x201_6, x201_9, kb_some, kb_none, clr_vi, clr_ref, clr_null, clr_none, va_rf_some, va_rf_none, ↓bi_ite_t, ↓bi_ite_f, ↓jc_lt_t, ↓jc_lt_f, ↓jc_gt_t, ↓jc_gt_f, ↓jc_le_t, ↓jc_le_f, ↓jc_ge_t, ↓jc_ge_f, ↓jc_eq_t, ↓jc_eq_f, ↓if_pos, ↓if_neg]
              simp (disch := first | assumption | omega | exact bi_lo | exact bi_hi | exact bi_01 | exact jcmp_lo | exact jcmp_hi | exact (jor_r _ _).1 | exact (jor_r _ _).2 | exact (jand_r _ _).1 | exact (jand_r _ _).2) only [x201_12, x201_13, x201_14, x201_15, x201_18, x201_21, x201_22, x201_23, x201_24, x201_27, x201_30, x201_31, x201_33, x201_35, x201_36, x201_39, x201_41, x201_44, x201_45, x201_46, x201_49, kb_some, kb_none, clr_vi, clr_ref, clr_null, clr_none, va_rf_some, va_rf_none, ↓bi_ite_t, ↓bi_ite_f, ↓jc_lt_t, ↓jc_lt_f, ↓jc_gt_t, ↓jc_gt_f, ↓jc_le_t, ↓jc_le_f, ↓jc_ge_t, ↓jc_ge_f, ↓jc_eq_t, ↓jc_eq_f, ↓if_pos, ↓if_neg, hu, hg]
              exact hX
          exact go _ rfl
        · rw [if_neg c] at hg ⊢
          refine ⟨some (vi (b + 0)), ?_⟩
          have go : ∀ X, EE (d + 1) 201 4 [some (.ref 76), some (vi r), some (vi k), some (vi ((i : Int) + 1)), some (vi ((b : Int) + 0))] [] (SH L) J K R = X → EE (d + 1) 201 4 [some (.ref 76), some (vi r), some (vi k), some (vi i), l4] [] (SH L) J K R = X := by
            intro X hX
            simp (disch := first | assumption | omega | exact bi_lo | exact bi_hi | exact bi_01 | exact jcmp_lo | exact jcmp_hi | exact (jor_r _ _).1 | exact (jor_r _ _).2 | exact (jand_r _ _).1 | exact (jand_r _ _).2) only [x201_4, x201_5, x201_6, x201_9, kb_some, kb_none, clr_vi, clr_ref, clr_null, clr_none, va_rf_some, va_rf_none, ↓bi_ite_t, ↓bi_ite_f, ↓jc_lt_t, ↓jc_lt_f, ↓jc_gt_t, ↓jc_gt_f, ↓jc_le_t, ↓jc_le_f, ↓jc_ge_t, ↓jc_ge_f, ↓jc_eq_t, ↓jc_eq_f, ↓if_pos, ↓if_neg]
            simp (disch := first | assumption | omega | exact bi_lo | exact bi_hi | exact bi_01 | exact jcmp_lo | exact jcmp_hi | exact (jor_r _ _).1 | exact (jor_r _ _).2 | exact (jand_r _ _).1 | exact (jand_r _ _).2) only [x201_12, x201_13, x201_14, x201_15, x201_18, x201_21, x201_22, x201_23, x201_24, x201_27, x201_30, x201_31, x201_33, x201_35, x201_36, x201_39, x201_41, x201_44, x201_45, x201_46, x201_49, kb_some, kb_none, clr_vi, clr_ref, clr_null, clr_none, va_rf_some, va_rf_none, ↓bi_ite_t, ↓bi_ite_f, ↓jc_lt_t, ↓jc_lt_f, ↓jc_gt_t, ↓jc_gt_f, ↓jc_le_t, ↓jc_le_f, ↓jc_ge_t, ↓jc_ge_f, ↓jc_eq_t, ↓jc_eq_f, ↓if_pos, ↓if_neg, hu, hg]
            exact hX
          exact go _ rfl
      obtain ⟨l5, st⟩ := st
      have hch : ∃ l4', EE (d + 1) 201 4 [some (.ref 76), some (vi r), some (vi (if x.1.1 = 103 then mx k (b + 1) else k)), some (vi ((i + 1 : Nat) : Int)), l5] [] (SH L) J K R = EE (d + 1) 201 4 [some (.ref 76), some (vi r), some (vi (gdA D x.2 (b + 1) (if x.1.1 = 103 then mx k (b + 1) else k))), some (vi ((i + 1 + fsz D x.2 : Nat) : Int)), l4'] [] (SH L) J K R := by
        by_cases c : x.1.1 = 103
        · have := ih i x.2 (i + 1) (b + 1) (if x.1.1 = 103 then mx k (b + 1) else k) l5 hw.1.2.2.2 u2 (fun j j1 j2 j3 => ⟨by omega, by omega, i, j1, by rw [u1]; exact c, hUi⟩) (by omega) (by omega) (by rw [if_pos c] at hmm ⊢; unfold mx at *; split at hmm <;> (constructor <;> (try split) <;> omega)) (by omega)
          rw [Int.natCast_succ] at this
          exact this
        · have e := hw.1.2.2.1 c
          rw [e, fsz_0]
          refine ⟨l5, ?_⟩
          have e2 : ∀ z, gdA D (fo0 D) ((b : Int) + 1) z = z := by intro z; cases D <;> rfl
          rw [e2]
      obtain ⟨l6, hch⟩ := hch
      have hlo := gdA_le D x.2 (b + 1) (if x.1.1 = 103 then mx k (b + 1) else k)
      have hhi := gdA_hi D x.2 (b + 1) (if x.1.1 = 103 then mx k (b + 1) else k)
      have hfin : (b : Int) ≤ gdA D x.2 (b + 1) (if x.1.1 = 103 then mx k (b + 1) else k) ∧ gdA D x.2 (b + 1) (if x.1.1 = 103 then mx k (b + 1) else k) ≤ 20 := by
        clear hch st
        generalize (if x.1.1 = 103 then mx k (b + 1) else k) = z at *
        unfold mx at hhi
        split at hhi <;> omega
      obtain ⟨l7, h7⟩ := ihF (i + 1 + fsz D x.2) b _ l6 hw.2 u3 (fun j j1 j2 j3 => hU j j1 (by omega) (by omega)) (by omega) (by omega) hfin hb
      refine ⟨l7, st.trans (hch.trans ?_)⟩
      rw [h7, fsz_cons, show i + 1 + fsz D x.2 + fsz (D + 1) F = i + (1 + fsz D x.2 + fsz (D + 1) F) by omega]
theorem m_depthOfW (hR : wfR R) {n r : Nat} {x : Nd 3} (h : UN (J 86) (J 89) n r (1 + fsz 3 x.2)) (hn : J 76 18 = n) (hw : wF g 4 ([x] : List (Nd 3))) (hm : mF (J 86) (J 87) (J 88) (J 89) 4 (-1) ([x] : List (Nd 3)) r) :
    EE (d + 1) 201 0 [some (.ref 76), some (vi r), none, none, none] [] (SH L) J K R = ok (some (vi (dpT x))) (SH L) J K R := by
  have s76 : (SH L)[76]? = some (11, 58) := rfl
  have hm' := hm
  rw [mF_cons] at hm'
  obtain ⟨l1, e1⟩ := l_dskip (L := L) (d := d) (K := K) hR h hn (k := 0) (by omega) r 0 none (by have := h.2.1; omega) (by omega)
  have ez : fsz 4 ([x] : List (Nd 3)) = 1 + fsz 3 x.2 := rfl
  obtain ⟨l2, e2⟩ := l_mdepthW (L := L) (d := d) (K := K) (g := g) hR h hn 4 (-1) ([x] : List (Nd 3)) r 0 0 l1 hw hm (fun j j1 j2 j3 => by
    by_cases c : j = r
    · exact ⟨c, by have := h.1; have := h.2.1; omega⟩
    · rw [ez] at j3
      rcases mF_chain _ _ _ _ hm'.2.1 j (by omega) (by omega) with q | q <;> omega) (by omega) (by rw [ez]; omega) (by omega) (by omega)
  have hlo := gdA_le 4 ([x] : List (Nd 3)) 0 0
  have hhi := gdA_hi 4 ([x] : List (Nd 3)) 0 0
  have hd : 0 ≤ dpT x ∧ dpT x ≤ 100 := by
    unfold dpT
    refine ⟨hlo, ?_⟩
    unfold mx at hhi
    split at hhi <;> omega
  have e0 : gdA 4 ([x] : List (Nd 3)) ((0 : Nat) : Int) 0 = dpT x := rfl
  rw [e0, ez] at e2
  obtain ⟨l3, e3⟩ := l_dskip (L := L) (d := d) (K := K) hR h hn (k := dpT x) hd (n - (r + (1 + fsz 3 x.2))) (r + (1 + fsz 3 x.2)) l2 (by have := h.2.1; omega) (by omega)
  rw [show r + (1 + fsz 3 x.2) + (n - (r + (1 + fsz 3 x.2))) = n by have := h.2.1; omega] at e3
  have hn60 := h.1
  have go : EE (d + 1) 201 0 [some (.ref 76), some (vi r), none, none, none] [] (SH L) J K R = EE (d + 1) 201 4 [some (.ref 76), some (vi r), some (vi 0), some (vi (0 : Nat)), none] [] (SH L) J K R := by
    simp (disch := first | assumption | omega | exact bi_lo | exact bi_hi | exact bi_01 | exact jcmp_lo | exact jcmp_hi | exact (jor_r _ _).1 | exact (jor_r _ _).2 | exact (jand_r _ _).1 | exact (jand_r _ _).2) only [x201_0, x201_1, x201_2, x201_3, kb_some, kb_none, clr_vi, clr_ref, clr_null, clr_none, va_rf_some, va_rf_none]
    rfl
  rw [Nat.zero_add] at e1
  rw [go, e1, e2, e3]
  simp (disch := first | assumption | omega | exact bi_lo | exact bi_hi | exact bi_01 | exact jcmp_lo | exact jcmp_hi | exact (jor_r _ _).1 | exact (jor_r _ _).2 | exact (jand_r _ _).1 | exact (jand_r _ _).2) only [x201_4, x201_5, x201_6, x201_9, x201_52, x201_53, kb_some, kb_none, clr_vi, clr_ref, clr_null, clr_none, va_rf_some, va_rf_none, ↓bi_ite_t, ↓bi_ite_f, ↓jc_lt_t, ↓jc_lt_f, ↓jc_gt_t, ↓jc_gt_f, ↓jc_le_t, ↓jc_le_f, ↓jc_ge_t, ↓jc_ge_f, ↓jc_eq_t, ↓jc_eq_f, ↓if_pos, ↓if_neg]
end
