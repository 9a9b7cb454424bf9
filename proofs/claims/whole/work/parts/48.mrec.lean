/-! what is recovered: the reference; counts of bits -/
theorem jor_0 {b : Int} (h : -2147483648 ≤ b ∧ b ≤ 2147483647) : jor b 0 = b := by
  have e : iI b ||| iI 0 = iI b := by
    show iI b ||| 0 = iI b
    exact Int32.or_zero
  unfold jor
  rw [e, iI_toInt h.1 h.2]
theorem jor_63 {b e : Int} (h : 0 ≤ b ∧ b ≤ 63) (he : 0 ≤ e ∧ e ≤ 5) : 0 ≤ jor b (jshl 1 e) ∧ jor b (jshl 1 e) ≤ 63 := by
  have key : ∀ (q : Fin 64) (r : Fin 6), 0 ≤ jor (q.val : Int) (jshl 1 (r.val : Int)) ∧ jor (q.val : Int) (jshl 1 (r.val : Int)) ≤ 63 := by decide +kernel
  have := key ⟨b.toNat, by omega⟩ ⟨e.toNat, by omega⟩
  simp only [Int.toNat_of_nonneg h.1, Int.toNat_of_nonneg he.1] at this
  exact this
theorem rbS_r {f : Int → Int} {n E v : Int} : ∀ (i : Nat) (e p b : Int), 0 ≤ e → e + i ≤ 6 → 0 ≤ b ∧ b ≤ 63 → 0 ≤ rbS f n E v i e p b ∧ rbS f n E v i e p b ≤ 63 := by
  intro i
  induction i with
  | zero => intro e p b h1 h2 h3; exact h3
  | succ i ih =>
    intro e p b h1 h2 h3
    unfold rbS
    split
    · refine ih _ _ _ (by omega) (by omega) ?_
      unfold okB
      split
      · exact jor_63 h3 (by omega)
      · exact h3
    · exact ih _ _ _ (by omega) (by omega) h3
theorem rb_r {f : Int → Int} {n : Int} (hf : 0 ≤ f 3 ∨ n ≤ 3) : 0 ≤ rb f n ∧ rb f n ≤ 63 := by
  unfold rb
  split
  · omega
  · rename_i hh
    obtain ⟨b1, b2, b3, b4, b5, b6, b7⟩ := headF_none hh
    exact rbS_r _ _ _ _ (by omega) (by omega) (by omega)
/-- how many bits are set -/
def pcn (b : Int) : Int := b % 2 + b / 2 % 2 + b / 4 % 2 + b / 8 % 2 + b / 16 % 2 + b / 32 % 2
def bc1 (b : Int) : Int := b - jand (jushr b 1) 1431655765
def bc2 (b : Int) : Int := jand (bc1 b) 858993459 + jand (jushr (bc1 b) 2) 858993459
def bc3 (b : Int) : Int := jand (bc2 b + jushr (bc2 b) 4) 252645135
def bc4 (b : Int) : Int := bc3 b + jushr (bc3 b) 8
def bc5 (b : Int) : Int := bc4 b + jushr (bc4 b) 16
theorem bc_key {b : Int} (h : 0 ≤ b ∧ b ≤ 63) : jand (bc5 b) 63 = pcn b := by
  have key : ∀ (q : Fin 64), jand (bc5 (q.val : Int)) 63 = pcn (q.val : Int) := by decide +kernel
  have := key ⟨b.toNat, by omega⟩
  simp only [Int.toNat_of_nonneg h.1] at this
  exact this
theorem pcn_r {b : Int} : 0 ≤ pcn b ∧ pcn b ≤ 6 := by unfold pcn; omega
theorem pcn_step {b : Int} (h : 1 ≤ b ∧ b ≤ 63) : 0 ≤ jand b (b - 1) ∧ jand b (b - 1) < b ∧ pcn (jand b (b - 1)) + 1 = pcn b := by
  have key : ∀ (q : Fin 63), 0 ≤ jand (q.val + 1 : Int) (q.val + 1 - 1 : Int) ∧ jand (q.val + 1 : Int) (q.val + 1 - 1 : Int) < (q.val + 1 : Int) ∧ pcn (jand (q.val + 1 : Int) (q.val + 1 - 1 : Int)) + 1 = pcn (q.val + 1 : Int) := by decide +kernel
  have := key ⟨(b - 1).toNat, by omega⟩
  simp only [Int.toNat_of_nonneg (show 0 ≤ b - 1 by omega), show b - 1 + 1 = b by omega] at this
  exact this
section
variable {L d : Nat} {f : Int → Int} {K : mJ} {R : mm_R} {x b : Int} {J : mJ} {S : mm_S}
theorem c_bitCount (h : 0 ≤ b ∧ b ≤ 63) : EE d 238 0 [some (vi b)] [] S J K R = ok (some (vi (pcn b))) S J K R := by
  rw [← bc_key h]
  simp (disch := first | assumption | omega | exact bi_lo | exact bi_hi | exact bi_01 | exact jcmp_lo | exact jcmp_hi | exact (jor_r _ _).1 | exact (jor_r _ _).2 | exact (jand_r _ _).1 | exact (jand_r _ _).2) only [x238_0, x238_1, x238_2, x238_3, x238_4, x238_7, x238_8, x238_9, x238_10, x238_11, x238_14, x238_15, x238_16, x238_17, x238_18, x238_21, x238_22, x238_23, x238_24, x238_25, x238_26, x238_27, x238_28, x238_29, x238_32, x238_33, x238_34, x238_35, x238_36, x238_38, x238_39, x238_40, x238_41, x238_42, x238_43, x238_45, x238_46, x238_47, x238_48, x238_49, x238_51, x238_52, kb_some, kb_none, clr_vi, clr_ref, clr_null, clr_none, va_rf_some, va_rf_none]
  rfl
theorem l_mrec : ∀ (i : Nat) (x p b : Int) (J : mJ), MR f J R → 3 < J 76 1 → f 3 ≤ 6 → 3 + 3 * f 3 < J 76 1 → (f 3 - x).toNat = i → 0 ≤ x → x ≤ f 3 → 0 ≤ b ∧ b ≤ 63 →
    ∃ J', EE (d + 5) 164 25 [some (.ref 76), some (vi p), some (vi b), some (vi x)] [] (SH L) J K R = ok (some (vi (rbS f (J 76 1) (f 3) (f 2) i x p b))) (SH L) J' K R ∧ frm AR J J' := by
  intro i
  induction i with
  | zero =>
    intro x p b J h h3 h6 hn hi h0 h1 hb
    have hR := h.1
    have hn1 := h.2.1
    have s76 : (SH L)[76]? = some (11, 58) := rfl; have r76_0 : R 76 0 = some 77 := rr_lk hR rfl; have r76_3 : R 76 3 = some 78 := rr_lk hR rfl; have r76_4 : R 76 4 = some 79 := rr_lk hR rfl; have r76_6 : R 76 6 = some 80 := rr_lk hR rfl; have r76_7 : R 76 7 = some 81 := rr_lk hR rfl; have r76_9 : R 76 9 = some 82 := rr_lk hR rfl; have r76_10 : R 76 10 = some 83 := rr_lk hR rfl; have r76_12 : R 76 12 = some 84 := rr_lk hR rfl; have r76_13 : R 76 13 = some 85 := rr_lk hR rfl; have r76_19 : R 76 19 = some 86 := rr_lk hR rfl; have r76_20 : R 76 20 = some 87 := rr_lk hR rfl; have r76_21 : R 76 21 = some 88 := rr_lk hR rfl; have r76_22 : R 76 22 = some 89 := rr_lk hR rfl; have r76_24 : R 76 24 = some 90 := rr_lk hR rfl; have r76_25 : R 76 25 = some 91 := rr_lk hR rfl; have r76_26 : R 76 26 = some 92 := rr_lk hR rfl; have r76_28 : R 76 28 = some 93 := rr_lk hR rfl; have r76_29 : R 76 29 = some 94 := rr_lk hR rfl; have r76_30 : R 76 30 = some 95 := rr_lk hR rfl; have r76_31 : R 76 31 = some 96 := rr_lk hR rfl; have r76_32 : R 76 32 = some 97 := rr_lk hR rfl; have r76_36 : R 76 36 = some 98 := rr_lk hR rfl; have r76_38 : R 76 38 = some 99 := rr_lk hR rfl; have r76_39 : R 76 39 = some 100 := rr_lk hR rfl; have r76_40 : R 76 40 = some 101 := rr_lk hR rfl; have r76_41 : R 76 41 = some 102 := rr_lk hR rfl; have r76_42 : R 76 42 = some 103 := rr_lk hR rfl; have r76_47 : R 76 47 = some 104 := rr_lk hR rfl; have r76_53 : R 76 53 = some 105 := rr_lk hR rfl; have r76_54 : R 76 54 = some 106 := rr_lk hR rfl; have r76_55 : R 76 55 = some 107 := rr_lk hR rfl; have r76_56 : R 76 56 = some 108 := rr_lk hR rfl; have r76_57 : R 76 57 = some 109 := rr_lk hR rfl; have s77 : (SH L)[77]? = some (20, 120) := rfl
    have z3 : J 77 3 = f 3 := (MR_at h (p := 3) (by omega) (by omega)).1
    refine ⟨J, ?_, frm_refl⟩
    simp (disch := first | assumption | omega | exact bi_lo | exact bi_hi | exact bi_01 | exact jcmp_lo | exact jcmp_hi | exact (jor_r _ _).1 | exact (jor_r _ _).2 | exact (jand_r _ _).1 | exact (jand_r _ _).2) only [x164_25, x164_26, x164_27, x164_30, x164_31, x164_32, x164_79, x164_80, kb_some, kb_none, clr_vi, clr_ref, clr_null, clr_none, va_rf_some, va_rf_none, ↓bi_ite_t, ↓bi_ite_f, ↓jc_lt_t, ↓jc_lt_f, ↓jc_gt_t, ↓jc_gt_f, ↓jc_le_t, ↓jc_le_f, ↓jc_ge_t, ↓jc_ge_f, ↓jc_eq_t, ↓jc_eq_f, ↓if_pos, ↓if_neg, z3, Int.reduceToNat]
    rfl
  | succ i ih =>
    intro x p b J h h3 h6 hn hi h0 h1 hb
    have hR := h.1
    have hn1 := h.2.1
    have s76 : (SH L)[76]? = some (11, 58) := rfl; have r76_0 : R 76 0 = some 77 := rr_lk hR rfl; have r76_3 : R 76 3 = some 78 := rr_lk hR rfl; have r76_4 : R 76 4 = some 79 := rr_lk hR rfl; have r76_6 : R 76 6 = some 80 := rr_lk hR rfl; have r76_7 : R 76 7 = some 81 := rr_lk hR rfl; have r76_9 : R 76 9 = some 82 := rr_lk hR rfl; have r76_10 : R 76 10 = some 83 := rr_lk hR rfl; have r76_12 : R 76 12 = some 84 := rr_lk hR rfl; have r76_13 : R 76 13 = some 85 := rr_lk hR rfl; have r76_19 : R 76 19 = some 86 := rr_lk hR rfl; have r76_20 : R 76 20 = some 87 := rr_lk hR rfl; have r76_21 : R 76 21 = some 88 := rr_lk hR rfl; have r76_22 : R 76 22 = some 89 := rr_lk hR rfl; have r76_24 : R 76 24 = some 90 := rr_lk hR rfl; have r76_25 : R 76 25 = some 91 := rr_lk hR rfl; have r76_26 : R 76 26 = some 92 := rr_lk hR rfl; have r76_28 : R 76 28 = some 93 := rr_lk hR rfl; have r76_29 : R 76 29 = some 94 := rr_lk hR rfl; have r76_30 : R 76 30 = some 95 := rr_lk hR rfl; have r76_31 : R 76 31 = some 96 := rr_lk hR rfl; have r76_32 : R 76 32 = some 97 := rr_lk hR rfl; have r76_36 : R 76 36 = some 98 := rr_lk hR rfl; have r76_38 : R 76 38 = some 99 := rr_lk hR rfl; have r76_39 : R 76 39 = some 100 := rr_lk hR rfl; have r76_40 : R 76 40 = some 101 := rr_lk hR rfl; have r76_41 : R 76 41 = some 102 := rr_lk hR rfl; have r76_42 : R 76 42 = some 103 := rr_lk hR rfl; have r76_47 : R 76 47 = some 104 := rr_lk hR rfl; have r76_53 : R 76 53 = some 105 := rr_lk hR rfl; have r76_54 : R 76 54 = some 106 := rr_lk hR rfl; have r76_55 : R 76 55 = some 107 := rr_lk hR rfl; have r76_56 : R 76 56 = some 108 := rr_lk hR rfl; have r76_57 : R 76 57 = some 109 := rr_lk hR rfl; have s77 : (SH L)[77]? = some (20, 120) := rfl
    obtain ⟨z3', y3⟩ := MR_at h (p := 3) (by omega) (by omega)
    have z3 : J 77 3 = f 3 := z3'
    have hpl := m_isPlaced (L := L) (d := d + 2) (K := K) h (m := p) h3 (x := x) (by omega)
    unfold rbS
    by_cases c1 : sound f (J 76 1) (f 3) p x = true
    · rw [if_pos c1]
      rw [bi_t c1] at hpl
      have hs1 := sound_1 c1
      obtain ⟨-, y2⟩ := MR_at h (p := 4 + 3 * x + 2) (by omega) (by omega)
      generalize hJ0 : mm_up J 76 18 0 = J0
      have hfr0 : frm AR J J0 := by rw [← hJ0]; exact frm_up frm_refl (by unfold AR; omega)
      have a18 : J0 76 18 = 0 := by rw [← hJ0, up_s]
      have a1 : J0 76 1 = J 76 1 := by rw [← hJ0]; simp [mm_up]
      have hen := m_entry (L := L) (d := d) (K := K) (MR_frm h hfr0) (x := x) (by omega) (by omega) (by omega)
      have hz := jor_0 (b := b) (by omega)
      generalize chk f (f 2) 3 (4 + 3 * x) (4 + 3 * x + 2) (f (4 + 3 * x + 1)) = res at hen ⊢
      cases res with
      | error q =>
        obtain ⟨J2, r1, r2, -⟩ := hen
        have hfr2 := frm_trans hfr0 r2.1
        have e1 : J2 76 1 = J 76 1 := hfr2 76 1 (by unfold AR; omega)
        obtain ⟨J3, s1, s2⟩ := ih (x + 1) (jor p (jshl 1 x)) b J2 (MR_frm h hfr2) (by omega) h6 (by omega) (by omega) (by omega) (by omega) hb
        rw [e1] at s1
        refine ⟨J3, ?_, frm_trans hfr2 s2⟩
        simp (disch := first | assumption | omega | exact bi_lo | exact bi_hi | exact bi_01 | exact jcmp_lo | exact jcmp_hi | exact (jor_r _ _).1 | exact (jor_r _ _).2 | exact (jand_r _ _).1 | exact (jand_r _ _).2) only [x164_25, x164_26, x164_27, x164_30, x164_31, x164_32, kb_some, kb_none, clr_vi, clr_ref, clr_null, clr_none, va_rf_some, va_rf_none, ↓bi_ite_t, ↓bi_ite_f, ↓jc_lt_t, ↓jc_lt_f, ↓jc_gt_t, ↓jc_gt_f, ↓jc_le_t, ↓jc_le_f, ↓jc_ge_t, ↓jc_ge_f, ↓jc_eq_t, ↓jc_eq_f, ↓if_pos, ↓if_neg, z3, Int.reduceToNat]
        simp (disch := first | assumption | omega | exact bi_lo | exact bi_hi | exact bi_01 | exact jcmp_lo | exact jcmp_hi | exact (jor_r _ _).1 | exact (jor_r _ _).2 | exact (jand_r _ _).1 | exact (jand_r _ _).2) only [x164_35, x164_36, x164_37, x164_38, x164_41, x164_44, x164_45, x164_46, x164_47, x164_48, x164_49, x164_50, x164_51, x164_52, kb_some, kb_none, clr_vi, clr_ref, clr_null, clr_none, va_rf_some, va_rf_none, ↓bi_ite_t, ↓bi_ite_f, ↓jc_lt_t, ↓jc_lt_f, ↓jc_gt_t, ↓jc_gt_f, ↓jc_le_t, ↓jc_le_f, ↓jc_ge_t, ↓jc_ge_f, ↓jc_eq_t, ↓jc_eq_f, ↓if_pos, ↓if_neg, hpl]
        simp (disch := first | assumption | omega | exact bi_lo | exact bi_hi | exact bi_01 | exact jcmp_lo | exact jcmp_hi | exact (jor_r _ _).1 | exact (jor_r _ _).2 | exact (jand_r _ _).1 | exact (jand_r _ _).2) only [x164_55, x164_56, x164_57, x164_58, kb_some, kb_none, clr_vi, clr_ref, clr_null, clr_none, va_rf_some, va_rf_none, hJ0, r1]
        simp (disch := first | assumption | omega | exact bi_lo | exact bi_hi | exact bi_01 | exact jcmp_lo | exact jcmp_hi | exact (jor_r _ _).1 | exact (jor_r _ _).2 | exact (jand_r _ _).1 | exact (jand_r _ _).2) only [x164_61, x164_64, x164_65, x164_71, x164_72, x164_73, x164_76, kb_some, kb_none, clr_vi, clr_ref, clr_null, clr_none, va_rf_some, va_rf_none, ↓bi_ite_t, ↓bi_ite_f, ↓jc_lt_t, ↓jc_lt_f, ↓jc_gt_t, ↓jc_gt_f, ↓jc_le_t, ↓jc_le_f, ↓jc_ge_t, ↓jc_ge_f, ↓jc_eq_t, ↓jc_eq_f, ↓if_pos, ↓if_neg, hz]
        exact s1
      | ok a =>
        obtain ⟨J2, r1, r2, -⟩ := hen
        have hfr2 := frm_trans hfr0 r2.1
        have e1 : J2 76 1 = J 76 1 := hfr2 76 1 (by unfold AR; omega)
        obtain ⟨J3, s1, s2⟩ := ih (x + 1) (jor p (jshl 1 x)) (jor b (jshl 1 x)) J2 (MR_frm h hfr2) (by omega) h6 (by omega) (by omega) (by omega) (by omega) (jor_63 hb (by omega))
        rw [e1] at s1
        refine ⟨J3, ?_, frm_trans hfr2 s2⟩
        simp (disch := first | assumption | omega | exact bi_lo | exact bi_hi | exact bi_01 | exact jcmp_lo | exact jcmp_hi | exact (jor_r _ _).1 | exact (jor_r _ _).2 | exact (jand_r _ _).1 | exact (jand_r _ _).2) only [x164_25, x164_26, x164_27, x164_30, x164_31, x164_32, kb_some, kb_none, clr_vi, clr_ref, clr_null, clr_none, va_rf_some, va_rf_none, ↓bi_ite_t, ↓bi_ite_f, ↓jc_lt_t, ↓jc_lt_f, ↓jc_gt_t, ↓jc_gt_f, ↓jc_le_t, ↓jc_le_f, ↓jc_ge_t, ↓jc_ge_f, ↓jc_eq_t, ↓jc_eq_f, ↓if_pos, ↓if_neg, z3, Int.reduceToNat]
        simp (disch := first | assumption | omega | exact bi_lo | exact bi_hi | exact bi_01 | exact jcmp_lo | exact jcmp_hi | exact (jor_r _ _).1 | exact (jor_r _ _).2 | exact (jand_r _ _).1 | exact (jand_r _ _).2) only [x164_35, x164_36, x164_37, x164_38, x164_41, x164_44, x164_45, x164_46, x164_47, x164_48, x164_49, x164_50, x164_51, x164_52, kb_some, kb_none, clr_vi, clr_ref, clr_null, clr_none, va_rf_some, va_rf_none, ↓bi_ite_t, ↓bi_ite_f, ↓jc_lt_t, ↓jc_lt_f, ↓jc_gt_t, ↓jc_gt_f, ↓jc_le_t, ↓jc_le_f, ↓jc_ge_t, ↓jc_ge_f, ↓jc_eq_t, ↓jc_eq_f, ↓if_pos, ↓if_neg, hpl]
        simp (disch := first | assumption | omega | exact bi_lo | exact bi_hi | exact bi_01 | exact jcmp_lo | exact jcmp_hi | exact (jor_r _ _).1 | exact (jor_r _ _).2 | exact (jand_r _ _).1 | exact (jand_r _ _).2) only [x164_55, x164_56, x164_57, x164_58, kb_some, kb_none, clr_vi, clr_ref, clr_null, clr_none, va_rf_some, va_rf_none, hJ0, r1]
        simp (disch := first | assumption | omega | exact bi_lo | exact bi_hi | exact bi_01 | exact jcmp_lo | exact jcmp_hi | exact (jor_r _ _).1 | exact (jor_r _ _).2 | exact (jand_r _ _).1 | exact (jand_r _ _).2) only [x164_61, x164_68, x164_69, x164_70, x164_71, x164_72, x164_73, x164_76, kb_some, kb_none, clr_vi, clr_ref, clr_null, clr_none, va_rf_some, va_rf_none, ↓bi_ite_t, ↓bi_ite_f, ↓jc_lt_t, ↓jc_lt_f, ↓jc_gt_t, ↓jc_gt_f, ↓jc_le_t, ↓jc_le_f, ↓jc_ge_t, ↓jc_ge_f, ↓jc_eq_t, ↓jc_eq_f, ↓if_pos, ↓if_neg]
        exact s1
    · rw [if_neg c1]
      rw [bi_f c1] at hpl
      obtain ⟨J3, s1, s2⟩ := ih (x + 1) p b J h h3 h6 hn (by omega) (by omega) (by omega) hb
      refine ⟨J3, ?_, s2⟩
      simp (disch := first | assumption | omega | exact bi_lo | exact bi_hi | exact bi_01 | exact jcmp_lo | exact jcmp_hi | exact (jor_r _ _).1 | exact (jor_r _ _).2 | exact (jand_r _ _).1 | exact (jand_r _ _).2) only [x164_25, x164_26, x164_27, x164_30, x164_31, x164_32, kb_some, kb_none, clr_vi, clr_ref, clr_null, clr_none, va_rf_some, va_rf_none, ↓bi_ite_t, ↓bi_ite_f, ↓jc_lt_t, ↓jc_lt_f, ↓jc_gt_t, ↓jc_gt_f, ↓jc_le_t, ↓jc_le_f, ↓jc_ge_t, ↓jc_ge_f, ↓jc_eq_t, ↓jc_eq_f, ↓if_pos, ↓if_neg, z3, Int.reduceToNat]
      simp (disch := first | assumption | omega | exact bi_lo | exact bi_hi | exact bi_01 | exact jcmp_lo | exact jcmp_hi | exact (jor_r _ _).1 | exact (jor_r _ _).2 | exact (jand_r _ _).1 | exact (jand_r _ _).2) only [x164_35, x164_36, x164_37, x164_38, x164_41, x164_73, x164_76, kb_some, kb_none, clr_vi, clr_ref, clr_null, clr_none, va_rf_some, va_rf_none, ↓bi_ite_t, ↓bi_ite_f, ↓jc_lt_t, ↓jc_lt_f, ↓jc_gt_t, ↓jc_gt_f, ↓jc_le_t, ↓jc_le_f, ↓jc_ge_t, ↓jc_ge_f, ↓jc_eq_t, ↓jc_eq_f, ↓if_pos, ↓if_neg, hpl]
      exact s1
theorem m_recovered (h : MR f J R) : ∃ J', EE (d + 5) 164 0 [some (.ref 76), none, none, none] [] (SH L) J K R = ok (some (vi (rb f (J 76 1)))) (SH L) J' K R ∧ frm AR J J' := by
  have hn1 := h.2.1
  have s76 : (SH L)[76]? = some (11, 58) := rfl
  generalize hJ0 : mm_up (mm_up J 76 18 0) 76 23 0 = J0
  have hfr0 : frm AR J J0 := by rw [← hJ0]; exact frm_up (frm_up frm_refl (by unfold AR; omega)) (by unfold AR; omega)
  have a23 : J0 76 23 = 0 := by rw [← hJ0, up_s]
  have a1 : J0 76 1 = J 76 1 := by rw [← hJ0]; simp [mm_up]
  have h0 := MR_frm h hfr0
  have hh := m_head (L := L) (d := d + 2) (K := K) h0 a23
  rw [a1] at hh
  have go : ∀ X, kb (EE (d + 4) 151 0 [some (.ref 76)] [] (SH L) J0 K R) (d + 4) 164 14 [some (.ref 76), none, none, none] [] = X → EE (d + 5) 164 0 [some (.ref 76), none, none, none] [] (SH L) J K R = X := by
    intro X hX
    simp (disch := first | assumption | omega | exact bi_lo | exact bi_hi | exact bi_01 | exact jcmp_lo | exact jcmp_hi | exact (jor_r _ _).1 | exact (jor_r _ _).2 | exact (jand_r _ _).1 | exact (jand_r _ _).2) only [x164_0, x164_1, x164_2, x164_5, x164_6, x164_7, x164_10, x164_11, kb_some, kb_none, clr_vi, clr_ref, clr_null, clr_none, va_rf_some, va_rf_none, hJ0]
    exact hX
  unfold rb
  generalize hhf : headF f (J 76 1) = o at hh ⊢
  cases o with
  | some q =>
    simp only at hh ⊢
    refine ⟨fa J0 q.1 0 q.2, go _ ?_, frm_trans hfr0 fa_frm⟩
    rw [hh]
    simp (disch := first | assumption | omega | exact bi_lo | exact bi_hi | exact bi_01 | exact jcmp_lo | exact jcmp_hi | exact (jor_r _ _).1 | exact (jor_r _ _).2 | exact (jand_r _ _).1 | exact (jand_r _ _).2) only [x164_14, x164_17, x164_18, kb_some, kb_none, clr_vi, clr_ref, clr_null, clr_none, va_rf_some, va_rf_none, ↓bi_ite_t, ↓bi_ite_f, ↓jc_lt_t, ↓jc_lt_f, ↓jc_gt_t, ↓jc_gt_f, ↓jc_le_t, ↓jc_le_f, ↓jc_ge_t, ↓jc_ge_f, ↓jc_eq_t, ↓jc_eq_f, ↓if_pos, ↓if_neg]
  | none =>
    simp only at hh ⊢
    obtain ⟨b1, b2, b3, b4, b5, b6, b7⟩ := headF_none hhf
    have f3 := (MR_at h (p := 3) (by omega) (by omega)).2
    obtain ⟨J2, r1, r2⟩ := l_mrec (L := L) (d := d) (K := K) (f := f) (R := R) (f 3).toNat 0 0 0 J0 h0 (by omega) b4 (by omega) (by omega) (by omega) (by omega) (by omega)
    rw [a1] at r1
    refine ⟨J2, go _ ?_, frm_trans hfr0 r2⟩
    rw [hh]
    simp (disch := first | assumption | omega | exact bi_lo | exact bi_hi | exact bi_01 | exact jcmp_lo | exact jcmp_hi | exact (jor_r _ _).1 | exact (jor_r _ _).2 | exact (jand_r _ _).1 | exact (jand_r _ _).2) only [x164_14, x164_19, x164_20, x164_21, x164_22, x164_23, x164_24, kb_some, kb_none, clr_vi, clr_ref, clr_null, clr_none, va_rf_some, va_rf_none, ↓bi_ite_t, ↓bi_ite_f, ↓jc_lt_t, ↓jc_lt_f, ↓jc_gt_t, ↓jc_gt_f, ↓jc_le_t, ↓jc_le_f, ↓jc_ge_t, ↓jc_ge_f, ↓jc_eq_t, ↓jc_eq_f, ↓if_pos, ↓if_neg]
    exact r1
end
