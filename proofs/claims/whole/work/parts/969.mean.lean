/-! the calls, one by one: mean -/
theorem cmF_eq {g g' : Int → Int} {q : Int} {y w l s o c y' w' s' p : Nat → Int} : ∀ (d : Nat) (lv q' : Int) (F : Fo d) (i : Nat), cF g q y w l s o c d lv F i → mF y' w' s' p d q' F i → wF g' d F → ∀ j, i ≤ j → j < i + fsz d F → y j = y' j ∧ w j = w' j ∧ (103 ≤ y j ∧ y j ≤ 115) ∧ -2147483648 ≤ w j ∧ w j ≤ 2147483647 := by
  intro d
  induction d with
  | zero =>
    intro lv q' F i h1 h2 h3 j j1 j2
    have : fsz 0 F = 0 := rfl
    omega
  | succ d ih =>
    intro lv q' F
    induction (F : List (Nd d)) with
    | nil =>
      intro i h1 h2 h3 j j1 j2
      rw [fsz_nil] at j2
      omega
    | cons x F ihF =>
      intro i h1 h2 h3 j j1 j2
      rw [cF_cons] at h1
      rw [mF_cons] at h2
      rw [wF_cons] at h3
      rw [fsz_cons] at j2
      obtain ⟨a1, a2, a3⟩ := h1
      obtain ⟨b1, b2, b3⟩ := h2
      obtain ⟨⟨c1, c2, c3, c4⟩, c5⟩ := h3
      by_cases e : j = i
      · subst e
        obtain ⟨u1, u2, -⟩ := a1
        obtain ⟨v1, v2, -⟩ := b1
        have t1 := wD_ty c1
        refine ⟨by omega, by omega, by omega, ?_⟩
        unfold wD at c1
        by_cases t2 : x.1.1 = 103
        · have := c2 t2; omega
        · omega
      · by_cases e2 : j < i + 1 + fsz d x.2
        · exact ih _ _ _ _ a2 b2 c4 j (by omega) e2
        · exact ihF _ a3 b3 c5 j (by omega) (by omega)
/-- the numbers among them: together and how many -/
def smS (y w : Nat → Int) : Nat → Nat → Int → Int → Int × Int
  | 0, _, s, m => (s, m)
  | i + 1, k, s, m => smS y w i (k + 1) (if y k = 110 then s + w k else s) (if y k = 110 then m + 1 else m)
theorem smS_c {y w y' w' : Nat → Int} : ∀ (i k : Nat) (s m : Int), (∀ j, k ≤ j → j < k + i → y j = y' j ∧ w j = w' j) → smS y w i k s m = smS y' w' i k s m := by
  intro i
  induction i with
  | zero => intro k s m h; rfl
  | succ i ih =>
    intro k s m h
    obtain ⟨h1, h2⟩ := h k (by omega) (by omega)
    unfold smS
    rw [h1, h2]
    exact ih _ _ _ (fun j j1 j2 => h j (by omega) (by omega))
def mnV (q : Int × Int) (x : Int) : Int := if 0 < q.2 ∧ 0 ≤ x ∧ x ≤ 1 then frP q.1 q.2 x else -9223372036854775808
section
variable {L d : Nat} {J J' J1 J2 K K' : mJ} {R R1 R' : mm_R} {x y z v w n : Int} {f : Int → Int}
theorem l_mean (hR : wfR R) (hx : -2147483648 ≤ x ∧ x ≤ 2147483647) (h6 : 0 ≤ J 36 6 ∧ J 36 6 ≤ 40) (hw : ∀ j : Nat, (j : Int) < J 36 6 → (103 ≤ J 37 j ∧ J 37 j ≤ 115) ∧ -2147483648 ≤ J 38 j ∧ J 38 j ≤ 2147483647) : ∀ (i k : Nat) (s m : Int), (J 36 6).toNat - k = i → (k : Int) ≤ J 36 6 → (-(2147483648 * k) ≤ s ∧ s ≤ 2147483648 * k) → (0 ≤ m ∧ m ≤ k) →
    EE (d + 2) 116 37 [some (.ref 2), some (vi x), some (.ref 36), some (vl s), none, some (vi m), some (vi k)] [] (SH L) J K R = ok (some (vl (mnV (smS (J 37) (J 38) i k s m) x))) (SH L) J K R := by
  have s2 : (SH L)[2]? = some (10, 10) := rfl; have r2_0 : R 2 0 = some 3 := rr_lk hR rfl; have r2_1 : R 2 1 = some 15 := rr_lk hR rfl; have r2_3 : R 2 3 = some 27 := rr_lk hR rfl; have r2_4 : R 2 4 = some 29 := rr_lk hR rfl; have r2_5 : R 2 5 = some 31 := rr_lk hR rfl; have r2_6 : R 2 6 = some 46 := rr_lk hR rfl; have r2_7 : R 2 7 = some 57 := rr_lk hR rfl; have r2_8 : R 2 8 = some 60 := rr_lk hR rfl; have r2_9 : R 2 9 = some 63 := rr_lk hR rfl; have s36 : (SH L)[36]? = some (9, 7) := rfl; have r36_0 : R 36 0 = some 37 := rr_lk hR rfl; have r36_1 : R 36 1 = some 38 := rr_lk hR rfl; have r36_2 : R 36 2 = some 39 := rr_lk hR rfl; have r36_3 : R 36 3 = some 40 := rr_lk hR rfl; have r36_4 : R 36 4 = some 41 := rr_lk hR rfl; have r36_5 : R 36 5 = some 42 := rr_lk hR rfl
  have hT := isT_36 (L := L) hR
  have hs := fun d => t_size (d := d) (J := J) (K := K) hT
  intro i
  induction i with
  | zero =>
    intro k s m hi hk hs2 hm
    have hp := fun d => c_partOf (d := d) (J := J) (K := K) (R := R) (S := SH L) (v := s) (w := m) (part := x) (by omega) (by omega) hx
    rw [show mnV (smS (J 37) (J 38) 0 k s m) x = if 0 < m ∧ 0 ≤ x ∧ x ≤ 1 then frP s m x else -9223372036854775808 from rfl]
    simp (disch := first | assumption | omega | exact bi_lo | exact bi_hi | exact bi_01 | exact jcmp_lo | exact jcmp_hi | exact (jor_r _ _).1 | exact (jor_r _ _).2 | exact (jand_r _ _).1 | exact (jand_r _ _).2) only [x116_37, x116_39, x116_39n, x116_40, x116_43, x116_76, x116_77, x116_79, x116_80, x116_81, x116_84, kb_some, kb_none, clr_vi, clr_ref, clr_null, clr_none, va_rf_some, va_rf_none, ↓bi_ite_t, ↓bi_ite_f, ↓jc_lt_t, ↓jc_lt_f, ↓jc_gt_t, ↓jc_gt_f, ↓jc_le_t, ↓jc_le_f, ↓jc_ge_t, ↓jc_ge_f, ↓jc_eq_t, ↓jc_eq_f, ↓if_pos, ↓if_neg, hs, hp]
  | succ i ih =>
    intro k s m hi hk hs2 hm
    have hwk := hw k (by omega)
    have hty := fun d => t_typeOf (d := d) (J := J) (K := K) (i := (k : Int)) hT (by omega) (by omega)
    have hwo := fun d => t_worthOf (d := d) (J := J) (K := K) (i := (k : Int)) hT (by omega) (by omega)
    simp only [Int.toNat_natCast] at hty hwo
    have e : smS (J 37) (J 38) (i + 1) k s m = smS (J 37) (J 38) i (k + 1) (if J 37 k = 110 then s + J 38 k else s) (if J 37 k = 110 then m + 1 else m) := rfl
    rw [e]
    by_cases c : J 37 k = 110
    · rw [if_pos c, if_pos c]
      have ih' := ih (k + 1) (s + J 38 k) (m + 1) (by omega) (by omega) (by omega) (by omega)
      rw [Int.natCast_succ] at ih'
      have go : ∀ X, EE (d + 2) 116 37 [some (.ref 2), some (vi x), some (.ref 36), some (vl (s + J 38 k)), none, some (vi (m + 1)), some (vi ((k : Int) + 1))] [] (SH L) J K R = X → EE (d + 2) 116 37 [some (.ref 2), some (vi x), some (.ref 36), some (vl s), none, some (vi m), some (vi k)] [] (SH L) J K R = X := by
        intro X hX
        simp (disch := first | assumption | omega | exact bi_lo | exact bi_hi | exact bi_01 | exact jcmp_lo | exact jcmp_hi | exact (jor_r _ _).1 | exact (jor_r _ _).2 | exact (jand_r _ _).1 | exact (jand_r _ _).2) only [x116_37, x116_39, x116_39n, x116_40, x116_43, kb_some, kb_none, clr_vi, clr_ref, clr_null, clr_none, va_rf_some, va_rf_none, ↓bi_ite_t, ↓bi_ite_f, ↓jc_lt_t, ↓jc_lt_f, ↓jc_gt_t, ↓jc_gt_f, ↓jc_le_t, ↓jc_le_f, ↓jc_ge_t, ↓jc_ge_f, ↓jc_eq_t, ↓jc_eq_f, ↓if_pos, ↓if_neg, hs]
        simp (disch := first | assumption | omega | exact bi_lo | exact bi_hi | exact bi_01 | exact jcmp_lo | exact jcmp_hi | exact (jor_r _ _).1 | exact (jor_r _ _).2 | exact (jand_r _ _).1 | exact (jand_r _ _).2) only [x116_46, x116_46n, x116_47, x116_49, x116_52, x116_54, x116_57, x116_58, x116_58n, x116_59, x116_61, x116_64, x116_65, x116_66, x116_67, x116_70, x116_73, kb_some, kb_none, clr_vi, clr_ref, clr_null, clr_none, va_rf_some, va_rf_none, ↓bi_ite_t, ↓bi_ite_f, ↓jc_lt_t, ↓jc_lt_f, ↓jc_gt_t, ↓jc_gt_f, ↓jc_le_t, ↓jc_le_f, ↓jc_ge_t, ↓jc_ge_f, ↓jc_eq_t, ↓jc_eq_f, ↓if_pos, ↓if_neg, hty, hwo, c]
        exact hX
      exact go _ ih'
    · rw [if_neg c, if_neg c]
      have ih' := ih (k + 1) s m (by omega) (by omega) (by omega) (by omega)
      rw [Int.natCast_succ] at ih'
      have go : ∀ X, EE (d + 2) 116 37 [some (.ref 2), some (vi x), some (.ref 36), some (vl s), none, some (vi m), some (vi ((k : Int) + 1))] [] (SH L) J K R = X → EE (d + 2) 116 37 [some (.ref 2), some (vi x), some (.ref 36), some (vl s), none, some (vi m), some (vi k)] [] (SH L) J K R = X := by
        intro X hX
        simp (disch := first | assumption | omega | exact bi_lo | exact bi_hi | exact bi_01 | exact jcmp_lo | exact jcmp_hi | exact (jor_r _ _).1 | exact (jor_r _ _).2 | exact (jand_r _ _).1 | exact (jand_r _ _).2) only [x116_37, x116_39, x116_39n, x116_40, x116_43, kb_some, kb_none, clr_vi, clr_ref, clr_null, clr_none, va_rf_some, va_rf_none, ↓bi_ite_t, ↓bi_ite_f, ↓jc_lt_t, ↓jc_lt_f, ↓jc_gt_t, ↓jc_gt_f, ↓jc_le_t, ↓jc_le_f, ↓jc_ge_t, ↓jc_ge_f, ↓jc_eq_t, ↓jc_eq_f, ↓if_pos, ↓if_neg, hs]
        simp (disch := first | assumption | omega | exact bi_lo | exact bi_hi | exact bi_01 | exact jcmp_lo | exact jcmp_hi | exact (jor_r _ _).1 | exact (jor_r _ _).2 | exact (jand_r _ _).1 | exact (jand_r _ _).2) only [x116_46, x116_46n, x116_47, x116_49, x116_52, x116_54, x116_57, x116_58, x116_58n, x116_59, x116_61, x116_64, x116_65, x116_66, x116_67, x116_70, x116_73, kb_some, kb_none, clr_vi, clr_ref, clr_null, clr_none, va_rf_some, va_rf_none, ↓bi_ite_t, ↓bi_ite_f, ↓jc_lt_t, ↓jc_lt_f, ↓jc_gt_t, ↓jc_gt_f, ↓jc_le_t, ↓jc_le_f, ↓jc_ge_t, ↓jc_ge_f, ↓jc_eq_t, ↓jc_eq_f, ↓if_pos, ↓if_neg, hty]
        exact hX
      exact go _ ih'
theorem l_meanM (hR : wfR R) (hx : 0 ≤ x ∧ x ≤ 1) (h6 : 0 ≤ J 76 18 ∧ J 76 18 ≤ 40) (hw : ∀ j : Nat, (j : Int) < J 76 18 → (103 ≤ J 86 j ∧ J 86 j ≤ 115) ∧ -2147483648 ≤ J 87 j ∧ J 87 j ≤ 2147483647) : ∀ (i k : Nat) (s m : Int), (J 76 18).toNat - k = i → (k : Int) ≤ J 76 18 → (-(2147483648 * k) ≤ s ∧ s ≤ 2147483648 * k) → (0 ≤ m ∧ m ≤ k) →
    EE (d + 2) 222 34 [some (.ref 76), some (vi x), some (vl s), none, some (vi m), some (vi k)] [] (SH L) J K R = ok (some (vl (mnV (smS (J 86) (J 87) i k s m) x))) (SH L) J K R := by
  have s76 : (SH L)[76]? = some (11, 58) := rfl; have r76_0 : R 76 0 = some 77 := rr_lk hR rfl; have r76_3 : R 76 3 = some 78 := rr_lk hR rfl; have r76_4 : R 76 4 = some 79 := rr_lk hR rfl; have r76_6 : R 76 6 = some 80 := rr_lk hR rfl; have r76_7 : R 76 7 = some 81 := rr_lk hR rfl; have r76_9 : R 76 9 = some 82 := rr_lk hR rfl; have r76_10 : R 76 10 = some 83 := rr_lk hR rfl; have r76_12 : R 76 12 = some 84 := rr_lk hR rfl; have r76_13 : R 76 13 = some 85 := rr_lk hR rfl; have r76_19 : R 76 19 = some 86 := rr_lk hR rfl; have r76_20 : R 76 20 = some 87 := rr_lk hR rfl; have r76_21 : R 76 21 = some 88 := rr_lk hR rfl; have r76_22 : R 76 22 = some 89 := rr_lk hR rfl; have r76_24 : R 76 24 = some 90 := rr_lk hR rfl; have r76_25 : R 76 25 = some 91 := rr_lk hR rfl; have r76_26 : R 76 26 = some 92 := rr_lk hR rfl; have r76_28 : R 76 28 = some 93 := rr_lk hR rfl; have r76_29 : R 76 29 = some 94 := rr_lk hR rfl; have r76_30 : R 76 30 = some 95 := rr_lk hR rfl; have r76_31 : R 76 31 = some 96 := rr_lk hR rfl; have r76_32 : R 76 32 = some 97 := rr_lk hR rfl; have r76_36 : R 76 36 = some 98 := rr_lk hR rfl; have r76_38 : R 76 38 = some 99 := rr_lk hR rfl; have r76_39 : R 76 39 = some 100 := rr_lk hR rfl; have r76_40 : R 76 40 = some 101 := rr_lk hR rfl; have r76_41 : R 76 41 = some 102 := rr_lk hR rfl; have r76_42 : R 76 42 = some 103 := rr_lk hR rfl; have r76_47 : R 76 47 = some 104 := rr_lk hR rfl; have r76_53 : R 76 53 = some 105 := rr_lk hR rfl; have r76_54 : R 76 54 = some 106 := rr_lk hR rfl; have r76_55 : R 76 55 = some 107 := rr_lk hR rfl; have r76_56 : R 76 56 = some 108 := rr_lk hR rfl; have r76_57 : R 76 57 = some 109 := rr_lk hR rfl; have s86 : (SH L)[86]? = some (20, 60) := rfl; have s87 : (SH L)[87]? = some (20, 60) := rfl
  intro i
  induction i with
  | zero =>
    intro k s m hi hk hs2 hm
    by_cases c : m = 0
    · rw [show mnV (smS (J 86) (J 87) 0 k s m) x = -9223372036854775808 from if_neg (by show ¬ (0 < m ∧ 0 ≤ x ∧ x ≤ 1); omega)]
      subst c
      simp (disch := first | assumption | omega | exact bi_lo | exact bi_hi | exact bi_01 | exact jcmp_lo | exact jcmp_hi | exact (jor_r _ _).1 | exact (jor_r _ _).2 | exact (jand_r _ _).1 | exact (jand_r _ _).2) only [x222_34, x222_36, x222_37, x222_40, x222_98, x222_100, x222_103, x222_106, x222_109, x222_110, x222_112, x222_113, x222_114, x222_117, kb_some, kb_none, clr_vi, clr_ref, clr_null, clr_none, va_rf_some, va_rf_none, ↓bi_ite_t, ↓bi_ite_f, ↓jc_lt_t, ↓jc_lt_f, ↓jc_gt_t, ↓jc_gt_f, ↓jc_le_t, ↓jc_le_f, ↓jc_ge_t, ↓jc_ge_f, ↓jc_eq_t, ↓jc_eq_f, ↓if_pos, ↓if_neg]
    · rw [show mnV (smS (J 86) (J 87) 0 k s m) x = frP s m x from if_pos (by show 0 < m ∧ 0 ≤ x ∧ x ≤ 1; omega)]
      have hp := fun d => m_partOf (d := d) (J := J) (K := K) (R := R) (S := SH L) (v := s) (w := m) (part := x) (by omega) (by omega) hx
      simp (disch := first | assumption | omega | exact bi_lo | exact bi_hi | exact bi_01 | exact jcmp_lo | exact jcmp_hi | exact (jor_r _ _).1 | exact (jor_r _ _).2 | exact (jand_r _ _).1 | exact (jand_r _ _).2) only [x222_34, x222_36, x222_37, x222_40, x222_98, x222_100, x222_103, x222_106, x222_109, x222_110, x222_112, x222_113, x222_114, x222_117, kb_some, kb_none, clr_vi, clr_ref, clr_null, clr_none, va_rf_some, va_rf_none, ↓bi_ite_t, ↓bi_ite_f, ↓jc_lt_t, ↓jc_lt_f, ↓jc_gt_t, ↓jc_gt_f, ↓jc_le_t, ↓jc_le_f, ↓jc_ge_t, ↓jc_ge_f, ↓jc_eq_t, ↓jc_eq_f, ↓if_pos, ↓if_neg, hp]
  | succ i ih =>
    intro k s m hi hk hs2 hm
    have hwk := hw k (by omega)
    have e : smS (J 86) (J 87) (i + 1) k s m = smS (J 86) (J 87) i (k + 1) (if J 86 k = 110 then s + J 87 k else s) (if J 86 k = 110 then m + 1 else m) := rfl
    rw [e]
    by_cases c : J 86 k = 110
    · rw [if_pos c, if_pos c]
      have ih' := ih (k + 1) (s + J 87 k) (m + 1) (by omega) (by omega) (by omega) (by omega)
      rw [Int.natCast_succ] at ih'
      have go : ∀ X, EE (d + 2) 222 34 [some (.ref 76), some (vi x), some (vl (s + J 87 k)), none, some (vi (m + 1)), some (vi ((k : Int) + 1))] [] (SH L) J K R = X → EE (d + 2) 222 34 [some (.ref 76), some (vi x), some (vl s), none, some (vi m), some (vi k)] [] (SH L) J K R = X := by
        intro X hX
        simp (disch := first | assumption | omega | exact bi_lo | exact bi_hi | exact bi_01 | exact jcmp_lo | exact jcmp_hi | exact (jor_r _ _).1 | exact (jor_r _ _).2 | exact (jand_r _ _).1 | exact (jand_r _ _).2) only [x222_34, x222_36, x222_37, x222_40, kb_some, kb_none, clr_vi, clr_ref, clr_null, clr_none, va_rf_some, va_rf_none, ↓bi_ite_t, ↓bi_ite_f, ↓jc_lt_t, ↓jc_lt_f, ↓jc_gt_t, ↓jc_gt_f, ↓jc_le_t, ↓jc_le_f, ↓jc_ge_t, ↓jc_ge_f, ↓jc_eq_t, ↓jc_eq_f, ↓if_pos, ↓if_neg]
        simp (disch := first | assumption | omega | exact bi_lo | exact bi_hi | exact bi_01 | exact jcmp_lo | exact jcmp_hi | exact (jor_r _ _).1 | exact (jor_r _ _).2 | exact (jand_r _ _).1 | exact (jand_r _ _).2) only [x222_43, x222_44, x222_45, x222_48, x222_50, x222_51, x222_53, x222_56, x222_57, x222_60, x222_62, x222_63, x222_64, x222_67, x222_68, x222_69, x222_70, x222_72, x222_73, x222_76, x222_78, x222_79, x222_81, x222_84, x222_85, x222_88, x222_89, x222_90, x222_92, x222_95, kb_some, kb_none, clr_vi, clr_ref, clr_null, clr_none, va_rf_some, va_rf_none, ↓bi_ite_t, ↓bi_ite_f, ↓jc_lt_t, ↓jc_lt_f, ↓jc_gt_t, ↓jc_gt_f, ↓jc_le_t, ↓jc_le_f, ↓jc_ge_t, ↓jc_ge_f, ↓jc_eq_t, ↓jc_eq_f, ↓if_pos, ↓if_neg, Int.toNat_natCast, c]
        exact hX
      exact go _ ih'
    · rw [if_neg c, if_neg c]
      have ih' := ih (k + 1) s m (by omega) (by omega) (by omega) (by omega)
      rw [Int.natCast_succ] at ih'
      have go : ∀ X, EE (d + 2) 222 34 [some (.ref 76), some (vi x), some (vl s), none, some (vi m), some (vi ((k : Int) + 1))] [] (SH L) J K R = X → EE (d + 2) 222 34 [some (.ref 76), some (vi x), some (vl s), none, some (vi m), some (vi k)] [] (SH L) J K R = X := by
        intro X hX
        simp (disch := first | assumption | omega | exact bi_lo | exact bi_hi | exact bi_01 | exact jcmp_lo | exact jcmp_hi | exact (jor_r _ _).1 | exact (jor_r _ _).2 | exact (jand_r _ _).1 | exact (jand_r _ _).2) only [x222_34, x222_36, x222_37, x222_40, kb_some, kb_none, clr_vi, clr_ref, clr_null, clr_none, va_rf_some, va_rf_none, ↓bi_ite_t, ↓bi_ite_f, ↓jc_lt_t, ↓jc_lt_f, ↓jc_gt_t, ↓jc_gt_f, ↓jc_le_t, ↓jc_le_f, ↓jc_ge_t, ↓jc_ge_f, ↓jc_eq_t, ↓jc_eq_f, ↓if_pos, ↓if_neg]
        simp (disch := first | assumption | omega | exact bi_lo | exact bi_hi | exact bi_01 | exact jcmp_lo | exact jcmp_hi | exact (jor_r _ _).1 | exact (jor_r _ _).2 | exact (jand_r _ _).1 | exact (jand_r _ _).2) only [x222_43, x222_44, x222_45, x222_48, x222_50, x222_51, x222_53, x222_56, x222_57, x222_60, x222_62, x222_63, x222_64, x222_67, x222_68, x222_69, x222_70, x222_72, x222_73, x222_76, x222_78, x222_79, x222_81, x222_84, x222_85, x222_88, x222_89, x222_90, x222_92, x222_95, kb_some, kb_none, clr_vi, clr_ref, clr_null, clr_none, va_rf_some, va_rf_none, ↓bi_ite_t, ↓bi_ite_f, ↓jc_lt_t, ↓jc_lt_f, ↓jc_gt_t, ↓jc_gt_f, ↓jc_le_t, ↓jc_le_f, ↓jc_ge_t, ↓jc_ge_f, ↓jc_eq_t, ↓jc_eq_f, ↓if_pos, ↓if_neg, Int.toNat_natCast, Int.add_zero]
        exact hX
      exact go _ ih'
theorem op_mean (h : INV J K R) (hx : -2147483648 ≤ x ∧ x ≤ 2147483647) : OP L d 116 222 [some (vi x), none, none, none, none, none] [some (vi x), none, none, none, none] J K R := by
  have hR := h.1
  have s2 : (SH L)[2]? = some (10, 10) := rfl; have r2_0 : R 2 0 = some 3 := rr_lk hR rfl; have r2_1 : R 2 1 = some 15 := rr_lk hR rfl; have r2_3 : R 2 3 = some 27 := rr_lk hR rfl; have r2_4 : R 2 4 = some 29 := rr_lk hR rfl; have r2_5 : R 2 5 = some 31 := rr_lk hR rfl; have r2_6 : R 2 6 = some 46 := rr_lk hR rfl; have r2_7 : R 2 7 = some 57 := rr_lk hR rfl; have r2_8 : R 2 8 = some 60 := rr_lk hR rfl; have r2_9 : R 2 9 = some 63 := rr_lk hR rfl; have s3 : (SH L)[3]? = some (6, 4) := rfl; have r3_0 : R 3 0 = some 4 := rr_lk hR rfl; have r3_1 : R 3 1 = some 6 := rr_lk hR rfl; have r3_2 : R 3 2 = some 9 := rr_lk hR rfl; have r3_3 : R 3 3 = some 12 := rr_lk hR rfl; have s4 : (SH L)[4]? = some (0, 2) := rfl; have r4_0 : R 4 0 = some 5 := rr_lk hR rfl; have s31 : (SH L)[31]? = some (2, 5) := rfl; have r31_0 : R 31 0 = some 32 := rr_lk hR rfl; have r31_1 : R 31 1 = some 36 := rr_lk hR rfl; have s76 : (SH L)[76]? = some (11, 58) := rfl; have r76_0 : R 76 0 = some 77 := rr_lk hR rfl; have r76_3 : R 76 3 = some 78 := rr_lk hR rfl; have r76_4 : R 76 4 = some 79 := rr_lk hR rfl; have r76_6 : R 76 6 = some 80 := rr_lk hR rfl; have r76_7 : R 76 7 = some 81 := rr_lk hR rfl; have r76_9 : R 76 9 = some 82 := rr_lk hR rfl; have r76_10 : R 76 10 = some 83 := rr_lk hR rfl; have r76_12 : R 76 12 = some 84 := rr_lk hR rfl; have r76_13 : R 76 13 = some 85 := rr_lk hR rfl; have r76_19 : R 76 19 = some 86 := rr_lk hR rfl; have r76_20 : R 76 20 = some 87 := rr_lk hR rfl; have r76_21 : R 76 21 = some 88 := rr_lk hR rfl; have r76_22 : R 76 22 = some 89 := rr_lk hR rfl; have r76_24 : R 76 24 = some 90 := rr_lk hR rfl; have r76_25 : R 76 25 = some 91 := rr_lk hR rfl; have r76_26 : R 76 26 = some 92 := rr_lk hR rfl; have r76_28 : R 76 28 = some 93 := rr_lk hR rfl; have r76_29 : R 76 29 = some 94 := rr_lk hR rfl; have r76_30 : R 76 30 = some 95 := rr_lk hR rfl; have r76_31 : R 76 31 = some 96 := rr_lk hR rfl; have r76_32 : R 76 32 = some 97 := rr_lk hR rfl; have r76_36 : R 76 36 = some 98 := rr_lk hR rfl; have r76_38 : R 76 38 = some 99 := rr_lk hR rfl; have r76_39 : R 76 39 = some 100 := rr_lk hR rfl; have r76_40 : R 76 40 = some 101 := rr_lk hR rfl; have r76_41 : R 76 41 = some 102 := rr_lk hR rfl; have r76_42 : R 76 42 = some 103 := rr_lk hR rfl; have r76_47 : R 76 47 = some 104 := rr_lk hR rfl; have r76_53 : R 76 53 = some 105 := rr_lk hR rfl; have r76_54 : R 76 54 = some 106 := rr_lk hR rfl; have r76_55 : R 76 55 = some 107 := rr_lk hR rfl; have r76_56 : R 76 56 = some 108 := rr_lk hR rfl; have r76_57 : R 76 57 = some 109 := rr_lk hR rfl
  obtain ⟨J1, R1, J2, b3, b4, b5, c2, hI, hm⟩ := rd_both (L := L) (d + 8) (d + 14) h
  have hR := b3
  have s2 : (SH L)[2]? = some (10, 10) := rfl; have r2_0 : R1 2 0 = some 3 := rr_lk hR rfl; have r2_1 : R1 2 1 = some 15 := rr_lk hR rfl; have r2_3 : R1 2 3 = some 27 := rr_lk hR rfl; have r2_4 : R1 2 4 = some 29 := rr_lk hR rfl; have r2_5 : R1 2 5 = some 31 := rr_lk hR rfl; have r2_6 : R1 2 6 = some 46 := rr_lk hR rfl; have r2_7 : R1 2 7 = some 57 := rr_lk hR rfl; have r2_8 : R1 2 8 = some 60 := rr_lk hR rfl; have r2_9 : R1 2 9 = some 63 := rr_lk hR rfl; have s31 : (SH L)[31]? = some (2, 5) := rfl; have r31_0 : R1 31 0 = some 32 := rr_lk hR rfl; have r31_1 : R1 31 1 = some 36 := rr_lk hR rfl; have s36 : (SH L)[36]? = some (9, 7) := rfl; have r36_0 : R1 36 0 = some 37 := rr_lk hR rfl; have r36_1 : R1 36 1 = some 38 := rr_lk hR rfl; have r36_2 : R1 36 2 = some 39 := rr_lk hR rfl; have r36_3 : R1 36 3 = some 40 := rr_lk hR rfl; have r36_4 : R1 36 4 = some 41 := rr_lk hR rfl; have r36_5 : R1 36 5 = some 42 := rr_lk hR rfl; have s76 : (SH L)[76]? = some (11, 58) := rfl; have r76_0 : R1 76 0 = some 77 := rr_lk hR rfl; have r76_3 : R1 76 3 = some 78 := rr_lk hR rfl; have r76_4 : R1 76 4 = some 79 := rr_lk hR rfl; have r76_6 : R1 76 6 = some 80 := rr_lk hR rfl; have r76_7 : R1 76 7 = some 81 := rr_lk hR rfl; have r76_9 : R1 76 9 = some 82 := rr_lk hR rfl; have r76_10 : R1 76 10 = some 83 := rr_lk hR rfl; have r76_12 : R1 76 12 = some 84 := rr_lk hR rfl; have r76_13 : R1 76 13 = some 85 := rr_lk hR rfl; have r76_19 : R1 76 19 = some 86 := rr_lk hR rfl; have r76_20 : R1 76 20 = some 87 := rr_lk hR rfl; have r76_21 : R1 76 21 = some 88 := rr_lk hR rfl; have r76_22 : R1 76 22 = some 89 := rr_lk hR rfl; have r76_24 : R1 76 24 = some 90 := rr_lk hR rfl; have r76_25 : R1 76 25 = some 91 := rr_lk hR rfl; have r76_26 : R1 76 26 = some 92 := rr_lk hR rfl; have r76_28 : R1 76 28 = some 93 := rr_lk hR rfl; have r76_29 : R1 76 29 = some 94 := rr_lk hR rfl; have r76_30 : R1 76 30 = some 95 := rr_lk hR rfl; have r76_31 : R1 76 31 = some 96 := rr_lk hR rfl; have r76_32 : R1 76 32 = some 97 := rr_lk hR rfl; have r76_36 : R1 76 36 = some 98 := rr_lk hR rfl; have r76_38 : R1 76 38 = some 99 := rr_lk hR rfl; have r76_39 : R1 76 39 = some 100 := rr_lk hR rfl; have r76_40 : R1 76 40 = some 101 := rr_lk hR rfl; have r76_41 : R1 76 41 = some 102 := rr_lk hR rfl; have r76_42 : R1 76 42 = some 103 := rr_lk hR rfl; have r76_47 : R1 76 47 = some 104 := rr_lk hR rfl; have r76_53 : R1 76 53 = some 105 := rr_lk hR rfl; have r76_54 : R1 76 54 = some 106 := rr_lk hR rfl; have r76_55 : R1 76 55 = some 107 := rr_lk hR rfl; have r76_56 : R1 76 56 = some 108 := rr_lk hR rfl; have r76_57 : R1 76 57 = some 109 := rr_lk hR rfl
  have hin := fun d J => m_in (d := d) (S := SH L) (J := J) (K := K) (R := R1) (x := x) (y := 0) (z := 1) (by omega) (by omega) (by omega)
  have hI0 : INV (mm_up J1 76 11 0) K R1 := INV_read h b3 b5 b4 (fun _ _ _ => rfl)
  cases hw : wh (mA J) (J 76 1) with
  | error q =>
    rw [hw] at hm
    obtain ⟨p1, p2, p3, p4, p5⟩ := hm
    by_cases cx : 0 ≤ x ∧ x ≤ 1
    · simp only [bi_t cx] at hin
      refine ⟨vl (-9223372036854775808), J1, K, R1, J2, K, R1, ?_, ?_, hI⟩
      · simp (disch := first | assumption | omega | exact bi_lo | exact bi_hi | exact bi_01 | exact jcmp_lo | exact jcmp_hi | exact (jor_r _ _).1 | exact (jor_r _ _).2 | exact (jand_r _ _).1 | exact (jand_r _ _).2) only [x116_0, x116_1, x116_4, x116_5, x116_8, x116_11, x116_14, x116_17, x116_20, x116_21, x116_22, x116_25, x116_28, x116_28n, x116_29, x116_30, x116_31, x116_32, x116_34, x116_35, x116_37, x116_39, x116_39n, x116_40, x116_43, x116_46, x116_46n, x116_47, x116_49, x116_52, x116_54, x116_57, x116_58, x116_58n, x116_59, x116_61, x116_64, x116_65, x116_66, x116_67, x116_70, x116_73, x116_76, x116_77, x116_79, x116_80, x116_81, x116_84, kb_some, kb_none, clr_vi, clr_ref, clr_null, clr_none, va_rf_some, va_rf_none, ↓bi_ite_t, ↓bi_ite_f, ↓jc_lt_t, ↓jc_lt_f, ↓jc_gt_t, ↓jc_gt_f, ↓jc_le_t, ↓jc_le_f, ↓jc_ge_t, ↓jc_ge_f, ↓jc_eq_t, ↓jc_eq_f, ↓if_pos, ↓if_neg, p1]
      · simp (disch := first | assumption | omega | exact bi_lo | exact bi_hi | exact bi_01 | exact jcmp_lo | exact jcmp_hi | exact (jor_r _ _).1 | exact (jor_r _ _).2 | exact (jand_r _ _).1 | exact (jand_r _ _).2) only [x222_0, x222_1, x222_2, x222_5, x222_6, x222_7, x222_8, x222_9, x222_12, x222_15, x222_16, x222_19, x222_22, x222_25, kb_some, kb_none, clr_vi, clr_ref, clr_null, clr_none, va_rf_some, va_rf_none, ↓bi_ite_t, ↓bi_ite_f, ↓jc_lt_t, ↓jc_lt_f, ↓jc_gt_t, ↓jc_gt_f, ↓jc_le_t, ↓jc_le_f, ↓jc_ge_t, ↓jc_ge_f, ↓jc_eq_t, ↓jc_eq_f, ↓if_pos, ↓if_neg, hin, p3]
    · simp only [bi_f cx] at hin
      refine ⟨vl (-9223372036854775808), J1, K, R1, mm_up J1 76 11 0, K, R1, ?_, ?_, hI0⟩
      · simp (disch := first | assumption | omega | exact bi_lo | exact bi_hi | exact bi_01 | exact jcmp_lo | exact jcmp_hi | exact (jor_r _ _).1 | exact (jor_r _ _).2 | exact (jand_r _ _).1 | exact (jand_r _ _).2) only [x116_0, x116_1, x116_4, x116_5, x116_8, x116_11, x116_14, x116_17, x116_20, x116_21, x116_22, x116_25, x116_28, x116_28n, x116_29, x116_30, x116_31, x116_32, x116_34, x116_35, x116_37, x116_39, x116_39n, x116_40, x116_43, x116_46, x116_46n, x116_47, x116_49, x116_52, x116_54, x116_57, x116_58, x116_58n, x116_59, x116_61, x116_64, x116_65, x116_66, x116_67, x116_70, x116_73, x116_76, x116_77, x116_79, x116_80, x116_81, x116_84, kb_some, kb_none, clr_vi, clr_ref, clr_null, clr_none, va_rf_some, va_rf_none, ↓bi_ite_t, ↓bi_ite_f, ↓jc_lt_t, ↓jc_lt_f, ↓jc_gt_t, ↓jc_gt_f, ↓jc_le_t, ↓jc_le_f, ↓jc_ge_t, ↓jc_ge_f, ↓jc_eq_t, ↓jc_eq_f, ↓if_pos, ↓if_neg, p1]
      · simp (disch := first | assumption | omega | exact bi_lo | exact bi_hi | exact bi_01 | exact jcmp_lo | exact jcmp_hi | exact (jor_r _ _).1 | exact (jor_r _ _).2 | exact (jand_r _ _).1 | exact (jand_r _ _).2) only [x222_0, x222_1, x222_2, x222_5, x222_6, x222_7, x222_8, x222_9, x222_12, x222_15, x222_16, x222_19, x222_22, x222_25, kb_some, kb_none, clr_vi, clr_ref, clr_null, clr_none, va_rf_some, va_rf_none, ↓bi_ite_t, ↓bi_ite_f, ↓jc_lt_t, ↓jc_lt_f, ↓jc_gt_t, ↓jc_gt_f, ↓jc_le_t, ↓jc_le_f, ↓jc_ge_t, ↓jc_ge_f, ↓jc_eq_t, ↓jc_eq_f, ↓if_pos, ↓if_neg, hin]
  | ok F =>
    rw [hw] at hm
    obtain ⟨p1, p2, p3, p4, ⟨p5, p6, p7⟩, p8⟩ := hm
    have e36 := p2.2.1
    have e76 := p4.2
    have hcm := cmF_eq 4 0 (-1) F 0 p2.1 p4.1 p5
    have hl := l_mean (L := L) (d := d + 18) (J := J1) (K := K) (x := x) b3 hx (by omega) (fun j hj => (hcm j (by omega) (by omega)).2.2) (J1 36 6).toNat 0 0 0 (by omega) (by omega) (by omega) (by omega)
    rw [show ((0 : Nat) : Int) = 0 from rfl] at hl
    by_cases cx : 0 ≤ x ∧ x ≤ 1
    · simp only [bi_t cx] at hin
      have hl2 := l_meanM (L := L) (d := d + 18) (J := J2) (K := K) (x := x) b3 cx (by omega) (fun j hj => by have := hcm j (by omega) (by omega); omega) (J2 76 18).toNat 0 0 0 (by omega) (by omega) (by omega) (by omega)
      rw [show ((0 : Nat) : Int) = 0 from rfl] at hl2
      rw [smS_c (y' := J2 86) (w' := J2 87) (J1 36 6).toNat 0 0 0 (fun j j1 j2 => by have := hcm j (by omega) (by omega); exact ⟨this.1, this.2.1⟩), show (J1 36 6).toNat = (J2 76 18).toNat by omega] at hl
      refine ⟨vl (mnV (smS (J2 86) (J2 87) (J2 76 18).toNat 0 0 0) x), J1, K, R1, J2, K, R1, ?_, ?_, hI⟩
      · simp (disch := first | assumption | omega | exact bi_lo | exact bi_hi | exact bi_01 | exact jcmp_lo | exact jcmp_hi | exact (jor_r _ _).1 | exact (jor_r _ _).2 | exact (jand_r _ _).1 | exact (jand_r _ _).2) only [x116_0, x116_1, x116_4, x116_5, x116_8, x116_11, x116_14, x116_17, x116_20, x116_21, x116_22, x116_25, x116_28, x116_28n, x116_29, x116_30, x116_31, x116_32, x116_34, x116_35, x16_0, x16_1, x16_4, x16_4n, kb_some, kb_none, clr_vi, clr_ref, clr_null, clr_none, va_rf_some, va_rf_none, ↓bi_ite_t, ↓bi_ite_f, ↓jc_lt_t, ↓jc_lt_f, ↓jc_gt_t, ↓jc_gt_f, ↓jc_le_t, ↓jc_le_f, ↓jc_ge_t, ↓jc_ge_f, ↓jc_eq_t, ↓jc_eq_f, ↓if_pos, ↓if_neg, p1]
        exact hl
      · simp (disch := first | assumption | omega | exact bi_lo | exact bi_hi | exact bi_01 | exact jcmp_lo | exact jcmp_hi | exact (jor_r _ _).1 | exact (jor_r _ _).2 | exact (jand_r _ _).1 | exact (jand_r _ _).2) only [x222_0, x222_1, x222_2, x222_5, x222_6, x222_7, x222_8, x222_9, x222_12, x222_15, x222_16, x222_19, x222_22, x222_25, x222_26, x222_27, x222_28, x222_29, x222_31, x222_32, kb_some, kb_none, clr_vi, clr_ref, clr_null, clr_none, va_rf_some, va_rf_none, ↓bi_ite_t, ↓bi_ite_f, ↓jc_lt_t, ↓jc_lt_f, ↓jc_gt_t, ↓jc_gt_f, ↓jc_le_t, ↓jc_le_f, ↓jc_ge_t, ↓jc_ge_f, ↓jc_eq_t, ↓jc_eq_f, ↓if_pos, ↓if_neg, hin, p3]
        exact hl2
    · simp only [bi_f cx] at hin
      rw [show mnV (smS (J1 37) (J1 38) (J1 36 6).toNat 0 0 0) x = -9223372036854775808 from if_neg (fun hh => cx hh.2)] at hl
      refine ⟨vl (-9223372036854775808), J1, K, R1, mm_up J1 76 11 0, K, R1, ?_, ?_, hI0⟩
      · simp (disch := first | assumption | omega | exact bi_lo | exact bi_hi | exact bi_01 | exact jcmp_lo | exact jcmp_hi | exact (jor_r _ _).1 | exact (jor_r _ _).2 | exact (jand_r _ _).1 | exact (jand_r _ _).2) only [x116_0, x116_1, x116_4, x116_5, x116_8, x116_11, x116_14, x116_17, x116_20, x116_21, x116_22, x116_25, x116_28, x116_28n, x116_29, x116_30, x116_31, x116_32, x116_34, x116_35, x16_0, x16_1, x16_4, x16_4n, kb_some, kb_none, clr_vi, clr_ref, clr_null, clr_none, va_rf_some, va_rf_none, ↓bi_ite_t, ↓bi_ite_f, ↓jc_lt_t, ↓jc_lt_f, ↓jc_gt_t, ↓jc_gt_f, ↓jc_le_t, ↓jc_le_f, ↓jc_ge_t, ↓jc_ge_f, ↓jc_eq_t, ↓jc_eq_f, ↓if_pos, ↓if_neg, p1]
        exact hl
      · simp (disch := first | assumption | omega | exact bi_lo | exact bi_hi | exact bi_01 | exact jcmp_lo | exact jcmp_hi | exact (jor_r _ _).1 | exact (jor_r _ _).2 | exact (jand_r _ _).1 | exact (jand_r _ _).2) only [x222_0, x222_1, x222_2, x222_5, x222_6, x222_7, x222_8, x222_9, x222_12, x222_15, x222_16, x222_19, x222_22, x222_25, kb_some, kb_none, clr_vi, clr_ref, clr_null, clr_none, va_rf_some, va_rf_none, ↓bi_ite_t, ↓bi_ite_f, ↓jc_lt_t, ↓jc_lt_f, ↓jc_gt_t, ↓jc_gt_f, ↓jc_le_t, ↓jc_le_f, ↓jc_ge_t, ↓jc_ge_f, ↓jc_eq_t, ↓jc_eq_f, ↓if_pos, ↓if_neg, hin]
end
