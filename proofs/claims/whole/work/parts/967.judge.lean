/-! the calls, one by one: judge -/
/-- where a row of items is otherwise than the bytes b -/
def jd (g b : Nat → Int) (n y : Int) : Nat → Nat → Int
  | 0, _ => -5
  | i + 1, k => if 0 ≤ y ∧ y + k < n then (if g (y.toNat + k) = ji2b (b k) then jd g b n y i (k + 1) else k) else 1000 + k
theorem jd_c {g g' b b' : Nat → Int} {n y : Int} (hg : ∀ j : Nat, (j : Int) < n → g j = g' j) : ∀ (i k s : Nat), i + k = s → (∀ j, j < s → b j = b' j) → jd g b n y i k = jd g' b' n y i k := by
  intro i
  induction i with
  | zero => intro k s hs hb; rfl
  | succ i ih =>
    intro k s hs hb
    unfold jd
    by_cases c : 0 ≤ y ∧ y + k < n
    · rw [if_pos c, if_pos c, hg _ (by omega), hb k (by omega), ih (k + 1) s (by omega) hb]
    · rw [if_neg c, if_neg c]
section
variable {L d : Nat} {J J' J1 J2 K K' : mJ} {R R1 R' : mm_R} {x y z v : Int} {f : Int → Int}
theorem l_judge (hR : wfR R) (hx : 0 ≤ x ∧ x < 6) (hy : -2147483648 ≤ y ∧ y ≤ 2147483647) (h1 : 0 ≤ J 4 1 ∧ J 4 1 ≤ 120) (hs : 0 ≤ J (64 + 2 * x.toNat) 2 ∧ J (64 + 2 * x.toNat) 2 ≤ 60) (hK : ∀ j : Nat, (j : Int) < J (64 + 2 * x.toNat) 2 → -9223372036854775808 ≤ K (65 + 2 * x.toNat) j ∧ K (65 + 2 * x.toNat) j ≤ 9223372036854775807) : ∀ (i k : Nat), (J 4 1).toNat - k = i → k ≤ 120 →
    EE (d + 2) 121 32 [some (.ref 2), some (vi x), some (vi y), some (.ref (64 + 2 * x.toNat)), some (vi k)] [] (SH L) J K R = ok (some (vi (jd (K (65 + 2 * x.toNat)) (J 5) (J (64 + 2 * x.toNat) 2) y i k))) (SH L) J K R := by
  have s2 : (SH L)[2]? = some (10, 10) := rfl; have r2_0 : R 2 0 = some 3 := rr_lk hR rfl; have r2_1 : R 2 1 = some 15 := rr_lk hR rfl; have r2_3 : R 2 3 = some 27 := rr_lk hR rfl; have r2_4 : R 2 4 = some 29 := rr_lk hR rfl; have r2_5 : R 2 5 = some 31 := rr_lk hR rfl; have r2_6 : R 2 6 = some 46 := rr_lk hR rfl; have r2_7 : R 2 7 = some 57 := rr_lk hR rfl; have r2_8 : R 2 8 = some 60 := rr_lk hR rfl; have r2_9 : R 2 9 = some 63 := rr_lk hR rfl; have s3 : (SH L)[3]? = some (6, 4) := rfl; have r3_0 : R 3 0 = some 4 := rr_lk hR rfl; have r3_1 : R 3 1 = some 6 := rr_lk hR rfl; have r3_2 : R 3 2 = some 9 := rr_lk hR rfl; have r3_3 : R 3 3 = some 12 := rr_lk hR rfl; have s4 : (SH L)[4]? = some (0, 2) := rfl; have r4_0 : R 4 0 = some 5 := rr_lk hR rfl
  have hP := (rTp (L := L) hR x.toNat (by omega)).2
  have hsP := hP.1
  have hB : isB (SH L) R 4 5 120 := ⟨rfl, rr_lk hR rfl, rfl, by decide, by decide, by decide⟩
  have s1 := fun d => c_size (d := d) (J := J) (K := K) hB
  have hh := fun d => p_has (d := d) (J := J) (K := K) (i := y) hP hy hs
  intro i
  induction i with
  | zero =>
    intro k hi hk
    rw [show jd (K (65 + 2 * x.toNat)) (J 5) (J (64 + 2 * x.toNat) 2) y 0 k = -5 from rfl]
    simp (disch := first | assumption | omega | exact bi_lo | exact bi_hi | exact bi_01 | exact jcmp_lo | exact jcmp_hi | exact (jor_r _ _).1 | exact (jor_r _ _).2 | exact (jand_r _ _).1 | exact (jand_r _ _).2) only [x121_32, x121_34, x121_35, x121_38, x121_41, x121_44, x121_108, x121_110, kb_some, kb_none, clr_vi, clr_ref, clr_null, clr_none, va_rf_some, va_rf_none, ↓bi_ite_t, ↓bi_ite_f, ↓jc_lt_t, ↓jc_lt_f, ↓jc_gt_t, ↓jc_gt_f, ↓jc_le_t, ↓jc_le_f, ↓jc_ge_t, ↓jc_ge_f, ↓jc_eq_t, ↓jc_eq_f, ↓if_pos, ↓if_neg, s1]
  | succ i ih =>
    intro k hi hk
    have e : jd (K (65 + 2 * x.toNat)) (J 5) (J (64 + 2 * x.toNat) 2) y (i + 1) k = if 0 ≤ y ∧ y + k < J (64 + 2 * x.toNat) 2 then (if K (65 + 2 * x.toNat) (y.toNat + k) = ji2b (J 5 k) then jd (K (65 + 2 * x.toNat)) (J 5) (J (64 + 2 * x.toNat) 2) y i (k + 1) else k) else 1000 + k := rfl
    rw [e]
    by_cases c : 0 ≤ y ∧ y + k < J (64 + 2 * x.toNat) 2
    · rw [if_pos c]
      simp only [bi_t (show 0 ≤ y ∧ y < J (64 + 2 * x.toNat) 2 by omega)] at hh
      have hh2 := fun d => p_has (d := d) (J := J) (K := K) (i := y + k) hP (by omega) hs
      simp only [bi_t (show 0 ≤ y + k ∧ y + (k : Int) < J (64 + 2 * x.toNat) 2 by omega)] at hh2
      have hi2 := fun d => p_itemAt (d := d) (J := J) (K := K) (i := y + k) hP (by omega) hs
      simp only [if_pos (show 0 ≤ y + k ∧ y + (k : Int) < J (64 + 2 * x.toNat) 2 by omega)] at hi2
      rw [show (y + (k : Int)).toNat = y.toNat + k by omega] at hi2
      have hby := fun d => c_byteAt (d := d) (J := J) (K := K) (x := (k : Int)) hB (by omega) h1
      simp only [if_pos (show 0 ≤ (k : Int) ∧ (k : Int) < J 4 1 by omega), Int.toNat_natCast] at hby
      have hj := ji2b_r (J 5 k)
      have hk2 := hK (y.toNat + k) (by omega)
      by_cases c2 : K (65 + 2 * x.toNat) (y.toNat + k) = ji2b (J 5 k)
      · rw [if_pos c2]
        rw [c2] at hi2
        have ih' := ih (k + 1) (by omega) (by omega)
        rw [Int.natCast_succ] at ih'
        have go : ∀ X, EE (d + 2) 121 32 [some (.ref 2), some (vi x), some (vi y), some (.ref (64 + 2 * x.toNat)), some (vi ((k : Int) + 1))] [] (SH L) J K R = X → EE (d + 2) 121 32 [some (.ref 2), some (vi x), some (vi y), some (.ref (64 + 2 * x.toNat)), some (vi k)] [] (SH L) J K R = X := by
          intro X hX
          simp (disch := first | assumption | omega | exact bi_lo | exact bi_hi | exact bi_01 | exact jcmp_lo | exact jcmp_hi | exact (jor_r _ _).1 | exact (jor_r _ _).2 | exact (jand_r _ _).1 | exact (jand_r _ _).2) only [x121_32, x121_34, x121_35, x121_38, x121_41, x121_44, kb_some, kb_none, clr_vi, clr_ref, clr_null, clr_none, va_rf_some, va_rf_none, ↓bi_ite_t, ↓bi_ite_f, ↓jc_lt_t, ↓jc_lt_f, ↓jc_gt_t, ↓jc_gt_f, ↓jc_le_t, ↓jc_le_f, ↓jc_ge_t, ↓jc_ge_f, ↓jc_eq_t, ↓jc_eq_f, ↓if_pos, ↓if_neg, s1]
          simp (disch := first | assumption | omega | exact bi_lo | exact bi_hi | exact bi_01 | exact jcmp_lo | exact jcmp_hi | exact (jor_r _ _).1 | exact (jor_r _ _).2 | exact (jand_r _ _).1 | exact (jand_r _ _).2) only [x121_47, x121_47n, x121_48, x121_49, x121_52, x121_55, x121_55n, x121_56, x121_57, x121_59, x121_60, x121_63, x121_66, x121_69, x121_71, x121_72, x121_73, x121_73n, x121_74, x121_75, x121_77, x121_78, x121_81, x121_82, x121_85, x121_88, x121_90, x121_93, x121_94, x121_95, x121_96, x121_99, x121_101, x121_102, x121_105, kb_some, kb_none, clr_vi, clr_ref, clr_null, clr_none, va_rf_some, va_rf_none, ↓bi_ite_t, ↓bi_ite_f, ↓jc_lt_t, ↓jc_lt_f, ↓jc_gt_t, ↓jc_gt_f, ↓jc_le_t, ↓jc_le_f, ↓jc_ge_t, ↓jc_ge_f, ↓jc_eq_t, ↓jc_eq_f, ↓if_pos, ↓if_neg, hh, hh2, hi2, hby]
          exact hX
        exact go _ ih'
      · rw [if_neg c2]
        simp (disch := first | assumption | omega | exact bi_lo | exact bi_hi | exact bi_01 | exact jcmp_lo | exact jcmp_hi | exact (jor_r _ _).1 | exact (jor_r _ _).2 | exact (jand_r _ _).1 | exact (jand_r _ _).2) only [x121_32, x121_34, x121_35, x121_38, x121_41, x121_44, kb_some, kb_none, clr_vi, clr_ref, clr_null, clr_none, va_rf_some, va_rf_none, ↓bi_ite_t, ↓bi_ite_f, ↓jc_lt_t, ↓jc_lt_f, ↓jc_gt_t, ↓jc_gt_f, ↓jc_le_t, ↓jc_le_f, ↓jc_ge_t, ↓jc_ge_f, ↓jc_eq_t, ↓jc_eq_f, ↓if_pos, ↓if_neg, s1]
        simp (disch := first | assumption | omega | exact bi_lo | exact bi_hi | exact bi_01 | exact jcmp_lo | exact jcmp_hi | exact (jor_r _ _).1 | exact (jor_r _ _).2 | exact (jand_r _ _).1 | exact (jand_r _ _).2) only [x121_47, x121_47n, x121_48, x121_49, x121_52, x121_55, x121_55n, x121_56, x121_57, x121_59, x121_60, x121_63, x121_66, x121_69, x121_71, x121_72, x121_73, x121_73n, x121_74, x121_75, x121_77, x121_78, x121_81, x121_82, x121_85, x121_88, x121_90, x121_93, x121_94, x121_95, x121_96, x121_99, x121_101, kb_some, kb_none, clr_vi, clr_ref, clr_null, clr_none, va_rf_some, va_rf_none, ↓bi_ite_t, ↓bi_ite_f, ↓jc_lt_t, ↓jc_lt_f, ↓jc_gt_t, ↓jc_gt_f, ↓jc_le_t, ↓jc_le_f, ↓jc_ge_t, ↓jc_ge_f, ↓jc_eq_t, ↓jc_eq_f, ↓if_pos, ↓if_neg, hh, hh2, hi2, hby]
    · rw [if_neg c]
      by_cases c3 : 0 ≤ y ∧ y < J (64 + 2 * x.toNat) 2
      · simp only [bi_t c3] at hh
        have hh2 := fun d => p_has (d := d) (J := J) (K := K) (i := y + k) hP (by omega) hs
        simp only [bi_f (show ¬ (0 ≤ y + k ∧ y + (k : Int) < J (64 + 2 * x.toNat) 2) by omega)] at hh2
        simp (disch := first | assumption | omega | exact bi_lo | exact bi_hi | exact bi_01 | exact jcmp_lo | exact jcmp_hi | exact (jor_r _ _).1 | exact (jor_r _ _).2 | exact (jand_r _ _).1 | exact (jand_r _ _).2) only [x121_32, x121_34, x121_35, x121_38, x121_41, x121_44, kb_some, kb_none, clr_vi, clr_ref, clr_null, clr_none, va_rf_some, va_rf_none, ↓bi_ite_t, ↓bi_ite_f, ↓jc_lt_t, ↓jc_lt_f, ↓jc_gt_t, ↓jc_gt_f, ↓jc_le_t, ↓jc_le_f, ↓jc_ge_t, ↓jc_ge_f, ↓jc_eq_t, ↓jc_eq_f, ↓if_pos, ↓if_neg, s1]
        simp (disch := first | assumption | omega | exact bi_lo | exact bi_hi | exact bi_01 | exact jcmp_lo | exact jcmp_hi | exact (jor_r _ _).1 | exact (jor_r _ _).2 | exact (jand_r _ _).1 | exact (jand_r _ _).2) only [x121_47, x121_47n, x121_48, x121_49, x121_52, x121_55, x121_55n, x121_56, x121_57, x121_59, x121_60, x121_63, x121_66, x121_69, x121_71, x121_72, kb_some, kb_none, clr_vi, clr_ref, clr_null, clr_none, va_rf_some, va_rf_none, ↓bi_ite_t, ↓bi_ite_f, ↓jc_lt_t, ↓jc_lt_f, ↓jc_gt_t, ↓jc_gt_f, ↓jc_le_t, ↓jc_le_f, ↓jc_ge_t, ↓jc_ge_f, ↓jc_eq_t, ↓jc_eq_f, ↓if_pos, ↓if_neg, hh, hh2]
      · simp only [bi_f c3] at hh
        simp (disch := first | assumption | omega | exact bi_lo | exact bi_hi | exact bi_01 | exact jcmp_lo | exact jcmp_hi | exact (jor_r _ _).1 | exact (jor_r _ _).2 | exact (jand_r _ _).1 | exact (jand_r _ _).2) only [x121_32, x121_34, x121_35, x121_38, x121_41, x121_44, kb_some, kb_none, clr_vi, clr_ref, clr_null, clr_none, va_rf_some, va_rf_none, ↓bi_ite_t, ↓bi_ite_f, ↓jc_lt_t, ↓jc_lt_f, ↓jc_gt_t, ↓jc_gt_f, ↓jc_le_t, ↓jc_le_f, ↓jc_ge_t, ↓jc_ge_f, ↓jc_eq_t, ↓jc_eq_f, ↓if_pos, ↓if_neg, s1]
        simp (disch := first | assumption | omega | exact bi_lo | exact bi_hi | exact bi_01 | exact jcmp_lo | exact jcmp_hi | exact (jor_r _ _).1 | exact (jor_r _ _).2 | exact (jand_r _ _).1 | exact (jand_r _ _).2) only [x121_47, x121_47n, x121_48, x121_49, x121_52, x121_55, x121_55n, x121_56, x121_57, x121_59, x121_60, x121_63, x121_66, x121_69, x121_71, x121_72, kb_some, kb_none, clr_vi, clr_ref, clr_null, clr_none, va_rf_some, va_rf_none, ↓bi_ite_t, ↓bi_ite_f, ↓jc_lt_t, ↓jc_lt_f, ↓jc_gt_t, ↓jc_gt_f, ↓jc_le_t, ↓jc_le_f, ↓jc_ge_t, ↓jc_ge_f, ↓jc_eq_t, ↓jc_eq_f, ↓if_pos, ↓if_neg, hh]
theorem l_judgeM (hR : wfR R) (hx : 0 ≤ x ∧ x < 6) (hy : -2147483648 ≤ y ∧ y ≤ 2147483647) (h1 : 0 ≤ J 76 1 ∧ J 76 1 ≤ 120) (hs : J 109 x.toNat = 0 ∧ J 106 x.toNat = 0 ∨ J 109 x.toNat = 1 ∧ 0 ≤ J 106 x.toNat ∧ J 106 x.toNat ≤ 60) (hK : ∀ j : Nat, (j : Int) < J 106 x.toNat → -9223372036854775808 ≤ K 107 (60 * x.toNat + j) ∧ K 107 (60 * x.toNat + j) ≤ 9223372036854775807) : ∀ (i k : Nat), (J 76 1).toNat - k = i → k ≤ 120 →
    EE d 236 38 [some (.ref 76), some (vi x), some (vi y), some (vi k)] [] (SH L) J K R = ok (some (vi (jd (fun j => K 107 (60 * x.toNat + j)) (J 77) (J 106 x.toNat) y i k))) (SH L) J K R := by
  have s76 : (SH L)[76]? = some (11, 58) := rfl; have r76_0 : R 76 0 = some 77 := rr_lk hR rfl; have r76_3 : R 76 3 = some 78 := rr_lk hR rfl; have r76_4 : R 76 4 = some 79 := rr_lk hR rfl; have r76_6 : R 76 6 = some 80 := rr_lk hR rfl; have r76_7 : R 76 7 = some 81 := rr_lk hR rfl; have r76_9 : R 76 9 = some 82 := rr_lk hR rfl; have r76_10 : R 76 10 = some 83 := rr_lk hR rfl; have r76_12 : R 76 12 = some 84 := rr_lk hR rfl; have r76_13 : R 76 13 = some 85 := rr_lk hR rfl; have r76_19 : R 76 19 = some 86 := rr_lk hR rfl; have r76_20 : R 76 20 = some 87 := rr_lk hR rfl; have r76_21 : R 76 21 = some 88 := rr_lk hR rfl; have r76_22 : R 76 22 = some 89 := rr_lk hR rfl; have r76_24 : R 76 24 = some 90 := rr_lk hR rfl; have r76_25 : R 76 25 = some 91 := rr_lk hR rfl; have r76_26 : R 76 26 = some 92 := rr_lk hR rfl; have r76_28 : R 76 28 = some 93 := rr_lk hR rfl; have r76_29 : R 76 29 = some 94 := rr_lk hR rfl; have r76_30 : R 76 30 = some 95 := rr_lk hR rfl; have r76_31 : R 76 31 = some 96 := rr_lk hR rfl; have r76_32 : R 76 32 = some 97 := rr_lk hR rfl; have r76_36 : R 76 36 = some 98 := rr_lk hR rfl; have r76_38 : R 76 38 = some 99 := rr_lk hR rfl; have r76_39 : R 76 39 = some 100 := rr_lk hR rfl; have r76_40 : R 76 40 = some 101 := rr_lk hR rfl; have r76_41 : R 76 41 = some 102 := rr_lk hR rfl; have r76_42 : R 76 42 = some 103 := rr_lk hR rfl; have r76_47 : R 76 47 = some 104 := rr_lk hR rfl; have r76_53 : R 76 53 = some 105 := rr_lk hR rfl; have r76_54 : R 76 54 = some 106 := rr_lk hR rfl; have r76_55 : R 76 55 = some 107 := rr_lk hR rfl; have r76_56 : R 76 56 = some 108 := rr_lk hR rfl; have r76_57 : R 76 57 = some 109 := rr_lk hR rfl; have s77 : (SH L)[77]? = some (20, 120) := rfl; have s106 : (SH L)[106]? = some (20, 6) := rfl; have s107 : (SH L)[107]? = some (21, 360) := rfl; have s109 : (SH L)[109]? = some (22, 6) := rfl
  intro i
  induction i with
  | zero =>
    intro k hi hk
    rw [show jd (fun j => K 107 (60 * x.toNat + j)) (J 77) (J 106 x.toNat) y 0 k = -5 from rfl]
    simp (disch := first | assumption | omega | exact bi_lo | exact bi_hi | exact bi_01 | exact jcmp_lo | exact jcmp_hi | exact (jor_r _ _).1 | exact (jor_r _ _).2 | exact (jand_r _ _).1 | exact (jand_r _ _).2) only [x236_38, x236_39, x236_40, x236_43, x236_114, x236_116, kb_some, kb_none, clr_vi, clr_ref, clr_null, clr_none, va_rf_some, va_rf_none, ↓bi_ite_t, ↓bi_ite_f, ↓jc_lt_t, ↓jc_lt_f, ↓jc_gt_t, ↓jc_gt_f, ↓jc_le_t, ↓jc_le_f, ↓jc_ge_t, ↓jc_ge_f, ↓jc_eq_t, ↓jc_eq_f, ↓if_pos, ↓if_neg]
  | succ i ih =>
    intro k hi hk
    have e : jd (fun j => K 107 (60 * x.toNat + j)) (J 77) (J 106 x.toNat) y (i + 1) k = if 0 ≤ y ∧ y + k < J 106 x.toNat then (if K 107 (60 * x.toNat + (y.toNat + k)) = ji2b (J 77 k) then jd (fun j => K 107 (60 * x.toNat + j)) (J 77) (J 106 x.toNat) y i (k + 1) else k) else 1000 + k := rfl
    rw [e]
    by_cases c : 0 ≤ y ∧ y + k < J 106 x.toNat
    · rw [if_pos c]
      obtain ⟨q1, q2, q3⟩ : J 109 x.toNat = 1 ∧ 0 ≤ J 106 x.toNat ∧ J 106 x.toNat ≤ 60 := by omega
      have e61 : (60 * x + y + (k : Int)).toNat = 60 * x.toNat + (y.toNat + k) := by omega
      have hj := ji2b_r (J 77 k)
      have hk2 := hK (y.toNat + k) (by omega)
      by_cases c2 : K 107 (60 * x.toNat + (y.toNat + k)) = ji2b (J 77 k)
      · rw [if_pos c2]
        have ih' := ih (k + 1) (by omega) (by omega)
        rw [Int.natCast_succ] at ih'
        have go : ∀ X, EE d 236 38 [some (.ref 76), some (vi x), some (vi y), some (vi ((k : Int) + 1))] [] (SH L) J K R = X → EE d 236 38 [some (.ref 76), some (vi x), some (vi y), some (vi k)] [] (SH L) J K R = X := by
          intro X hX
          simp (disch := first | assumption | omega | exact bi_lo | exact bi_hi | exact bi_01 | exact jcmp_lo | exact jcmp_hi | exact (jor_r _ _).1 | exact (jor_r _ _).2 | exact (jand_r _ _).1 | exact (jand_r _ _).2) only [x236_38, x236_39, x236_40, x236_43, kb_some, kb_none, clr_vi, clr_ref, clr_null, clr_none, va_rf_some, va_rf_none, ↓bi_ite_t, ↓bi_ite_f, ↓jc_lt_t, ↓jc_lt_f, ↓jc_gt_t, ↓jc_gt_f, ↓jc_le_t, ↓jc_le_f, ↓jc_ge_t, ↓jc_ge_f, ↓jc_eq_t, ↓jc_eq_f, ↓if_pos, ↓if_neg]
          simp (disch := first | assumption | omega | exact bi_lo | exact bi_hi | exact bi_01 | exact jcmp_lo | exact jcmp_hi | exact (jor_r _ _).1 | exact (jor_r _ _).2 | exact (jand_r _ _).1 | exact (jand_r _ _).2) only [x236_46, x236_47, x236_50, x236_51, x236_52, x236_55, x236_56, x236_59, x236_60, x236_61, x236_62, x236_63, x236_64, x236_65, x236_68, x236_69, x236_70, x236_71, x236_72, x236_75, x236_78, x236_79, x236_80, x236_81, x236_82, x236_85, x236_87, x236_88, x236_89, x236_90, x236_91, x236_92, x236_93, x236_94, x236_95, x236_98, x236_99, x236_100, x236_101, x236_102, x236_103, x236_106, x236_107, x236_108, x236_111, kb_some, kb_none, clr_vi, clr_ref, clr_null, clr_none, va_rf_some, va_rf_none, ↓bi_ite_t, ↓bi_ite_f, ↓jc_lt_t, ↓jc_lt_f, ↓jc_gt_t, ↓jc_gt_f, ↓jc_le_t, ↓jc_le_f, ↓jc_ge_t, ↓jc_ge_f, ↓jc_eq_t, ↓jc_eq_f, ↓if_pos, ↓if_neg, q1, e61, Int.toNat_natCast, c2]
          exact hX
        exact go _ ih'
      · rw [if_neg c2]
        simp (disch := first | assumption | omega | exact bi_lo | exact bi_hi | exact bi_01 | exact jcmp_lo | exact jcmp_hi | exact (jor_r _ _).1 | exact (jor_r _ _).2 | exact (jand_r _ _).1 | exact (jand_r _ _).2) only [x236_38, x236_39, x236_40, x236_43, kb_some, kb_none, clr_vi, clr_ref, clr_null, clr_none, va_rf_some, va_rf_none, ↓bi_ite_t, ↓bi_ite_f, ↓jc_lt_t, ↓jc_lt_f, ↓jc_gt_t, ↓jc_gt_f, ↓jc_le_t, ↓jc_le_f, ↓jc_ge_t, ↓jc_ge_f, ↓jc_eq_t, ↓jc_eq_f, ↓if_pos, ↓if_neg]
        simp (disch := first | assumption | omega | exact bi_lo | exact bi_hi | exact bi_01 | exact jcmp_lo | exact jcmp_hi | exact (jor_r _ _).1 | exact (jor_r _ _).2 | exact (jand_r _ _).1 | exact (jand_r _ _).2) only [x236_46, x236_47, x236_50, x236_51, x236_52, x236_55, x236_56, x236_59, x236_60, x236_61, x236_62, x236_63, x236_64, x236_65, x236_68, x236_69, x236_70, x236_71, x236_72, x236_75, x236_78, x236_79, x236_80, x236_81, x236_82, x236_85, x236_87, x236_88, x236_89, x236_90, x236_91, x236_92, x236_93, x236_94, x236_95, x236_98, x236_99, x236_100, x236_101, x236_102, x236_103, x236_106, x236_107, kb_some, kb_none, clr_vi, clr_ref, clr_null, clr_none, va_rf_some, va_rf_none, ↓bi_ite_t, ↓bi_ite_f, ↓jc_lt_t, ↓jc_lt_f, ↓jc_gt_t, ↓jc_gt_f, ↓jc_le_t, ↓jc_le_f, ↓jc_ge_t, ↓jc_ge_f, ↓jc_eq_t, ↓jc_eq_f, ↓if_pos, ↓if_neg, q1, e61, Int.toNat_natCast]
    · rw [if_neg c]
      rcases hs with ⟨q1, q2⟩ | ⟨q1, q2, q3⟩
      · simp (disch := first | assumption | omega | exact bi_lo | exact bi_hi | exact bi_01 | exact jcmp_lo | exact jcmp_hi | exact (jor_r _ _).1 | exact (jor_r _ _).2 | exact (jand_r _ _).1 | exact (jand_r _ _).2) only [x236_38, x236_39, x236_40, x236_43, kb_some, kb_none, clr_vi, clr_ref, clr_null, clr_none, va_rf_some, va_rf_none, ↓bi_ite_t, ↓bi_ite_f, ↓jc_lt_t, ↓jc_lt_f, ↓jc_gt_t, ↓jc_gt_f, ↓jc_le_t, ↓jc_le_f, ↓jc_ge_t, ↓jc_ge_f, ↓jc_eq_t, ↓jc_eq_f, ↓if_pos, ↓if_neg]
        simp (disch := first | assumption | omega | exact bi_lo | exact bi_hi | exact bi_01 | exact jcmp_lo | exact jcmp_hi | exact (jor_r _ _).1 | exact (jor_r _ _).2 | exact (jand_r _ _).1 | exact (jand_r _ _).2) only [x236_46, x236_47, x236_50, x236_51, x236_52, x236_55, x236_56, x236_59, x236_60, x236_61, x236_62, x236_63, x236_64, x236_65, x236_68, x236_69, x236_70, x236_71, x236_72, x236_75, x236_78, x236_79, x236_80, kb_some, kb_none, clr_vi, clr_ref, clr_null, clr_none, va_rf_some, va_rf_none, ↓bi_ite_t, ↓bi_ite_f, ↓jc_lt_t, ↓jc_lt_f, ↓jc_gt_t, ↓jc_gt_f, ↓jc_le_t, ↓jc_le_f, ↓jc_ge_t, ↓jc_ge_f, ↓jc_eq_t, ↓jc_eq_f, ↓if_pos, ↓if_neg, q1]
      · by_cases c3 : y < 0
        · simp (disch := first | assumption | omega | exact bi_lo | exact bi_hi | exact bi_01 | exact jcmp_lo | exact jcmp_hi | exact (jor_r _ _).1 | exact (jor_r _ _).2 | exact (jand_r _ _).1 | exact (jand_r _ _).2) only [x236_38, x236_39, x236_40, x236_43, kb_some, kb_none, clr_vi, clr_ref, clr_null, clr_none, va_rf_some, va_rf_none, ↓bi_ite_t, ↓bi_ite_f, ↓jc_lt_t, ↓jc_lt_f, ↓jc_gt_t, ↓jc_gt_f, ↓jc_le_t, ↓jc_le_f, ↓jc_ge_t, ↓jc_ge_f, ↓jc_eq_t, ↓jc_eq_f, ↓if_pos, ↓if_neg]
          simp (disch := first | assumption | omega | exact bi_lo | exact bi_hi | exact bi_01 | exact jcmp_lo | exact jcmp_hi | exact (jor_r _ _).1 | exact (jor_r _ _).2 | exact (jand_r _ _).1 | exact (jand_r _ _).2) only [x236_46, x236_47, x236_50, x236_51, x236_52, x236_55, x236_56, x236_59, x236_60, x236_61, x236_62, x236_63, x236_64, x236_65, x236_68, x236_69, x236_70, x236_71, x236_72, x236_75, x236_78, x236_79, x236_80, kb_some, kb_none, clr_vi, clr_ref, clr_null, clr_none, va_rf_some, va_rf_none, ↓bi_ite_t, ↓bi_ite_f, ↓jc_lt_t, ↓jc_lt_f, ↓jc_gt_t, ↓jc_gt_f, ↓jc_le_t, ↓jc_le_f, ↓jc_ge_t, ↓jc_ge_f, ↓jc_eq_t, ↓jc_eq_f, ↓if_pos, ↓if_neg, q1]
        · simp (disch := first | assumption | omega | exact bi_lo | exact bi_hi | exact bi_01 | exact jcmp_lo | exact jcmp_hi | exact (jor_r _ _).1 | exact (jor_r _ _).2 | exact (jand_r _ _).1 | exact (jand_r _ _).2) only [x236_38, x236_39, x236_40, x236_43, kb_some, kb_none, clr_vi, clr_ref, clr_null, clr_none, va_rf_some, va_rf_none, ↓bi_ite_t, ↓bi_ite_f, ↓jc_lt_t, ↓jc_lt_f, ↓jc_gt_t, ↓jc_gt_f, ↓jc_le_t, ↓jc_le_f, ↓jc_ge_t, ↓jc_ge_f, ↓jc_eq_t, ↓jc_eq_f, ↓if_pos, ↓if_neg]
          simp (disch := first | assumption | omega | exact bi_lo | exact bi_hi | exact bi_01 | exact jcmp_lo | exact jcmp_hi | exact (jor_r _ _).1 | exact (jor_r _ _).2 | exact (jand_r _ _).1 | exact (jand_r _ _).2) only [x236_46, x236_47, x236_50, x236_51, x236_52, x236_55, x236_56, x236_59, x236_60, x236_61, x236_62, x236_63, x236_64, x236_65, x236_68, x236_69, x236_70, x236_71, x236_72, x236_75, x236_78, x236_79, x236_80, kb_some, kb_none, clr_vi, clr_ref, clr_null, clr_none, va_rf_some, va_rf_none, ↓bi_ite_t, ↓bi_ite_f, ↓jc_lt_t, ↓jc_lt_f, ↓jc_gt_t, ↓jc_gt_f, ↓jc_le_t, ↓jc_le_f, ↓jc_ge_t, ↓jc_ge_f, ↓jc_eq_t, ↓jc_eq_f, ↓if_pos, ↓if_neg, q1]
theorem op_judge (h : INV J K R) (hx : -2147483648 ≤ x ∧ x ≤ 2147483647) (hy : -2147483648 ≤ y ∧ y ≤ 2147483647) : OP L d 121 236 [some (vi x), some (vi y), none, none] [some (vi x), some (vi y), none] J K R := by
  have hR := h.1
  have s2 : (SH L)[2]? = some (10, 10) := rfl; have r2_0 : R 2 0 = some 3 := rr_lk hR rfl; have r2_1 : R 2 1 = some 15 := rr_lk hR rfl; have r2_3 : R 2 3 = some 27 := rr_lk hR rfl; have r2_4 : R 2 4 = some 29 := rr_lk hR rfl; have r2_5 : R 2 5 = some 31 := rr_lk hR rfl; have r2_6 : R 2 6 = some 46 := rr_lk hR rfl; have r2_7 : R 2 7 = some 57 := rr_lk hR rfl; have r2_8 : R 2 8 = some 60 := rr_lk hR rfl; have r2_9 : R 2 9 = some 63 := rr_lk hR rfl; have s76 : (SH L)[76]? = some (11, 58) := rfl; have r76_0 : R 76 0 = some 77 := rr_lk hR rfl; have r76_3 : R 76 3 = some 78 := rr_lk hR rfl; have r76_4 : R 76 4 = some 79 := rr_lk hR rfl; have r76_6 : R 76 6 = some 80 := rr_lk hR rfl; have r76_7 : R 76 7 = some 81 := rr_lk hR rfl; have r76_9 : R 76 9 = some 82 := rr_lk hR rfl; have r76_10 : R 76 10 = some 83 := rr_lk hR rfl; have r76_12 : R 76 12 = some 84 := rr_lk hR rfl; have r76_13 : R 76 13 = some 85 := rr_lk hR rfl; have r76_19 : R 76 19 = some 86 := rr_lk hR rfl; have r76_20 : R 76 20 = some 87 := rr_lk hR rfl; have r76_21 : R 76 21 = some 88 := rr_lk hR rfl; have r76_22 : R 76 22 = some 89 := rr_lk hR rfl; have r76_24 : R 76 24 = some 90 := rr_lk hR rfl; have r76_25 : R 76 25 = some 91 := rr_lk hR rfl; have r76_26 : R 76 26 = some 92 := rr_lk hR rfl; have r76_28 : R 76 28 = some 93 := rr_lk hR rfl; have r76_29 : R 76 29 = some 94 := rr_lk hR rfl; have r76_30 : R 76 30 = some 95 := rr_lk hR rfl; have r76_31 : R 76 31 = some 96 := rr_lk hR rfl; have r76_32 : R 76 32 = some 97 := rr_lk hR rfl; have r76_36 : R 76 36 = some 98 := rr_lk hR rfl; have r76_38 : R 76 38 = some 99 := rr_lk hR rfl; have r76_39 : R 76 39 = some 100 := rr_lk hR rfl; have r76_40 : R 76 40 = some 101 := rr_lk hR rfl; have r76_41 : R 76 41 = some 102 := rr_lk hR rfl; have r76_42 : R 76 42 = some 103 := rr_lk hR rfl; have r76_47 : R 76 47 = some 104 := rr_lk hR rfl; have r76_53 : R 76 53 = some 105 := rr_lk hR rfl; have r76_54 : R 76 54 = some 106 := rr_lk hR rfl; have r76_55 : R 76 55 = some 107 := rr_lk hR rfl; have r76_56 : R 76 56 = some 108 := rr_lk hR rfl; have r76_57 : R 76 57 = some 109 := rr_lk hR rfl; have s105 : (SH L)[105]? = some (20, 6) := rfl; have s109 : (SH L)[109]? = some (22, 6) := rfl
  have hT := fun d => m_isTape (L := L) (d := d) (J := mm_up J 76 11 0) (K := K) (R := R) hx
  by_cases c : 0 ≤ x ∧ x < 6
  · have ho := fun d => c_tapeOf (L := L) (d := d) (J := J) (K := K) hR c
    simp only [bi_t (show 0 ≤ x ∧ x ≤ 5 by omega)] at hT
    obtain ⟨k1, k2⟩ := h.2.2.2.2.2.2 x.toNat (by omega)
    have hP := (rTp (L := L) hR x.toNat (by omega)).2
    have hsP := hP.1
    have h01 : -1 ≤ J (64 + 2 * x.toNat) 1 ∧ J (64 + 2 * x.toNat) 1 ≤ 4 := by omega
    have hn := fun d => p_holdsNothing (d := d) (J := J) (K := K) hP h01
    have hso := fun d => p_sort (d := d) (J := J) (K := K) hP
    have e1 : mm_up J 76 11 0 76 1 = J 76 1 := up_j (by decide)
    have e77 : mm_up J 76 11 0 77 = J 77 := up_ne (by decide)
    have e105 : mm_up J 76 11 0 105 = J 105 := up_ne (by decide)
    have e106 : mm_up J 76 11 0 106 = J 106 := up_ne (by decide)
    have e109 : mm_up J 76 11 0 109 = J 109 := up_ne (by decide)
    obtain ⟨a1, a2, a3⟩ := h.2.1
    have hl := l_judge (L := L) (d := d + 18) (J := J) (K := K) hR c hy (by omega) (by omega) (fun j hj => by have := k2 j (by omega); omega) (J 4 1).toNat 0 rfl (by omega)
    have hm := l_judgeM (L := L) (d := d + 20) (J := mm_up J 76 11 0) (K := K) hR c hy (by rw [e1]; exact a2) (by rw [e109, e106]; omega) (fun j hj => by rw [e106] at hj; have := k2 j hj; omega) (J 76 1).toNat 0 (by rw [e1]; omega) (by omega)
    rw [e77, e106] at hm
    rw [show J (64 + 2 * x.toNat) 2 = J 106 x.toNat by omega, a1] at hl
    rw [jd_c (b' := J 77) (fun j hj => (k2 j hj).1) (J 76 1).toNat 0 _ rfl (fun j hj => (a3 j (by omega)).2.2 (by omega))] at hl
    rw [show ((0 : Nat) : Int) = 0 from rfl] at hl hm
    rcases k1 with ⟨q1, q2, q3, q4⟩ | ⟨q1, q2, q3, q4, q5⟩
    · simp only [bi_t q1] at hn
      refine ⟨vi (jd (fun j => K 107 (60 * x.toNat + j)) (J 77) (J 106 x.toNat) y (J 76 1).toNat 0), J, K, R, mm_up J 76 11 0, K, R, ?_, ?_, INV_11 h⟩
      · simp (disch := first | assumption | omega | exact bi_lo | exact bi_hi | exact bi_01 | exact jcmp_lo | exact jcmp_hi | exact (jor_r _ _).1 | exact (jor_r _ _).2 | exact (jand_r _ _).1 | exact (jand_r _ _).2) only [x121_0, x121_1, x121_2, x121_5, x121_5n, x121_6, x121_6n, x121_7n, x121_7, x121_10, x121_11, x121_12, x121_12n, x121_13, x121_16, x121_19, x121_19n, x121_20, x121_23, x121_26, x121_28, x121_29, x121_30, kb_some, kb_none, clr_vi, clr_ref, clr_null, clr_none, va_rf_some, va_rf_none, ↓bi_ite_t, ↓bi_ite_f, ↓jc_lt_t, ↓jc_lt_f, ↓jc_gt_t, ↓jc_gt_f, ↓jc_le_t, ↓jc_le_f, ↓jc_ge_t, ↓jc_ge_f, ↓jc_eq_t, ↓jc_eq_f, ↓if_pos, ↓if_neg, ho, hn]
        exact hl
      · simp (disch := first | assumption | omega | exact bi_lo | exact bi_hi | exact bi_01 | exact jcmp_lo | exact jcmp_hi | exact (jor_r _ _).1 | exact (jor_r _ _).2 | exact (jand_r _ _).1 | exact (jand_r _ _).2) only [x236_0, x236_1, x236_2, x236_5, x236_6, x236_7, x236_10, x236_13, x236_14, x236_15, x236_16, x236_19, x236_20, x236_21, x236_24, x236_25, x236_28, x236_29, x236_30, x236_33, x236_35, x236_36, x236_37, kb_some, kb_none, clr_vi, clr_ref, clr_null, clr_none, va_rf_some, va_rf_none, ↓bi_ite_t, ↓bi_ite_f, ↓jc_lt_t, ↓jc_lt_f, ↓jc_gt_t, ↓jc_gt_f, ↓jc_le_t, ↓jc_le_f, ↓jc_ge_t, ↓jc_ge_f, ↓jc_eq_t, ↓jc_eq_f, ↓if_pos, ↓if_neg, hT, e109, q2]
        exact hm
    simp only [bi_f (show ¬ J (64 + 2 * x.toNat) 1 = -1 by omega)] at hn
    by_cases c2 : J (64 + 2 * x.toNat) 1 = 0
    · refine ⟨vi (jd (fun j => K 107 (60 * x.toNat + j)) (J 77) (J 106 x.toNat) y (J 76 1).toNat 0), J, K, R, mm_up J 76 11 0, K, R, ?_, ?_, INV_11 h⟩
      · simp (disch := first | assumption | omega | exact bi_lo | exact bi_hi | exact bi_01 | exact jcmp_lo | exact jcmp_hi | exact (jor_r _ _).1 | exact (jor_r _ _).2 | exact (jand_r _ _).1 | exact (jand_r _ _).2) only [x121_0, x121_1, x121_2, x121_5, x121_5n, x121_6, x121_6n, x121_7n, x121_7, x121_10, x121_11, x121_12, x121_12n, x121_13, x121_16, x121_19, x121_19n, x121_20, x121_23, x121_26, x121_28, x121_29, x121_30, kb_some, kb_none, clr_vi, clr_ref, clr_null, clr_none, va_rf_some, va_rf_none, ↓bi_ite_t, ↓bi_ite_f, ↓jc_lt_t, ↓jc_lt_f, ↓jc_gt_t, ↓jc_gt_f, ↓jc_le_t, ↓jc_le_f, ↓jc_ge_t, ↓jc_ge_f, ↓jc_eq_t, ↓jc_eq_f, ↓if_pos, ↓if_neg, ho, hn, hso, c2]
        exact hl
      · rw [c2] at q3
        simp (disch := first | assumption | omega | exact bi_lo | exact bi_hi | exact bi_01 | exact jcmp_lo | exact jcmp_hi | exact (jor_r _ _).1 | exact (jor_r _ _).2 | exact (jand_r _ _).1 | exact (jand_r _ _).2) only [x236_0, x236_1, x236_2, x236_5, x236_6, x236_7, x236_10, x236_13, x236_14, x236_15, x236_16, x236_19, x236_20, x236_21, x236_24, x236_25, x236_28, x236_29, x236_30, x236_33, x236_35, x236_36, x236_37, kb_some, kb_none, clr_vi, clr_ref, clr_null, clr_none, va_rf_some, va_rf_none, ↓bi_ite_t, ↓bi_ite_f, ↓jc_lt_t, ↓jc_lt_f, ↓jc_gt_t, ↓jc_gt_f, ↓jc_le_t, ↓jc_le_f, ↓jc_ge_t, ↓jc_ge_f, ↓jc_eq_t, ↓jc_eq_f, ↓if_pos, ↓if_neg, hT, e109, e105, q2, q3]
        exact hm
    · refine ⟨vi (-12), J, K, R, mm_up J 76 11 0, K, R, ?_, ?_, INV_11 h⟩
      · simp (disch := first | assumption | omega | exact bi_lo | exact bi_hi | exact bi_01 | exact jcmp_lo | exact jcmp_hi | exact (jor_r _ _).1 | exact (jor_r _ _).2 | exact (jand_r _ _).1 | exact (jand_r _ _).2) only [x121_0, x121_1, x121_2, x121_5, x121_5n, x121_6, x121_6n, x121_7n, x121_7, x121_10, x121_11, x121_12, x121_12n, x121_13, x121_16, x121_19, x121_19n, x121_20, x121_23, x121_26, x121_28, x121_29, x121_30, kb_some, kb_none, clr_vi, clr_ref, clr_null, clr_none, va_rf_some, va_rf_none, ↓bi_ite_t, ↓bi_ite_f, ↓jc_lt_t, ↓jc_lt_f, ↓jc_gt_t, ↓jc_gt_f, ↓jc_le_t, ↓jc_le_f, ↓jc_ge_t, ↓jc_ge_f, ↓jc_eq_t, ↓jc_eq_f, ↓if_pos, ↓if_neg, ho, hn, hso]
      · simp (disch := first | assumption | omega | exact bi_lo | exact bi_hi | exact bi_01 | exact jcmp_lo | exact jcmp_hi | exact (jor_r _ _).1 | exact (jor_r _ _).2 | exact (jand_r _ _).1 | exact (jand_r _ _).2) only [x236_0, x236_1, x236_2, x236_5, x236_6, x236_7, x236_10, x236_13, x236_14, x236_15, x236_16, x236_19, x236_20, x236_21, x236_24, x236_25, x236_28, x236_29, x236_30, x236_33, x236_35, x236_36, x236_37, kb_some, kb_none, clr_vi, clr_ref, clr_null, clr_none, va_rf_some, va_rf_none, ↓bi_ite_t, ↓bi_ite_f, ↓jc_lt_t, ↓jc_lt_f, ↓jc_gt_t, ↓jc_gt_f, ↓jc_le_t, ↓jc_le_f, ↓jc_ge_t, ↓jc_ge_f, ↓jc_eq_t, ↓jc_eq_f, ↓if_pos, ↓if_neg, hT, e109, e105, q2]
  · have ho := fun d => c_tapeOfN (L := L) (d := d) (J := J) (K := K) hR hx c
    simp only [bi_f (show ¬ (0 ≤ x ∧ x ≤ 5) by omega)] at hT
    refine ⟨vi (-1), J, K, R, mm_up J 76 11 0, K, R, ?_, ?_, INV_11 h⟩
    · simp (disch := first | assumption | omega | exact bi_lo | exact bi_hi | exact bi_01 | exact jcmp_lo | exact jcmp_hi | exact (jor_r _ _).1 | exact (jor_r _ _).2 | exact (jand_r _ _).1 | exact (jand_r _ _).2) only [x121_0, x121_1, x121_2, x121_5, x121_5n, x121_6, x121_6n, x121_7n, x121_7, x121_10, x121_11, x121_12, x121_12n, x121_13, x121_16, x121_19, x121_19n, x121_20, x121_23, x121_26, x121_28, x121_29, x121_30, x121_32, x121_34, x121_35, x121_38, x121_41, x121_44, x121_47, x121_47n, x121_48, x121_49, x121_52, x121_55, x121_55n, x121_56, x121_57, x121_59, x121_60, x121_63, x121_66, x121_69, x121_71, x121_72, x121_73, x121_73n, x121_74, x121_75, x121_77, x121_78, x121_81, x121_82, x121_85, x121_88, x121_90, x121_93, x121_94, x121_95, x121_96, x121_99, x121_101, x121_102, x121_105, x121_108, x121_110, kb_some, kb_none, clr_vi, clr_ref, clr_null, clr_none, va_rf_some, va_rf_none, ↓bi_ite_t, ↓bi_ite_f, ↓jc_lt_t, ↓jc_lt_f, ↓jc_gt_t, ↓jc_gt_f, ↓jc_le_t, ↓jc_le_f, ↓jc_ge_t, ↓jc_ge_f, ↓jc_eq_t, ↓jc_eq_f, ↓if_pos, ↓if_neg, ho]
    · simp (disch := first | assumption | omega | exact bi_lo | exact bi_hi | exact bi_01 | exact jcmp_lo | exact jcmp_hi | exact (jor_r _ _).1 | exact (jor_r _ _).2 | exact (jand_r _ _).1 | exact (jand_r _ _).2) only [x236_0, x236_1, x236_2, x236_5, x236_6, x236_7, x236_10, x236_13, x236_14, x236_15, x236_16, x236_19, x236_20, x236_21, x236_24, x236_25, x236_28, x236_29, x236_30, x236_33, x236_35, x236_36, x236_37, x236_38, x236_39, x236_40, x236_43, x236_46, x236_47, x236_50, x236_51, x236_52, x236_55, x236_56, x236_59, x236_60, x236_61, x236_62, x236_63, x236_64, x236_65, x236_68, x236_69, x236_70, x236_71, x236_72, x236_75, x236_78, x236_79, x236_80, x236_81, x236_82, x236_85, x236_87, x236_88, x236_89, x236_90, x236_91, x236_92, x236_93, x236_94, x236_95, x236_98, x236_99, x236_100, x236_101, x236_102, x236_103, x236_106, x236_107, x236_108, x236_111, x236_114, x236_116, kb_some, kb_none, clr_vi, clr_ref, clr_null, clr_none, va_rf_some, va_rf_none, ↓bi_ite_t, ↓bi_ite_f, ↓jc_lt_t, ↓jc_lt_f, ↓jc_gt_t, ↓jc_gt_f, ↓jc_le_t, ↓jc_le_f, ↓jc_ge_t, ↓jc_ge_f, ↓jc_eq_t, ↓jc_eq_f, ↓if_pos, ↓if_neg, hT]
end
