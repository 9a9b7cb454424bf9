/-! the calls, one by one: tape -/
def zK (K : mJ) (t k : Nat) : mJ := fun a j => if a = 107 ∧ 60 * t + k ≤ j ∧ j < 60 * t + 60 then 0 else K a j
section
variable {L d : Nat} {J J' J1 J2 K K' : mJ} {R R1 R' : mm_R} {x y z v : Int} {f : Int → Int}
theorem l_zero (hR : wfR R) (hx : 0 ≤ x ∧ x < 6) : ∀ (i k : Nat) (K : mJ), 60 - k = i → k ≤ 60 → EE d 231 93 [some (.ref 76), some (vi x), some (vi y), some (vi z), some (vi k)] [] (SH L) J K R = ok (some (vi 1)) (SH L) J (zK K x.toNat k) R := by
  have s76 : (SH L)[76]? = some (11, 58) := rfl; have r76_0 : R 76 0 = some 77 := rr_lk hR rfl; have r76_3 : R 76 3 = some 78 := rr_lk hR rfl; have r76_4 : R 76 4 = some 79 := rr_lk hR rfl; have r76_6 : R 76 6 = some 80 := rr_lk hR rfl; have r76_7 : R 76 7 = some 81 := rr_lk hR rfl; have r76_9 : R 76 9 = some 82 := rr_lk hR rfl; have r76_10 : R 76 10 = some 83 := rr_lk hR rfl; have r76_12 : R 76 12 = some 84 := rr_lk hR rfl; have r76_13 : R 76 13 = some 85 := rr_lk hR rfl; have r76_19 : R 76 19 = some 86 := rr_lk hR rfl; have r76_20 : R 76 20 = some 87 := rr_lk hR rfl; have r76_21 : R 76 21 = some 88 := rr_lk hR rfl; have r76_22 : R 76 22 = some 89 := rr_lk hR rfl; have r76_24 : R 76 24 = some 90 := rr_lk hR rfl; have r76_25 : R 76 25 = some 91 := rr_lk hR rfl; have r76_26 : R 76 26 = some 92 := rr_lk hR rfl; have r76_28 : R 76 28 = some 93 := rr_lk hR rfl; have r76_29 : R 76 29 = some 94 := rr_lk hR rfl; have r76_30 : R 76 30 = some 95 := rr_lk hR rfl; have r76_31 : R 76 31 = some 96 := rr_lk hR rfl; have r76_32 : R 76 32 = some 97 := rr_lk hR rfl; have r76_36 : R 76 36 = some 98 := rr_lk hR rfl; have r76_38 : R 76 38 = some 99 := rr_lk hR rfl; have r76_39 : R 76 39 = some 100 := rr_lk hR rfl; have r76_40 : R 76 40 = some 101 := rr_lk hR rfl; have r76_41 : R 76 41 = some 102 := rr_lk hR rfl; have r76_42 : R 76 42 = some 103 := rr_lk hR rfl; have r76_47 : R 76 47 = some 104 := rr_lk hR rfl; have r76_53 : R 76 53 = some 105 := rr_lk hR rfl; have r76_54 : R 76 54 = some 106 := rr_lk hR rfl; have r76_55 : R 76 55 = some 107 := rr_lk hR rfl; have r76_56 : R 76 56 = some 108 := rr_lk hR rfl; have r76_57 : R 76 57 = some 109 := rr_lk hR rfl; have s107 : (SH L)[107]? = some (21, 360) := rfl
  intro i
  induction i with
  | zero =>
    intro k K hi hk
    have e : zK K x.toNat k = K := by
      funext a j; unfold zK; rw [if_neg (by omega)]
    rw [e]
    simp (disch := first | assumption | omega | exact bi_lo | exact bi_hi | exact bi_01 | exact jcmp_lo | exact jcmp_hi | exact (jor_r _ _).1 | exact (jor_r _ _).2 | exact (jand_r _ _).1 | exact (jand_r _ _).2) only [x231_93, x231_95, x231_97, x231_119, x231_120, kb_some, kb_none, clr_vi, clr_ref, clr_null, clr_none, va_rf_some, va_rf_none, ↓bi_ite_t, ↓bi_ite_f, ↓jc_lt_t, ↓jc_lt_f, ↓jc_gt_t, ↓jc_gt_f, ↓jc_le_t, ↓jc_le_f, ↓jc_ge_t, ↓jc_ge_f, ↓jc_eq_t, ↓jc_eq_f, ↓if_pos, ↓if_neg]
  | succ i ih =>
    intro k K hi hk
    have ih' := ih (k + 1) (mm_up K 107 (60 * x.toNat + k) 0) (by omega) (by omega)
    have e : zK (mm_up K 107 (60 * x.toNat + k) 0) x.toNat (k + 1) = zK K x.toNat k := by
      funext a j; unfold zK mm_up
      repeat' split
      all_goals first | rfl | omega
    rw [e, Int.natCast_succ] at ih'
    have e61 : (60 * x + (k : Int)).toNat = 60 * x.toNat + k := by omega
    have go : ∀ X, EE d 231 93 [some (.ref 76), some (vi x), some (vi y), some (vi z), some (vi ((k : Int) + 1))] [] (SH L) J (mm_up K 107 (60 * x.toNat + k) 0) R = X → EE d 231 93 [some (.ref 76), some (vi x), some (vi y), some (vi z), some (vi k)] [] (SH L) J K R = X := by
      intro X hX
      simp (disch := first | assumption | omega | exact bi_lo | exact bi_hi | exact bi_01 | exact jcmp_lo | exact jcmp_hi | exact (jor_r _ _).1 | exact (jor_r _ _).2 | exact (jand_r _ _).1 | exact (jand_r _ _).2) only [x231_93, x231_95, x231_97, kb_some, kb_none, clr_vi, clr_ref, clr_null, clr_none, va_rf_some, va_rf_none, ↓bi_ite_t, ↓bi_ite_f, ↓jc_lt_t, ↓jc_lt_f, ↓jc_gt_t, ↓jc_gt_f, ↓jc_le_t, ↓jc_le_f, ↓jc_ge_t, ↓jc_ge_f, ↓jc_eq_t, ↓jc_eq_f, ↓if_pos, ↓if_neg]
      simp (disch := first | assumption | omega | exact bi_lo | exact bi_hi | exact bi_01 | exact jcmp_lo | exact jcmp_hi | exact (jor_r _ _).1 | exact (jor_r _ _).2 | exact (jand_r _ _).1 | exact (jand_r _ _).2) only [x231_100, x231_101, x231_104, x231_106, x231_107, x231_108, x231_110, x231_111, x231_112, x231_113, x231_116, kb_some, kb_none, clr_vi, clr_ref, clr_null, clr_none, va_rf_some, va_rf_none, ↓bi_ite_t, ↓bi_ite_f, ↓jc_lt_t, ↓jc_lt_f, ↓jc_gt_t, ↓jc_gt_f, ↓jc_le_t, ↓jc_le_f, ↓jc_ge_t, ↓jc_ge_f, ↓jc_eq_t, ↓jc_eq_f, ↓if_pos, ↓if_neg, e61]
      exact hX
    exact go _ ih'
/-- a tape is made anew in both -/
theorem INV_P {t : Nat} {s n : Int} (h : INV J K R) (ht : t < 6) (hs : s = -1 ∧ n = 0 ∨ (0 ≤ s ∧ s ≤ 4) ∧ 0 ≤ n ∧ n ≤ 60) : INV (mm_up (mm_up (mm_up (mm_up (mm_up (mm_up J (64 + 2 * t) 1 s) (64 + 2 * t) 2 n) 76 11 0) 109 t (if s < 0 then 0 else 1)) 105 t s) 106 t n) (zK (mm_rw K (65 + 2 * t) (zf 0 (K (65 + 2 * t)))) t 0) R := by
  generalize hJ' : mm_up (mm_up (mm_up (mm_up (mm_up (mm_up J (64 + 2 * t) 1 s) (64 + 2 * t) 2 n) 76 11 0) 109 t (if s < 0 then 0 else 1)) 105 t s) 106 t n = J'
  obtain ⟨h1, h2, h3, ⟨h4, h5, h6⟩, h7, h8, h9⟩ := h
  have k : ∀ j, j ≠ 11 → J' 76 j = J 76 j := fun j hj => by
    rw [← hJ', up_ne (by decide), up_ne (by decide), up_ne (by decide), up_j hj, up_ne (by omega), up_ne (by omega)]
  have kk : ∀ a, ¬ (64 ≤ a ∧ a ≤ 76) ∧ a ≠ 109 ∧ a ≠ 105 ∧ a ≠ 106 → J' a = J a := fun a ha => by
    rw [← hJ', up_ne (by omega), up_ne (by omega), up_ne (by omega), up_ne (by omega), up_ne (by omega), up_ne (by omega)]
  refine ⟨h1, IF_o h2 (by rw [kk 4 (by decide)]) (kk _ (by decide)) (k _ (by decide)) (kk _ (by decide)), IT_o h3 (by rw [kk 27 (by decide)]) (kk _ (by decide)) (k _ (by decide)) (kk _ (by decide)), ⟨IW_o h4 (by rw [kk 6 (by decide)]) (kk _ (by decide)) (kk _ (by decide)) (k _ (by decide)) (kk _ (by decide)) (kk _ (by decide)), IW_o h5 (by rw [kk 9 (by decide)]) (kk _ (by decide)) (kk _ (by decide)) (k _ (by decide)) (kk _ (by decide)) (kk _ (by decide)), IW_o h6 (by rw [kk 12 (by decide)]) (kk _ (by decide)) (kk _ (by decide)) (k _ (by decide)) (kk _ (by decide)) (kk _ (by decide))⟩, IG_o h7 ⟨kk 1 (by decide), by rw [kk 2 (by decide)]⟩ (k _ (by decide)) (kk _ (by decide)) (fun a p q => kk _ (by omega)), IX_o h8 (fun a p q => kk _ (by omega)), fun u hu => ?_⟩
  have b := h9 u hu
  by_cases c : u = t
  · subst c
    have f1 : J' (64 + 2 * u) 1 = s := by
      rw [← hJ', up_ne (by omega), up_ne (by omega), up_ne (by omega), up_ne (by omega), up_j (by decide), up_s]
    have f2 : J' (64 + 2 * u) 2 = n := by
      rw [← hJ', up_ne (by omega), up_ne (by omega), up_ne (by omega), up_ne (by omega), up_s]
    have f3 : J' 109 u = if s < 0 then 0 else 1 := by
      rw [← hJ', up_ne (by decide), up_ne (by decide), up_s]
    have f4 : J' 105 u = s := by rw [← hJ', up_ne (by decide), up_s]
    have f5 : J' 106 u = n := by rw [← hJ', up_s]
    rw [f1, f2, f3, f4, f5]
    refine ⟨?_, fun q hq => ?_⟩
    · rcases hs with ⟨e1, e2⟩ | ⟨e1, e2⟩
      · left; rw [if_pos (by omega)]; exact ⟨e1, rfl, e2, e2⟩
      · right; rw [if_neg (by omega)]; exact ⟨e1, rfl, rfl, rfl, e2⟩
    · have g1 : zK (mm_rw K (65 + 2 * u) (zf 0 (K (65 + 2 * u)))) u 0 107 (60 * u + q) = 0 := by
        unfold zK; rw [if_pos (by omega)]
      have g2 : zK (mm_rw K (65 + 2 * u) (zf 0 (K (65 + 2 * u)))) u 0 (65 + 2 * u) q = 0 := by
        unfold zK
        rw [if_neg (by omega), rw_s]
        unfold zf; rw [if_pos (by omega)]
      rw [g1, g2]
      exact ⟨rfl, by omega, by omega⟩
  · have f1 : ∀ j, J' (64 + 2 * u) j = J (64 + 2 * u) j := fun j => by
      rw [← hJ', up_ne (by omega), up_ne (by omega), up_ne (by omega), up_ne (by omega), up_ne (by omega), up_ne (by omega)]
    have f3 : J' 109 u = J 109 u := by
      rw [← hJ', up_ne (by decide), up_ne (by decide), up_j c, up_ne (by decide), up_ne (by omega), up_ne (by omega)]
    have f4 : J' 105 u = J 105 u := by
      rw [← hJ', up_ne (by decide), up_j c, up_ne (by decide), up_ne (by decide), up_ne (by omega), up_ne (by omega)]
    have f5 : J' 106 u = J 106 u := by
      rw [← hJ', up_j c, up_ne (by decide), up_ne (by decide), up_ne (by decide), up_ne (by omega), up_ne (by omega)]
    rw [f1, f1, f3, f4, f5]
    refine ⟨b.1, fun q hq => ?_⟩
    have g1 : zK (mm_rw K (65 + 2 * t) (zf 0 (K (65 + 2 * t)))) t 0 107 (60 * u + q) = K 107 (60 * u + q) := by
      have : q < 60 := by omega
      unfold zK; rw [if_neg (by omega), rw_a (by omega)]
    have g2 : zK (mm_rw K (65 + 2 * t) (zf 0 (K (65 + 2 * t)))) t 0 (65 + 2 * u) q = K (65 + 2 * u) q := by
      unfold zK; rw [if_neg (by omega), rw_a (by omega)]
    rw [g1, g2]
    exact b.2 q hq
theorem op_tape (h : INV J K R) (hx : -2147483648 ≤ x ∧ x ≤ 2147483647) (hy : -2147483648 ≤ y ∧ y ≤ 2147483647) (hz : -2147483648 ≤ z ∧ z ≤ 2147483647) : OP L d 126 231 [some (vi x), some (vi y), some (vi z), none] [some (vi x), some (vi y), some (vi z), none] J K R := by
  have hR := h.1
  have s2 : (SH L)[2]? = some (10, 10) := rfl; have r2_0 : R 2 0 = some 3 := rr_lk hR rfl; have r2_1 : R 2 1 = some 15 := rr_lk hR rfl; have r2_3 : R 2 3 = some 27 := rr_lk hR rfl; have r2_4 : R 2 4 = some 29 := rr_lk hR rfl; have r2_5 : R 2 5 = some 31 := rr_lk hR rfl; have r2_6 : R 2 6 = some 46 := rr_lk hR rfl; have r2_7 : R 2 7 = some 57 := rr_lk hR rfl; have r2_8 : R 2 8 = some 60 := rr_lk hR rfl; have r2_9 : R 2 9 = some 63 := rr_lk hR rfl; have s76 : (SH L)[76]? = some (11, 58) := rfl; have r76_0 : R 76 0 = some 77 := rr_lk hR rfl; have r76_3 : R 76 3 = some 78 := rr_lk hR rfl; have r76_4 : R 76 4 = some 79 := rr_lk hR rfl; have r76_6 : R 76 6 = some 80 := rr_lk hR rfl; have r76_7 : R 76 7 = some 81 := rr_lk hR rfl; have r76_9 : R 76 9 = some 82 := rr_lk hR rfl; have r76_10 : R 76 10 = some 83 := rr_lk hR rfl; have r76_12 : R 76 12 = some 84 := rr_lk hR rfl; have r76_13 : R 76 13 = some 85 := rr_lk hR rfl; have r76_19 : R 76 19 = some 86 := rr_lk hR rfl; have r76_20 : R 76 20 = some 87 := rr_lk hR rfl; have r76_21 : R 76 21 = some 88 := rr_lk hR rfl; have r76_22 : R 76 22 = some 89 := rr_lk hR rfl; have r76_24 : R 76 24 = some 90 := rr_lk hR rfl; have r76_25 : R 76 25 = some 91 := rr_lk hR rfl; have r76_26 : R 76 26 = some 92 := rr_lk hR rfl; have r76_28 : R 76 28 = some 93 := rr_lk hR rfl; have r76_29 : R 76 29 = some 94 := rr_lk hR rfl; have r76_30 : R 76 30 = some 95 := rr_lk hR rfl; have r76_31 : R 76 31 = some 96 := rr_lk hR rfl; have r76_32 : R 76 32 = some 97 := rr_lk hR rfl; have r76_36 : R 76 36 = some 98 := rr_lk hR rfl; have r76_38 : R 76 38 = some 99 := rr_lk hR rfl; have r76_39 : R 76 39 = some 100 := rr_lk hR rfl; have r76_40 : R 76 40 = some 101 := rr_lk hR rfl; have r76_41 : R 76 41 = some 102 := rr_lk hR rfl; have r76_42 : R 76 42 = some 103 := rr_lk hR rfl; have r76_47 : R 76 47 = some 104 := rr_lk hR rfl; have r76_53 : R 76 53 = some 105 := rr_lk hR rfl; have r76_54 : R 76 54 = some 106 := rr_lk hR rfl; have r76_55 : R 76 55 = some 107 := rr_lk hR rfl; have r76_56 : R 76 56 = some 108 := rr_lk hR rfl; have r76_57 : R 76 57 = some 109 := rr_lk hR rfl; have s105 : (SH L)[105]? = some (20, 6) := rfl; have s106 : (SH L)[106]? = some (20, 6) := rfl; have s107 : (SH L)[107]? = some (21, 360) := rfl; have s109 : (SH L)[109]? = some (22, 6) := rfl
  have hT := fun d => m_isTape (L := L) (d := d) (J := mm_up J 76 11 0) (K := K) (R := R) hx
  have hin := fun d => m_in (d := d) (S := SH L) (J := mm_up J 76 11 0) (K := K) (R := R) (x := y) (y := -1) (z := 4) (by omega) (by omega) (by omega)
  by_cases c : 0 ≤ x ∧ x < 6
  rotate_left
  · have ho := fun d => c_tapeOfN (L := L) (d := d) (J := J) (K := K) hR hx c
    simp only [bi_f (show ¬ (0 ≤ x ∧ x ≤ 5) by omega)] at hT
    refine ⟨vi (-1), J, K, R, mm_up J 76 11 0, K, R, ?_, ?_, INV_11 h⟩
    · simp (disch := first | assumption | omega | exact bi_lo | exact bi_hi | exact bi_01 | exact jcmp_lo | exact jcmp_hi | exact (jor_r _ _).1 | exact (jor_r _ _).2 | exact (jand_r _ _).1 | exact (jand_r _ _).2) only [x126_0, x126_1, x126_2, x126_5, x126_5n, x126_7, x126_7n, x126_9n, x126_9, x126_12, x126_13, x126_14, x126_15, x126_16, x126_19, x126_19n, x126_21, x126_22, x126_23, x126_26, x126_27, x126_28, x126_29, x126_32, x126_33, x126_34, x126_37, x126_38, x126_40, x126_43, x126_45, x126_46, x126_47, x126_50, x126_52, x126_53, x126_53n, x126_55, x126_56, x126_57, x126_60, x126_61, kb_some, kb_none, clr_vi, clr_ref, clr_null, clr_none, va_rf_some, va_rf_none, ↓bi_ite_t, ↓bi_ite_f, ↓jc_lt_t, ↓jc_lt_f, ↓jc_gt_t, ↓jc_gt_f, ↓jc_le_t, ↓jc_le_f, ↓jc_ge_t, ↓jc_ge_f, ↓jc_eq_t, ↓jc_eq_f, ↓if_pos, ↓if_neg, ho]
    · simp (disch := first | assumption | omega | exact bi_lo | exact bi_hi | exact bi_01 | exact jcmp_lo | exact jcmp_hi | exact (jor_r _ _).1 | exact (jor_r _ _).2 | exact (jand_r _ _).1 | exact (jand_r _ _).2) only [x231_0, x231_1, x231_2, x231_5, x231_6, x231_7, x231_10, x231_13, x231_14, kb_some, kb_none, clr_vi, clr_ref, clr_null, clr_none, va_rf_some, va_rf_none, ↓bi_ite_t, ↓bi_ite_f, ↓jc_lt_t, ↓jc_lt_f, ↓jc_gt_t, ↓jc_gt_f, ↓jc_le_t, ↓jc_le_f, ↓jc_ge_t, ↓jc_ge_f, ↓jc_eq_t, ↓jc_eq_f, ↓if_pos, ↓if_neg, hT]
  have ho := fun d => c_tapeOf (L := L) (d := d) (J := J) (K := K) hR c
  simp only [bi_t (show 0 ≤ x ∧ x ≤ 5 by omega)] at hT
  have hP := (rTp (L := L) hR x.toNat (by omega)).2
  have hsP := hP.1
  have anew : ∀ n : Int, (y = -1 ∧ n = 0 ∨ (0 ≤ y ∧ y ≤ 4) ∧ 0 ≤ n ∧ n ≤ 60) → (0 ≤ y → n = z) → OP L d 126 231 [some (vi x), some (vi y), some (vi z), none] [some (vi x), some (vi y), some (vi z), none] J K R := by
    intro n hn hnz
    have hb := fun d => p_become (d := d) (J := J) (K := K) (x := y) (n := n) hP (by omega) (by omega)
    have en : (if 0 < n then n else 0) = n := by split <;> omega
    rw [en] at hb
    have hi := INV_P (t := x.toNat) h (by omega) hn
    simp only [bi_t (show -1 ≤ y ∧ y ≤ 4 by omega)] at hin
    have hT2 := fun d J K => m_isTape (L := L) (d := d) (J := J) (K := K) (R := R) hx
    simp only [bi_t (show 0 ≤ x ∧ x ≤ 5 by omega)] at hT2
    have hin2 := fun d J K => m_in (d := d) (S := SH L) (J := J) (K := K) (R := R) (x := y) (y := -1) (z := 4) (by omega) (by omega) (by omega)
    simp only [bi_t (show -1 ≤ y ∧ y ≤ 4 by omega)] at hin2
    have hl := fun d J K => l_zero (L := L) (d := d) (J := J) (y := y) (z := z) hR c 60 0 K rfl (by omega)
    rw [show (((0 : Nat) : Int)) = 0 from rfl] at hl
    refine ⟨vi 1, mm_up (mm_up J (64 + 2 * x.toNat) 1 y) (64 + 2 * x.toNat) 2 n, mm_rw K (65 + 2 * x.toNat) (zf 0 (K (65 + 2 * x.toNat))), R, _, _, R, ?_, ?_, hi⟩
    · rcases hn with ⟨e1, e2⟩ | ⟨e1, e2⟩
      · subst e1; subst e2
        simp (disch := first | assumption | omega | exact bi_lo | exact bi_hi | exact bi_01 | exact jcmp_lo | exact jcmp_hi | exact (jor_r _ _).1 | exact (jor_r _ _).2 | exact (jand_r _ _).1 | exact (jand_r _ _).2) only [x126_0, x126_1, x126_2, x126_5, x126_5n, x126_7, x126_7n, x126_9n, x126_9, x126_12, x126_13, x126_14, x126_15, x126_16, x126_19, x126_19n, x126_21, x126_22, x126_23, x126_26, x126_27, x126_28, x126_29, x126_32, x126_33, x126_34, x126_37, x126_38, x126_40, x126_43, x126_45, x126_46, x126_47, x126_50, x126_52, x126_53, x126_53n, x126_55, x126_56, x126_57, x126_60, x126_61, kb_some, kb_none, clr_vi, clr_ref, clr_null, clr_none, va_rf_some, va_rf_none, ↓bi_ite_t, ↓bi_ite_f, ↓jc_lt_t, ↓jc_lt_f, ↓jc_gt_t, ↓jc_gt_f, ↓jc_le_t, ↓jc_le_f, ↓jc_ge_t, ↓jc_ge_f, ↓jc_eq_t, ↓jc_eq_f, ↓if_pos, ↓if_neg, ho, hb]
      · have := hnz e1.1
        subst this
        simp (disch := first | assumption | omega | exact bi_lo | exact bi_hi | exact bi_01 | exact jcmp_lo | exact jcmp_hi | exact (jor_r _ _).1 | exact (jor_r _ _).2 | exact (jand_r _ _).1 | exact (jand_r _ _).2) only [x126_0, x126_1, x126_2, x126_5, x126_5n, x126_7, x126_7n, x126_9n, x126_9, x126_12, x126_13, x126_14, x126_15, x126_16, x126_19, x126_19n, x126_21, x126_22, x126_23, x126_26, x126_27, x126_28, x126_29, x126_32, x126_33, x126_34, x126_37, x126_38, x126_40, x126_43, x126_45, x126_46, x126_47, x126_50, x126_52, x126_53, x126_53n, x126_55, x126_56, x126_57, x126_60, x126_61, kb_some, kb_none, clr_vi, clr_ref, clr_null, clr_none, va_rf_some, va_rf_none, ↓bi_ite_t, ↓bi_ite_f, ↓jc_lt_t, ↓jc_lt_f, ↓jc_gt_t, ↓jc_gt_f, ↓jc_le_t, ↓jc_le_f, ↓jc_ge_t, ↓jc_ge_f, ↓jc_eq_t, ↓jc_eq_f, ↓if_pos, ↓if_neg, ho, hb]
    · rcases hn with ⟨e1, e2⟩ | ⟨e1, e2⟩
      · subst e1; subst e2
        simp (disch := first | assumption | omega | exact bi_lo | exact bi_hi | exact bi_01 | exact jcmp_lo | exact jcmp_hi | exact (jor_r _ _).1 | exact (jor_r _ _).2 | exact (jand_r _ _).1 | exact (jand_r _ _).2) only [x231_0, x231_1, x231_2, x231_5, x231_6, x231_7, x231_10, x231_13, x231_14, x231_15, x231_16, x231_17, x231_20, x231_23, x231_26, x231_29, x231_30, x231_33, x231_34, x231_36, x231_39, x231_41, x231_42, x231_43, x231_46, x231_47, x231_50, x231_52, x231_53, x231_54, x231_57, x231_58, x231_59, x231_62, x231_63, x231_66, x231_67, x231_68, x231_69, x231_72, x231_73, x231_74, x231_75, x231_76, x231_79, x231_80, x231_81, x231_84, x231_85, x231_88, x231_89, x231_90, x231_91, kb_some, kb_none, clr_vi, clr_ref, clr_null, clr_none, va_rf_some, va_rf_none, ↓bi_ite_t, ↓bi_ite_f, ↓jc_lt_t, ↓jc_lt_f, ↓jc_gt_t, ↓jc_gt_f, ↓jc_le_t, ↓jc_le_f, ↓jc_ge_t, ↓jc_ge_f, ↓jc_eq_t, ↓jc_eq_f, ↓if_pos, ↓if_neg, hT2, hin2, hl]
      · have := hnz e1.1
        subst this
        simp (disch := first | assumption | omega | exact bi_lo | exact bi_hi | exact bi_01 | exact jcmp_lo | exact jcmp_hi | exact (jor_r _ _).1 | exact (jor_r _ _).2 | exact (jand_r _ _).1 | exact (jand_r _ _).2) only [x231_0, x231_1, x231_2, x231_5, x231_6, x231_7, x231_10, x231_13, x231_14, x231_15, x231_16, x231_17, x231_20, x231_23, x231_26, x231_29, x231_30, x231_33, x231_34, x231_36, x231_39, x231_41, x231_42, x231_43, x231_46, x231_47, x231_50, x231_52, x231_53, x231_54, x231_57, x231_58, x231_59, x231_62, x231_63, x231_66, x231_67, x231_68, x231_69, x231_72, x231_73, x231_74, x231_75, x231_76, x231_79, x231_80, x231_81, x231_84, x231_85, x231_88, x231_89, x231_90, x231_91, kb_some, kb_none, clr_vi, clr_ref, clr_null, clr_none, va_rf_some, va_rf_none, ↓bi_ite_t, ↓bi_ite_f, ↓jc_lt_t, ↓jc_lt_f, ↓jc_gt_t, ↓jc_gt_f, ↓jc_le_t, ↓jc_le_f, ↓jc_ge_t, ↓jc_ge_f, ↓jc_eq_t, ↓jc_eq_f, ↓if_pos, ↓if_neg, hT2, hin2, hl]
  by_cases c1 : y = -1
  · exact anew 0 (Or.inl ⟨c1, rfl⟩) (by omega)
  by_cases c2 : (0 ≤ y ∧ y ≤ 4) ∧ z ≤ 60
  · by_cases c3 : 0 ≤ z
    · exact anew z (Or.inr ⟨c2.1, c3, c2.2⟩) (fun _ => rfl)
    · simp only [bi_t (show -1 ≤ y ∧ y ≤ 4 by omega)] at hin
      refine ⟨vi (-14), J, K, R, mm_up J 76 11 0, K, R, ?_, ?_, INV_11 h⟩
      · simp (disch := first | assumption | omega | exact bi_lo | exact bi_hi | exact bi_01 | exact jcmp_lo | exact jcmp_hi | exact (jor_r _ _).1 | exact (jor_r _ _).2 | exact (jand_r _ _).1 | exact (jand_r _ _).2) only [x126_0, x126_1, x126_2, x126_5, x126_5n, x126_7, x126_7n, x126_9n, x126_9, x126_12, x126_13, x126_14, x126_15, x126_16, x126_19, x126_19n, x126_21, x126_22, x126_23, x126_26, x126_27, x126_28, x126_29, x126_32, x126_33, x126_34, x126_37, x126_38, x126_40, x126_43, x126_45, x126_46, x126_47, x126_50, x126_52, kb_some, kb_none, clr_vi, clr_ref, clr_null, clr_none, va_rf_some, va_rf_none, ↓bi_ite_t, ↓bi_ite_f, ↓jc_lt_t, ↓jc_lt_f, ↓jc_gt_t, ↓jc_gt_f, ↓jc_le_t, ↓jc_le_f, ↓jc_ge_t, ↓jc_ge_f, ↓jc_eq_t, ↓jc_eq_f, ↓if_pos, ↓if_neg, ho]
      · simp (disch := first | assumption | omega | exact bi_lo | exact bi_hi | exact bi_01 | exact jcmp_lo | exact jcmp_hi | exact (jor_r _ _).1 | exact (jor_r _ _).2 | exact (jand_r _ _).1 | exact (jand_r _ _).2) only [x231_0, x231_1, x231_2, x231_5, x231_6, x231_7, x231_10, x231_13, x231_14, x231_15, x231_16, x231_17, x231_20, x231_23, x231_26, x231_29, x231_30, x231_33, x231_34, x231_36, x231_39, x231_41, x231_42, x231_43, x231_46, x231_47, x231_50, x231_52, kb_some, kb_none, clr_vi, clr_ref, clr_null, clr_none, va_rf_some, va_rf_none, ↓bi_ite_t, ↓bi_ite_f, ↓jc_lt_t, ↓jc_lt_f, ↓jc_gt_t, ↓jc_gt_f, ↓jc_le_t, ↓jc_le_f, ↓jc_ge_t, ↓jc_ge_f, ↓jc_eq_t, ↓jc_eq_f, ↓if_pos, ↓if_neg, hT, hin]
  · by_cases c4 : 0 ≤ y ∧ y ≤ 4
    · have c5 : 60 < z := by omega
      simp only [bi_t (show -1 ≤ y ∧ y ≤ 4 by omega)] at hin
      refine ⟨vi (-2), J, K, R, mm_up J 76 11 0, K, R, ?_, ?_, INV_11 h⟩
      · simp (disch := first | assumption | omega | exact bi_lo | exact bi_hi | exact bi_01 | exact jcmp_lo | exact jcmp_hi | exact (jor_r _ _).1 | exact (jor_r _ _).2 | exact (jand_r _ _).1 | exact (jand_r _ _).2) only [x126_0, x126_1, x126_2, x126_5, x126_5n, x126_7, x126_7n, x126_9n, x126_9, x126_12, x126_13, x126_14, x126_15, x126_16, x126_19, x126_19n, x126_21, x126_22, x126_23, x126_26, x126_27, x126_28, x126_29, x126_32, x126_33, x126_34, x126_37, x126_38, x126_40, x126_43, x126_45, x126_46, x126_47, x126_50, x126_52, kb_some, kb_none, clr_vi, clr_ref, clr_null, clr_none, va_rf_some, va_rf_none, ↓bi_ite_t, ↓bi_ite_f, ↓jc_lt_t, ↓jc_lt_f, ↓jc_gt_t, ↓jc_gt_f, ↓jc_le_t, ↓jc_le_f, ↓jc_ge_t, ↓jc_ge_f, ↓jc_eq_t, ↓jc_eq_f, ↓if_pos, ↓if_neg, ho]
      · simp (disch := first | assumption | omega | exact bi_lo | exact bi_hi | exact bi_01 | exact jcmp_lo | exact jcmp_hi | exact (jor_r _ _).1 | exact (jor_r _ _).2 | exact (jand_r _ _).1 | exact (jand_r _ _).2) only [x231_0, x231_1, x231_2, x231_5, x231_6, x231_7, x231_10, x231_13, x231_14, x231_15, x231_16, x231_17, x231_20, x231_23, x231_26, x231_29, x231_30, x231_33, x231_34, x231_36, x231_39, x231_41, x231_42, x231_43, x231_46, x231_47, x231_50, x231_52, kb_some, kb_none, clr_vi, clr_ref, clr_null, clr_none, va_rf_some, va_rf_none, ↓bi_ite_t, ↓bi_ite_f, ↓jc_lt_t, ↓jc_lt_f, ↓jc_gt_t, ↓jc_gt_f, ↓jc_le_t, ↓jc_le_f, ↓jc_ge_t, ↓jc_ge_f, ↓jc_eq_t, ↓jc_eq_f, ↓if_pos, ↓if_neg, hT, hin]
    · simp only [bi_f (show ¬ (-1 ≤ y ∧ y ≤ 4) by omega)] at hin
      refine ⟨vi (-2), J, K, R, mm_up J 76 11 0, K, R, ?_, ?_, INV_11 h⟩
      · by_cases c6 : y < 0
        · simp (disch := first | assumption | omega | exact bi_lo | exact bi_hi | exact bi_01 | exact jcmp_lo | exact jcmp_hi | exact (jor_r _ _).1 | exact (jor_r _ _).2 | exact (jand_r _ _).1 | exact (jand_r _ _).2) only [x126_0, x126_1, x126_2, x126_5, x126_5n, x126_7, x126_7n, x126_9n, x126_9, x126_12, x126_13, x126_14, x126_15, x126_16, x126_19, x126_19n, x126_21, x126_22, x126_23, x126_26, x126_27, x126_28, x126_29, x126_32, x126_33, x126_34, x126_37, x126_38, x126_40, x126_43, x126_45, x126_46, x126_47, x126_50, x126_52, kb_some, kb_none, clr_vi, clr_ref, clr_null, clr_none, va_rf_some, va_rf_none, ↓bi_ite_t, ↓bi_ite_f, ↓jc_lt_t, ↓jc_lt_f, ↓jc_gt_t, ↓jc_gt_f, ↓jc_le_t, ↓jc_le_f, ↓jc_ge_t, ↓jc_ge_f, ↓jc_eq_t, ↓jc_eq_f, ↓if_pos, ↓if_neg, ho]
        · simp (disch := first | assumption | omega | exact bi_lo | exact bi_hi | exact bi_01 | exact jcmp_lo | exact jcmp_hi | exact (jor_r _ _).1 | exact (jor_r _ _).2 | exact (jand_r _ _).1 | exact (jand_r _ _).2) only [x126_0, x126_1, x126_2, x126_5, x126_5n, x126_7, x126_7n, x126_9n, x126_9, x126_12, x126_13, x126_14, x126_15, x126_16, x126_19, x126_19n, x126_21, x126_22, x126_23, x126_26, x126_27, x126_28, x126_29, x126_32, x126_33, x126_34, x126_37, x126_38, x126_40, x126_43, x126_45, x126_46, x126_47, x126_50, x126_52, kb_some, kb_none, clr_vi, clr_ref, clr_null, clr_none, va_rf_some, va_rf_none, ↓bi_ite_t, ↓bi_ite_f, ↓jc_lt_t, ↓jc_lt_f, ↓jc_gt_t, ↓jc_gt_f, ↓jc_le_t, ↓jc_le_f, ↓jc_ge_t, ↓jc_ge_f, ↓jc_eq_t, ↓jc_eq_f, ↓if_pos, ↓if_neg, ho]
      · simp (disch := first | assumption | omega | exact bi_lo | exact bi_hi | exact bi_01 | exact jcmp_lo | exact jcmp_hi | exact (jor_r _ _).1 | exact (jor_r _ _).2 | exact (jand_r _ _).1 | exact (jand_r _ _).2) only [x231_0, x231_1, x231_2, x231_5, x231_6, x231_7, x231_10, x231_13, x231_14, x231_15, x231_16, x231_17, x231_20, x231_23, x231_26, x231_29, x231_30, x231_33, x231_34, x231_36, x231_39, x231_41, x231_42, x231_43, x231_46, x231_47, x231_50, x231_52, kb_some, kb_none, clr_vi, clr_ref, clr_null, clr_none, va_rf_some, va_rf_none, ↓bi_ite_t, ↓bi_ite_f, ↓jc_lt_t, ↓jc_lt_f, ↓jc_gt_t, ↓jc_gt_f, ↓jc_le_t, ↓jc_le_f, ↓jc_ge_t, ↓jc_ge_f, ↓jc_eq_t, ↓jc_eq_f, ↓if_pos, ↓if_neg, hT, hin]
end
