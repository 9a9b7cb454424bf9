/-! the calls, one by one: as, fits -/
theorem firstO_c {g g' : Int → Int} {p q p' q' : Nat → Int} : ∀ (i k : Nat), (∀ j, k ≤ j → j < k + i → p j = p' j ∧ q j = q' j ∧ g (p j) = g' (p j)) → firstO g p q i k = firstO g' p' q' i k := by
  intro i
  induction i with
  | zero => intro k h; rfl
  | succ i ih =>
    intro k h
    obtain ⟨h1, h2, h3⟩ := h k (by omega) (by omega)
    unfold firstO
    rw [h3, h2, h1, ih (k + 1) (fun j j1 j2 => h j (by omega) (by omega))]
theorem firstO_r {g : Int → Int} {p q : Nat → Int} : ∀ (i k : Nat), -1 ≤ firstO g p q i k ∧ firstO g p q i k ≤ i + k := by
  intro i
  induction i with
  | zero => intro k; exact ⟨by show (-1 : Int) ≤ -1; omega, by show (-1 : Int) ≤ _; omega⟩
  | succ i ih =>
    intro k
    unfold firstO
    split
    · have := ih (k + 1); omega
    · omega
section
variable {S : mm_S} {r a b n : Nat} {L d : Nat} {J J' J1 J2 K K' : mJ} {R R1 R' : mm_R} {x y z v w : Int} {f : Int → Int}
theorem bA_w {a b : Nat} {x : Int} (hc : ∀ i : Nat, (i : Int) < J a 1 → 0 ≤ J b i ∧ J b i ≤ 1000) : -1 ≤ bA J a b x ∧ bA J a b x ≤ 1000 := by
  unfold bA
  split
  · have := hc x.toNat (by omega); omega
  · omega
theorem l_firstW {e c m : Nat} (h : isW S R r a b n) (he : isB S R e c m) (hs : 0 ≤ J r 2 ∧ J r 2 ≤ n) (hs' : 0 ≤ J e 1 ∧ J e 1 ≤ m)
    (ha : ∀ i : Nat, (i : Int) < J r 2 → 0 ≤ J a i ∧ J a i ≤ 1000) (hb : ∀ i : Nat, (i : Int) < J r 2 → 0 ≤ J b i ∧ J b i ≤ 1000) (hc : ∀ i : Nat, (i : Int) < J e 1 → 0 ≤ J c i ∧ J c i ≤ 1000) : ∀ (i k : Nat), ((J r 2).toNat - k) = i → k ≤ n →
    EE (d + 1) 45 2 [some (.ref r), some (.ref e), some (vi k)] [] S J K R = ok (some (vi (firstO (bA J e c) (J a) (J b) i k))) S J K R := by
  have h' := h
  have he' := he
  obtain ⟨h1, h2, h3, h4, h5, h6, h7, h8, h9, h10, h11⟩ := h
  obtain ⟨g1, g2, g3, g4, g5, g6⟩ := he
  intro i
  induction i with
  | zero =>
    intro k hi hk
    simp (disch := first | assumption | omega | exact bi_lo | exact bi_hi | exact bi_01) only [x45_0, x45_1, x45_2, x45_3, x45_4, x45_7, x45_10, x45_10n, x45_11, x45_12, x45_15, x45_16, x45_17, x45_20, x45_21, x45_24, x45_25, x45_26, x45_29, x45_30, x45_31, x45_34, x45_37, x45_38, kb_some, kb_none, clr_vi, clr_ref, clr_null, clr_none, va_rf_some, va_rf_none, if_pos (show J r 2 ≤ (k : Int) by omega), firstO]
  | succ i ih =>
    intro k hi hk
    have hk2 : ¬ J r 2 ≤ (k : Int) := by omega
    have hak := ha k (by omega)
    have hbk := hb k (by omega)
    have hby := c_at (d := d) (K := K) he' (show -2147483648 ≤ J a k ∧ J a k ≤ 2147483647 by omega) hs'
    have ih' := ih (k + 1) (by omega) (by omega)
    rw [Int.natCast_succ] at ih'
    have hbr := bA_w (x := J a k) hc
    simp (disch := first | assumption | omega | exact bi_lo | exact bi_hi | exact bi_01) only [x45_0, x45_1, x45_2, x45_3, x45_4, x45_7, x45_10, x45_10n, x45_11, x45_12, x45_15, x45_16, x45_17, x45_20, x45_21, x45_24, x45_25, x45_26, x45_29, x45_30, x45_31, x45_34, x45_37, x45_38, kb_some, kb_none, clr_vi, clr_ref, clr_null, clr_none, va_rf_some, va_rf_none, if_neg hk2, hby, h2, h3, Int.toNat_natCast, ih', firstO]
    by_cases q : bA J e c (J a k) = J b k
    · rw [if_pos q, if_pos q]
    · rw [if_neg q, if_neg q]
theorem w_firstW {e c m : Nat} (h : isW S R r a b n) (he : isB S R e c m) (hs : 0 ≤ J r 2 ∧ J r 2 ≤ n) (hs' : 0 ≤ J e 1 ∧ J e 1 ≤ m)
    (ha : ∀ i : Nat, (i : Int) < J r 2 → 0 ≤ J a i ∧ J a i ≤ 1000) (hb : ∀ i : Nat, (i : Int) < J r 2 → 0 ≤ J b i ∧ J b i ≤ 1000) (hc : ∀ i : Nat, (i : Int) < J e 1 → 0 ≤ J c i ∧ J c i ≤ 1000) :
    EE (d + 1) 45 0 [some (.ref r), some (.ref e), none] [] S J K R = ok (some (vi (firstO (bA J e c) (J a) (J b) (J r 2).toNat 0))) S J K R := by
  have hl := l_firstW (d := d) (K := K) h he hs hs' ha hb hc (J r 2).toNat 0 (by omega) (by omega)
  simp (disch := first | assumption | omega | exact bi_lo | exact bi_hi | exact bi_01) only [x45_0, x45_1, kb_some, kb_none, clr_vi, clr_ref, clr_null, clr_none, va_rf_some, va_rf_none]
  exact hl
theorem IX_31 (h : INV J K R) (b4 : fr A31 J J1) (hS : RS J1) : IX J1 := by
  obtain ⟨x1, x2, x3, x4, x5, x6⟩ := h.2.2.2.2.2.1
  refine ⟨hS, ?_, ?_, ?_, ?_, ?_⟩
  · rw [b4 47 (by decide)]; exact x2
  · rw [b4 53 (by decide)]; exact x3
  · rw [b4 58 (by decide)]; exact x4
  · rw [b4 61 (by decide)]; exact x5
  · rw [b4 29 (by decide), b4 30 (by decide)]; exact x6
theorem INV_31 (h : INV J K R) (hR' : wfR R') (b4 : fr A31 J J1) (hS : RS J1) (h2 : frm SC J1 J2) : INV J2 K R' := INV_G h hR' (IX_31 h b4 hS) (fun a ha => b4 a (by omega)) h2
theorem op_as (h : INV J K R) (hx : -2147483648 ≤ x ∧ x ≤ 2147483647) (hy : -2147483648 ≤ y ∧ y ≤ 2147483647) : OP L d 112 216 [some (vi x), some (vi y)] [some (vi x), some (vi y)] J K R := by
  have hR := h.1
  have s2 : (SH L)[2]? = some (10, 10) := rfl; have r2_0 : R 2 0 = some 3 := rr_lk hR rfl; have r2_1 : R 2 1 = some 15 := rr_lk hR rfl; have r2_3 : R 2 3 = some 27 := rr_lk hR rfl; have r2_4 : R 2 4 = some 29 := rr_lk hR rfl; have r2_5 : R 2 5 = some 31 := rr_lk hR rfl; have r2_6 : R 2 6 = some 46 := rr_lk hR rfl; have r2_7 : R 2 7 = some 57 := rr_lk hR rfl; have r2_8 : R 2 8 = some 60 := rr_lk hR rfl; have r2_9 : R 2 9 = some 63 := rr_lk hR rfl; have s3 : (SH L)[3]? = some (6, 4) := rfl; have r3_0 : R 3 0 = some 4 := rr_lk hR rfl; have r3_1 : R 3 1 = some 6 := rr_lk hR rfl; have r3_2 : R 3 2 = some 9 := rr_lk hR rfl; have r3_3 : R 3 3 = some 12 := rr_lk hR rfl; have s4 : (SH L)[4]? = some (0, 2) := rfl; have r4_0 : R 4 0 = some 5 := rr_lk hR rfl; have s31 : (SH L)[31]? = some (2, 5) := rfl; have r31_0 : R 31 0 = some 32 := rr_lk hR rfl; have r31_1 : R 31 1 = some 36 := rr_lk hR rfl; have s76 : (SH L)[76]? = some (11, 58) := rfl; have r76_0 : R 76 0 = some 77 := rr_lk hR rfl; have r76_3 : R 76 3 = some 78 := rr_lk hR rfl; have r76_4 : R 76 4 = some 79 := rr_lk hR rfl; have r76_6 : R 76 6 = some 80 := rr_lk hR rfl; have r76_7 : R 76 7 = some 81 := rr_lk hR rfl; have r76_9 : R 76 9 = some 82 := rr_lk hR rfl; have r76_10 : R 76 10 = some 83 := rr_lk hR rfl; have r76_12 : R 76 12 = some 84 := rr_lk hR rfl; have r76_13 : R 76 13 = some 85 := rr_lk hR rfl; have r76_19 : R 76 19 = some 86 := rr_lk hR rfl; have r76_20 : R 76 20 = some 87 := rr_lk hR rfl; have r76_21 : R 76 21 = some 88 := rr_lk hR rfl; have r76_22 : R 76 22 = some 89 := rr_lk hR rfl; have r76_24 : R 76 24 = some 90 := rr_lk hR rfl; have r76_25 : R 76 25 = some 91 := rr_lk hR rfl; have r76_26 : R 76 26 = some 92 := rr_lk hR rfl; have r76_28 : R 76 28 = some 93 := rr_lk hR rfl; have r76_29 : R 76 29 = some 94 := rr_lk hR rfl; have r76_30 : R 76 30 = some 95 := rr_lk hR rfl; have r76_31 : R 76 31 = some 96 := rr_lk hR rfl; have r76_32 : R 76 32 = some 97 := rr_lk hR rfl; have r76_36 : R 76 36 = some 98 := rr_lk hR rfl; have r76_38 : R 76 38 = some 99 := rr_lk hR rfl; have r76_39 : R 76 39 = some 100 := rr_lk hR rfl; have r76_40 : R 76 40 = some 101 := rr_lk hR rfl; have r76_41 : R 76 41 = some 102 := rr_lk hR rfl; have r76_42 : R 76 42 = some 103 := rr_lk hR rfl; have r76_47 : R 76 47 = some 104 := rr_lk hR rfl; have r76_53 : R 76 53 = some 105 := rr_lk hR rfl; have r76_54 : R 76 54 = some 106 := rr_lk hR rfl; have r76_55 : R 76 55 = some 107 := rr_lk hR rfl; have r76_56 : R 76 56 = some 108 := rr_lk hR rfl; have r76_57 : R 76 57 = some 109 := rr_lk hR rfl
  have hv := fun d J R => c_isVer (d := d) (J := J) (K := K) (R := R) (S := SH L) hx
  have hin := fun d J R => m_in (d := d) (S := SH L) (J := J) (K := K) (R := R) (x := x) (y := 1) (z := 3) (by omega) (by omega) (by omega)
  have hin2 := fun d J R => m_in (d := d) (S := SH L) (J := J) (K := K) (R := R) (x := y) (y := 0) (z := 1) (by omega) (by omega) (by omega)
  by_cases c1 : 1 ≤ x ∧ x ≤ 3
  rotate_left
  · simp only [bi_f c1] at hv hin
    refine ⟨vi (-1), J, K, R, mm_up J 76 11 0, K, R, ?_, ?_, INV_11 h⟩
    · simp (disch := first | assumption | omega | exact bi_lo | exact bi_hi | exact bi_01 | exact jcmp_lo | exact jcmp_hi | exact (jor_r _ _).1 | exact (jor_r _ _).2 | exact (jand_r _ _).1 | exact (jand_r _ _).2) only [x112_0, x112_1, x112_4, x112_7, x112_8, x112_11, x112_12, x112_13, x112_16, x112_17, kb_some, kb_none, clr_vi, clr_ref, clr_null, clr_none, va_rf_some, va_rf_none, ↓bi_ite_t, ↓bi_ite_f, ↓jc_lt_t, ↓jc_lt_f, ↓jc_gt_t, ↓jc_gt_f, ↓jc_le_t, ↓jc_le_f, ↓jc_ge_t, ↓jc_ge_f, ↓jc_eq_t, ↓jc_eq_f, ↓if_pos, ↓if_neg, hv]
    · simp (disch := first | assumption | omega | exact bi_lo | exact bi_hi | exact bi_01 | exact jcmp_lo | exact jcmp_hi | exact (jor_r _ _).1 | exact (jor_r _ _).2 | exact (jand_r _ _).1 | exact (jand_r _ _).2) only [x216_0, x216_1, x216_2, x216_5, x216_6, x216_7, x216_8, x216_11, x216_14, x216_17, x216_18, x216_19, x216_20, x216_21, x216_24, x216_27, x216_28, kb_some, kb_none, clr_vi, clr_ref, clr_null, clr_none, va_rf_some, va_rf_none, ↓bi_ite_t, ↓bi_ite_f, ↓jc_lt_t, ↓jc_lt_f, ↓jc_gt_t, ↓jc_gt_f, ↓jc_le_t, ↓jc_le_f, ↓jc_ge_t, ↓jc_ge_f, ↓jc_eq_t, ↓jc_eq_f, ↓if_pos, ↓if_neg, hin]
  simp only [bi_t c1] at hv hin
  by_cases c2 : 0 ≤ y ∧ y ≤ 1
  rotate_left
  · simp only [bi_f c2] at hin2
    refine ⟨vi (-1), J, K, R, mm_up J 76 11 0, K, R, ?_, ?_, INV_11 h⟩
    · by_cases c3 : y < 0
      · simp (disch := first | assumption | omega | exact bi_lo | exact bi_hi | exact bi_01 | exact jcmp_lo | exact jcmp_hi | exact (jor_r _ _).1 | exact (jor_r _ _).2 | exact (jand_r _ _).1 | exact (jand_r _ _).2) only [x112_0, x112_1, x112_4, x112_7, x112_8, x112_11, x112_12, x112_13, x112_16, x112_17, kb_some, kb_none, clr_vi, clr_ref, clr_null, clr_none, va_rf_some, va_rf_none, ↓bi_ite_t, ↓bi_ite_f, ↓jc_lt_t, ↓jc_lt_f, ↓jc_gt_t, ↓jc_gt_f, ↓jc_le_t, ↓jc_le_f, ↓jc_ge_t, ↓jc_ge_f, ↓jc_eq_t, ↓jc_eq_f, ↓if_pos, ↓if_neg, hv]
      · simp (disch := first | assumption | omega | exact bi_lo | exact bi_hi | exact bi_01 | exact jcmp_lo | exact jcmp_hi | exact (jor_r _ _).1 | exact (jor_r _ _).2 | exact (jand_r _ _).1 | exact (jand_r _ _).2) only [x112_0, x112_1, x112_4, x112_7, x112_8, x112_11, x112_12, x112_13, x112_16, x112_17, kb_some, kb_none, clr_vi, clr_ref, clr_null, clr_none, va_rf_some, va_rf_none, ↓bi_ite_t, ↓bi_ite_f, ↓jc_lt_t, ↓jc_lt_f, ↓jc_gt_t, ↓jc_gt_f, ↓jc_le_t, ↓jc_le_f, ↓jc_ge_t, ↓jc_ge_f, ↓jc_eq_t, ↓jc_eq_f, ↓if_pos, ↓if_neg, hv]
    · simp (disch := first | assumption | omega | exact bi_lo | exact bi_hi | exact bi_01 | exact jcmp_lo | exact jcmp_hi | exact (jor_r _ _).1 | exact (jor_r _ _).2 | exact (jand_r _ _).1 | exact (jand_r _ _).2) only [x216_0, x216_1, x216_2, x216_5, x216_6, x216_7, x216_8, x216_11, x216_14, x216_17, x216_18, x216_19, x216_20, x216_21, x216_24, x216_27, x216_28, kb_some, kb_none, clr_vi, clr_ref, clr_null, clr_none, va_rf_some, va_rf_none, ↓bi_ite_t, ↓bi_ite_f, ↓jc_lt_t, ↓jc_lt_f, ↓jc_gt_t, ↓jc_gt_f, ↓jc_le_t, ↓jc_le_f, ↓jc_ge_t, ↓jc_ge_f, ↓jc_eq_t, ↓jc_eq_f, ↓if_pos, ↓if_neg, hin, hin2]
  simp only [bi_t c2] at hin2
  have a1 := h.2.1.1
  obtain ⟨J1, R1, b3, b4, b5, hm⟩ := rd_cB (L := L) (e1 := d + 8) (K := K) (INV_RB h) h.2.2.2.2.2.1.1
  rw [a1] at hm
  have hR := b3
  have s2 : (SH L)[2]? = some (10, 10) := rfl; have r2_0 : R1 2 0 = some 3 := rr_lk hR rfl; have r2_1 : R1 2 1 = some 15 := rr_lk hR rfl; have r2_3 : R1 2 3 = some 27 := rr_lk hR rfl; have r2_4 : R1 2 4 = some 29 := rr_lk hR rfl; have r2_5 : R1 2 5 = some 31 := rr_lk hR rfl; have r2_6 : R1 2 6 = some 46 := rr_lk hR rfl; have r2_7 : R1 2 7 = some 57 := rr_lk hR rfl; have r2_8 : R1 2 8 = some 60 := rr_lk hR rfl; have r2_9 : R1 2 9 = some 63 := rr_lk hR rfl; have s31 : (SH L)[31]? = some (2, 5) := rfl; have r31_0 : R1 31 0 = some 32 := rr_lk hR rfl; have r31_1 : R1 31 1 = some 36 := rr_lk hR rfl; have s36 : (SH L)[36]? = some (9, 7) := rfl; have r36_0 : R1 36 0 = some 37 := rr_lk hR rfl; have r36_1 : R1 36 1 = some 38 := rr_lk hR rfl; have r36_2 : R1 36 2 = some 39 := rr_lk hR rfl; have r36_3 : R1 36 3 = some 40 := rr_lk hR rfl; have r36_4 : R1 36 4 = some 41 := rr_lk hR rfl; have r36_5 : R1 36 5 = some 42 := rr_lk hR rfl; have s57 : (SH L)[57]? = some (3, 2) := rfl; have r57_0 : R1 57 0 = some 58 := rr_lk hR rfl; have s58 : (SH L)[58]? = some (0, 2) := rfl; have r58_0 : R1 58 0 = some 59 := rr_lk hR rfl; have s76 : (SH L)[76]? = some (11, 58) := rfl; have r76_0 : R1 76 0 = some 77 := rr_lk hR rfl; have r76_3 : R1 76 3 = some 78 := rr_lk hR rfl; have r76_4 : R1 76 4 = some 79 := rr_lk hR rfl; have r76_6 : R1 76 6 = some 80 := rr_lk hR rfl; have r76_7 : R1 76 7 = some 81 := rr_lk hR rfl; have r76_9 : R1 76 9 = some 82 := rr_lk hR rfl; have r76_10 : R1 76 10 = some 83 := rr_lk hR rfl; have r76_12 : R1 76 12 = some 84 := rr_lk hR rfl; have r76_13 : R1 76 13 = some 85 := rr_lk hR rfl; have r76_19 : R1 76 19 = some 86 := rr_lk hR rfl; have r76_20 : R1 76 20 = some 87 := rr_lk hR rfl; have r76_21 : R1 76 21 = some 88 := rr_lk hR rfl; have r76_22 : R1 76 22 = some 89 := rr_lk hR rfl; have r76_24 : R1 76 24 = some 90 := rr_lk hR rfl; have r76_25 : R1 76 25 = some 91 := rr_lk hR rfl; have r76_26 : R1 76 26 = some 92 := rr_lk hR rfl; have r76_28 : R1 76 28 = some 93 := rr_lk hR rfl; have r76_29 : R1 76 29 = some 94 := rr_lk hR rfl; have r76_30 : R1 76 30 = some 95 := rr_lk hR rfl; have r76_31 : R1 76 31 = some 96 := rr_lk hR rfl; have r76_32 : R1 76 32 = some 97 := rr_lk hR rfl; have r76_36 : R1 76 36 = some 98 := rr_lk hR rfl; have r76_38 : R1 76 38 = some 99 := rr_lk hR rfl; have r76_39 : R1 76 39 = some 100 := rr_lk hR rfl; have r76_40 : R1 76 40 = some 101 := rr_lk hR rfl; have r76_41 : R1 76 41 = some 102 := rr_lk hR rfl; have r76_42 : R1 76 42 = some 103 := rr_lk hR rfl; have r76_47 : R1 76 47 = some 104 := rr_lk hR rfl; have r76_53 : R1 76 53 = some 105 := rr_lk hR rfl; have r76_54 : R1 76 54 = some 106 := rr_lk hR rfl; have r76_55 : R1 76 55 = some 107 := rr_lk hR rfl; have r76_56 : R1 76 56 = some 108 := rr_lk hR rfl; have r76_57 : R1 76 57 = some 109 := rr_lk hR rfl
  have e58 : 0 ≤ J1 58 1 ∧ J1 58 1 ≤ 240 := by rw [b4 58 (by decide)]; exact h.2.2.2.2.2.1.2.2.2.1
  have hB : isB (SH L) R1 58 59 240 := ⟨rfl, rr_lk hR rfl, rfl, by decide, by decide, by decide⟩
  cases hw : wh (mA J) (J 76 1) with
  | error q =>
    rw [hw] at hm
    obtain ⟨p1, p2, p3⟩ := hm
    have hM := INV_MR (J' := mm_up J1 76 11 0) h b3 (by rw [up_j (by decide), b4 76 (by decide)]) (by rw [up_ne (by decide), b4 77 (by decide)])
    obtain ⟨J2, m1, m2⟩ := m_made (L := L) (d := d + 13) (K := K) (v := x) hM c1 (fun F hF => by rw [up_j (by decide), b4 76 (by decide), hw] at hF; cases hF)
    rw [up_j (by decide), b4 76 (by decide), hw] at m2
    refine ⟨vi (-5), J1, K, R1, J2, K, R1, ?_, ?_, INV_31 h b3 b4 b5 (fun a j ha => (m1 a j ha).trans (up11_SC a j ha))⟩
    · simp (disch := first | assumption | omega | exact bi_lo | exact bi_hi | exact bi_01 | exact jcmp_lo | exact jcmp_hi | exact (jor_r _ _).1 | exact (jor_r _ _).2 | exact (jand_r _ _).1 | exact (jand_r _ _).2) only [x112_0, x112_1, x112_4, x112_7, x112_8, x112_11, x112_12, x112_13, x112_16, x112_17, x112_18, x112_19, x112_22, x112_23, x112_26, x112_29, x112_32, x112_35, x112_37, kb_some, kb_none, clr_vi, clr_ref, clr_null, clr_none, va_rf_some, va_rf_none, ↓bi_ite_t, ↓bi_ite_f, ↓jc_lt_t, ↓jc_lt_f, ↓jc_gt_t, ↓jc_gt_f, ↓jc_le_t, ↓jc_le_f, ↓jc_ge_t, ↓jc_ge_f, ↓jc_eq_t, ↓jc_eq_f, ↓if_pos, ↓if_neg, hv, p1]
    · simp (disch := first | assumption | omega | exact bi_lo | exact bi_hi | exact bi_01 | exact jcmp_lo | exact jcmp_hi | exact (jor_r _ _).1 | exact (jor_r _ _).2 | exact (jand_r _ _).1 | exact (jand_r _ _).2) only [x216_0, x216_1, x216_2, x216_5, x216_6, x216_7, x216_8, x216_11, x216_14, x216_17, x216_18, x216_19, x216_20, x216_21, x216_24, x216_27, x216_28, x216_29, x216_30, x216_31, x216_34, x216_37, x216_39, x216_42, x216_43, x216_46, x216_47, x216_50, x216_53, x216_54, kb_some, kb_none, clr_vi, clr_ref, clr_null, clr_none, va_rf_some, va_rf_none, ↓bi_ite_t, ↓bi_ite_f, ↓jc_lt_t, ↓jc_lt_f, ↓jc_gt_t, ↓jc_gt_f, ↓jc_le_t, ↓jc_le_f, ↓jc_ge_t, ↓jc_ge_f, ↓jc_eq_t, ↓jc_eq_f, ↓if_pos, ↓if_neg, hin, hin2, m2]
  | ok F =>
    rw [hw] at hm
    obtain ⟨p1, p2, ⟨p3, p4, p5⟩, p6⟩ := hm
    by_cases c3 : y = 0
    · subst c3
      have hc := c_made (L := L) (K := K) (e1 := d + 9) (v := x) b3 p2 e58 b5 c1 p3 p6
      have hl := p6 (mA J) x
      obtain ⟨x1, x2, x3⟩ := made_X (v := x) h b4 b5 (l := fileL (mA J) x F) (by omega)
      generalize hJw : apL 58 59 (wv J1 x) (fileL (mA J) x F) = Jw at *
      have hsz := fun d => c_size (d := d) (J := Jw) (K := K) hB
      rw [x3] at hsz
      have hM := INV_MR (J' := mm_up Jw 76 11 0) h b3 (by rw [up_j (by decide), x2 76 (by decide)]) (by rw [up_ne (by decide), x2 77 (by decide)])
      obtain ⟨J2, m1, m2⟩ := m_made (L := L) (d := d + 13) (K := K) (v := x) hM c1 (fun F' hF => by rw [up_j (by decide), x2 76 (by decide), hw] at hF; cases hF; exact ⟨⟨p3, p4, p5⟩, p6⟩)
      rw [up_j (by decide), x2 76 (by decide), hw] at m2
      obtain ⟨m3, m4, m5⟩ := m2
      refine ⟨vi ((fileL (mA J) x F).length : Nat), Jw, K, R1, J2, K, R1, ?_, ?_, INV_G h b3 x1 x2 (fun a j ha => (m1 a j ha).trans (up11_SC a j ha))⟩
      · simp (disch := first | assumption | omega | exact bi_lo | exact bi_hi | exact bi_01 | exact jcmp_lo | exact jcmp_hi | exact (jor_r _ _).1 | exact (jor_r _ _).2 | exact (jand_r _ _).1 | exact (jand_r _ _).2) only [x112_0, x112_1, x112_4, x112_7, x112_8, x112_11, x112_12, x112_13, x112_16, x112_17, x112_18, x112_19, x112_22, x112_23, x112_26, x112_29, x112_32, x112_35, x112_37, x112_38, x112_39, x112_42, x112_43, x112_46, x112_47, x112_50, x112_53, x112_54, x112_57, x112_60, x112_63, x112_64, x16_0, x16_1, x16_4, x16_4n, kb_some, kb_none, clr_vi, clr_ref, clr_null, clr_none, va_rf_some, va_rf_none, ↓bi_ite_t, ↓bi_ite_f, ↓jc_lt_t, ↓jc_lt_f, ↓jc_gt_t, ↓jc_gt_f, ↓jc_le_t, ↓jc_le_f, ↓jc_ge_t, ↓jc_ge_f, ↓jc_eq_t, ↓jc_eq_f, ↓if_pos, ↓if_neg, hv, p1, hc, hsz]
      · simp (disch := first | assumption | omega | exact bi_lo | exact bi_hi | exact bi_01 | exact jcmp_lo | exact jcmp_hi | exact (jor_r _ _).1 | exact (jor_r _ _).2 | exact (jand_r _ _).1 | exact (jand_r _ _).2) only [x216_0, x216_1, x216_2, x216_5, x216_6, x216_7, x216_8, x216_11, x216_14, x216_17, x216_18, x216_19, x216_20, x216_21, x216_24, x216_27, x216_28, x216_29, x216_30, x216_31, x216_34, x216_37, x216_39, x216_42, x216_43, x216_46, x216_47, x216_50, x216_53, x216_54, kb_some, kb_none, clr_vi, clr_ref, clr_null, clr_none, va_rf_some, va_rf_none, ↓bi_ite_t, ↓bi_ite_f, ↓jc_lt_t, ↓jc_lt_f, ↓jc_gt_t, ↓jc_gt_f, ↓jc_le_t, ↓jc_le_f, ↓jc_ge_t, ↓jc_ge_f, ↓jc_eq_t, ↓jc_eq_f, ↓if_pos, ↓if_neg, hin, hin2, m3, m4]
    · have hM := INV_MR (J' := mm_up J1 76 11 0) h b3 (by rw [up_j (by decide), b4 76 (by decide)]) (by rw [up_ne (by decide), b4 77 (by decide)])
      obtain ⟨J2, m1, m2⟩ := m_made (L := L) (d := d + 13) (K := K) (v := x) hM c1 (fun F' hF => by rw [up_j (by decide), b4 76 (by decide), hw] at hF; cases hF; exact ⟨⟨p3, p4, p5⟩, p6⟩)
      rw [up_j (by decide), b4 76 (by decide), hw] at m2
      obtain ⟨m3, m4, m5⟩ := m2
      refine ⟨vi 1, J1, K, R1, J2, K, R1, ?_, ?_, INV_31 h b3 b4 b5 (fun a j ha => (m1 a j ha).trans (up11_SC a j ha))⟩
      · simp (disch := first | assumption | omega | exact bi_lo | exact bi_hi | exact bi_01 | exact jcmp_lo | exact jcmp_hi | exact (jor_r _ _).1 | exact (jor_r _ _).2 | exact (jand_r _ _).1 | exact (jand_r _ _).2) only [x112_0, x112_1, x112_4, x112_7, x112_8, x112_11, x112_12, x112_13, x112_16, x112_17, x112_18, x112_19, x112_22, x112_23, x112_26, x112_29, x112_32, x112_35, x112_37, x112_38, x112_39, x112_42, x112_43, x112_46, x112_47, x112_50, x112_53, x112_54, x112_57, x112_60, x112_63, x112_64, kb_some, kb_none, clr_vi, clr_ref, clr_null, clr_none, va_rf_some, va_rf_none, ↓bi_ite_t, ↓bi_ite_f, ↓jc_lt_t, ↓jc_lt_f, ↓jc_gt_t, ↓jc_gt_f, ↓jc_le_t, ↓jc_le_f, ↓jc_ge_t, ↓jc_ge_f, ↓jc_eq_t, ↓jc_eq_f, ↓if_pos, ↓if_neg, hv, p1]
      · simp (disch := first | assumption | omega | exact bi_lo | exact bi_hi | exact bi_01 | exact jcmp_lo | exact jcmp_hi | exact (jor_r _ _).1 | exact (jor_r _ _).2 | exact (jand_r _ _).1 | exact (jand_r _ _).2) only [x216_0, x216_1, x216_2, x216_5, x216_6, x216_7, x216_8, x216_11, x216_14, x216_17, x216_18, x216_19, x216_20, x216_21, x216_24, x216_27, x216_28, x216_29, x216_30, x216_31, x216_34, x216_37, x216_39, x216_42, x216_43, x216_46, x216_47, x216_50, x216_53, x216_54, kb_some, kb_none, clr_vi, clr_ref, clr_null, clr_none, va_rf_some, va_rf_none, ↓bi_ite_t, ↓bi_ite_f, ↓jc_lt_t, ↓jc_lt_f, ↓jc_gt_t, ↓jc_gt_f, ↓jc_le_t, ↓jc_le_f, ↓jc_ge_t, ↓jc_ge_f, ↓jc_eq_t, ↓jc_eq_f, ↓if_pos, ↓if_neg, hin, hin2, m3]
def gM (J : mJ) (x : Int) : Int := if 0 ≤ x ∧ x < J 76 37 then J 98 x.toNat else -1
theorem l_fitsM (hR : wfR R) (h2 : 0 ≤ J 76 2 ∧ J 76 2 ≤ 5) (h37 : 0 ≤ J 76 37 ∧ J 76 37 ≤ 250) (hw : ∀ i : Nat, (i : Int) < J 76 2 → (0 ≤ J 78 i ∧ J 78 i ≤ 119) ∧ 0 ≤ J 79 i ∧ J 79 i ≤ 255) (h98 : ∀ i : Nat, (i : Int) < J 76 37 → 0 ≤ J 98 i ∧ J 98 i ≤ 255) : ∀ (i k : Nat) (b : Int), (b = 0 ∨ b = 1) → (J 76 2).toNat - k = i → k ≤ 5 →
    EE d 218 34 [some (.ref 76), some (vi v), some (vi b), some (vi k)] [] (SH L) J K R = ok (some (vi (if b = 1 ∧ firstO (gM J) (J 78) (J 79) i k < 0 then 1 else 0))) (SH L) J K R := by
  have s76 : (SH L)[76]? = some (11, 58) := rfl; have r76_0 : R 76 0 = some 77 := rr_lk hR rfl; have r76_3 : R 76 3 = some 78 := rr_lk hR rfl; have r76_4 : R 76 4 = some 79 := rr_lk hR rfl; have r76_6 : R 76 6 = some 80 := rr_lk hR rfl; have r76_7 : R 76 7 = some 81 := rr_lk hR rfl; have r76_9 : R 76 9 = some 82 := rr_lk hR rfl; have r76_10 : R 76 10 = some 83 := rr_lk hR rfl; have r76_12 : R 76 12 = some 84 := rr_lk hR rfl; have r76_13 : R 76 13 = some 85 := rr_lk hR rfl; have r76_19 : R 76 19 = some 86 := rr_lk hR rfl; have r76_20 : R 76 20 = some 87 := rr_lk hR rfl; have r76_21 : R 76 21 = some 88 := rr_lk hR rfl; have r76_22 : R 76 22 = some 89 := rr_lk hR rfl; have r76_24 : R 76 24 = some 90 := rr_lk hR rfl; have r76_25 : R 76 25 = some 91 := rr_lk hR rfl; have r76_26 : R 76 26 = some 92 := rr_lk hR rfl; have r76_28 : R 76 28 = some 93 := rr_lk hR rfl; have r76_29 : R 76 29 = some 94 := rr_lk hR rfl; have r76_30 : R 76 30 = some 95 := rr_lk hR rfl; have r76_31 : R 76 31 = some 96 := rr_lk hR rfl; have r76_32 : R 76 32 = some 97 := rr_lk hR rfl; have r76_36 : R 76 36 = some 98 := rr_lk hR rfl; have r76_38 : R 76 38 = some 99 := rr_lk hR rfl; have r76_39 : R 76 39 = some 100 := rr_lk hR rfl; have r76_40 : R 76 40 = some 101 := rr_lk hR rfl; have r76_41 : R 76 41 = some 102 := rr_lk hR rfl; have r76_42 : R 76 42 = some 103 := rr_lk hR rfl; have r76_47 : R 76 47 = some 104 := rr_lk hR rfl; have r76_53 : R 76 53 = some 105 := rr_lk hR rfl; have r76_54 : R 76 54 = some 106 := rr_lk hR rfl; have r76_55 : R 76 55 = some 107 := rr_lk hR rfl; have r76_56 : R 76 56 = some 108 := rr_lk hR rfl; have r76_57 : R 76 57 = some 109 := rr_lk hR rfl; have s78 : (SH L)[78]? = some (20, 5) := rfl; have s79 : (SH L)[79]? = some (20, 5) := rfl; have s98 : (SH L)[98]? = some (20, 400) := rfl
  intro i
  induction i with
  | zero =>
    intro k b hb hi hk
    have e : firstO (gM J) (J 78) (J 79) 0 k = -1 := rfl
    rw [e]
    rcases hb with c | c
    · subst c
      rw [if_neg (by omega)]
      simp (disch := first | assumption | omega | exact bi_lo | exact bi_hi | exact bi_01 | exact jcmp_lo | exact jcmp_hi | exact (jor_r _ _).1 | exact (jor_r _ _).2 | exact (jand_r _ _).1 | exact (jand_r _ _).2) only [x218_34, x218_35, x218_36, x218_39, x218_91, x218_92, x218_95, x218_96, x218_99, x218_100, kb_some, kb_none, clr_vi, clr_ref, clr_null, clr_none, va_rf_some, va_rf_none, ↓bi_ite_t, ↓bi_ite_f, ↓jc_lt_t, ↓jc_lt_f, ↓jc_gt_t, ↓jc_gt_f, ↓jc_le_t, ↓jc_le_f, ↓jc_ge_t, ↓jc_ge_f, ↓jc_eq_t, ↓jc_eq_f, ↓if_pos, ↓if_neg]
    · subst c
      rw [if_pos (by omega)]
      simp (disch := first | assumption | omega | exact bi_lo | exact bi_hi | exact bi_01 | exact jcmp_lo | exact jcmp_hi | exact (jor_r _ _).1 | exact (jor_r _ _).2 | exact (jand_r _ _).1 | exact (jand_r _ _).2) only [x218_34, x218_35, x218_36, x218_39, x218_91, x218_92, x218_95, x218_96, x218_99, x218_100, kb_some, kb_none, clr_vi, clr_ref, clr_null, clr_none, va_rf_some, va_rf_none, ↓bi_ite_t, ↓bi_ite_f, ↓jc_lt_t, ↓jc_lt_f, ↓jc_gt_t, ↓jc_gt_f, ↓jc_le_t, ↓jc_le_f, ↓jc_ge_t, ↓jc_ge_f, ↓jc_eq_t, ↓jc_eq_f, ↓if_pos, ↓if_neg]
  | succ i ih =>
    intro k b hb hi hk
    have hwk := hw k (by omega)
    have e : firstO (gM J) (J 78) (J 79) (i + 1) k = if gM J (J 78 k) = J 79 k then firstO (gM J) (J 78) (J 79) i (k + 1) else (k : Int) := rfl
    have ih0 := ih (k + 1) 0 (Or.inl rfl) (by omega) (by omega)
    rw [if_neg (by omega), Int.natCast_succ] at ih0
    rcases hb with c | c
    · subst c
      rw [if_neg (by omega)]
      have go : ∀ X, EE d 218 34 [some (.ref 76), some (vi v), some (vi 0), some (vi ((k : Int) + 1))] [] (SH L) J K R = X → EE d 218 34 [some (.ref 76), some (vi v), some (vi 0), some (vi k)] [] (SH L) J K R = X := by
        intro X hX
        simp (disch := first | assumption | omega | exact bi_lo | exact bi_hi | exact bi_01 | exact jcmp_lo | exact jcmp_hi | exact (jor_r _ _).1 | exact (jor_r _ _).2 | exact (jand_r _ _).1 | exact (jand_r _ _).2) only [x218_34, x218_35, x218_36, x218_39, kb_some, kb_none, clr_vi, clr_ref, clr_null, clr_none, va_rf_some, va_rf_none, ↓bi_ite_t, ↓bi_ite_f, ↓jc_lt_t, ↓jc_lt_f, ↓jc_gt_t, ↓jc_gt_f, ↓jc_le_t, ↓jc_le_f, ↓jc_ge_t, ↓jc_ge_f, ↓jc_eq_t, ↓jc_eq_f, ↓if_pos, ↓if_neg]
        simp (disch := first | assumption | omega | exact bi_lo | exact bi_hi | exact bi_01 | exact jcmp_lo | exact jcmp_hi | exact (jor_r _ _).1 | exact (jor_r _ _).2 | exact (jand_r _ _).1 | exact (jand_r _ _).2) only [x218_42, x218_43, x218_46, x218_47, x218_50, x218_51, x218_52, x218_53, x218_56, x218_59, x218_60, x218_63, x218_64, x218_67, x218_68, x218_69, x218_70, x218_71, x218_74, x218_75, x218_76, x218_79, x218_80, x218_83, x218_84, x218_85, x218_88, kb_some, kb_none, clr_vi, clr_ref, clr_null, clr_none, va_rf_some, va_rf_none, ↓bi_ite_t, ↓bi_ite_f, ↓jc_lt_t, ↓jc_lt_f, ↓jc_gt_t, ↓jc_gt_f, ↓jc_le_t, ↓jc_le_f, ↓jc_ge_t, ↓jc_ge_f, ↓jc_eq_t, ↓jc_eq_f, ↓if_pos, ↓if_neg]
        exact hX
      exact go _ ih0
    · subst c
      rw [e]
      by_cases c2 : J 78 k < J 76 37
      · have em : gM J (J 78 k) = J 98 (J 78 k).toNat := if_pos ⟨hwk.1.1, c2⟩
        have h8 := h98 (J 78 k).toNat (by omega)
        rw [em]
        by_cases c3 : J 98 (J 78 k).toNat = J 79 k
        · rw [if_pos c3]
          have ih' := ih (k + 1) 1 (Or.inr rfl) (by omega) (by omega)
          rw [Int.natCast_succ] at ih'
          have go : ∀ X, EE d 218 34 [some (.ref 76), some (vi v), some (vi 1), some (vi ((k : Int) + 1))] [] (SH L) J K R = X → EE d 218 34 [some (.ref 76), some (vi v), some (vi 1), some (vi k)] [] (SH L) J K R = X := by
            intro X hX
            simp (disch := first | assumption | omega | exact bi_lo | exact bi_hi | exact bi_01 | exact jcmp_lo | exact jcmp_hi | exact (jor_r _ _).1 | exact (jor_r _ _).2 | exact (jand_r _ _).1 | exact (jand_r _ _).2) only [x218_34, x218_35, x218_36, x218_39, kb_some, kb_none, clr_vi, clr_ref, clr_null, clr_none, va_rf_some, va_rf_none, ↓bi_ite_t, ↓bi_ite_f, ↓jc_lt_t, ↓jc_lt_f, ↓jc_gt_t, ↓jc_gt_f, ↓jc_le_t, ↓jc_le_f, ↓jc_ge_t, ↓jc_ge_f, ↓jc_eq_t, ↓jc_eq_f, ↓if_pos, ↓if_neg]
            simp (disch := first | assumption | omega | exact bi_lo | exact bi_hi | exact bi_01 | exact jcmp_lo | exact jcmp_hi | exact (jor_r _ _).1 | exact (jor_r _ _).2 | exact (jand_r _ _).1 | exact (jand_r _ _).2) only [x218_42, x218_43, x218_46, x218_47, x218_50, x218_51, x218_52, x218_53, x218_56, x218_59, x218_60, x218_63, x218_64, x218_67, x218_68, x218_69, x218_70, x218_71, x218_74, x218_75, x218_76, x218_79, x218_80, x218_83, x218_84, x218_85, x218_88, kb_some, kb_none, clr_vi, clr_ref, clr_null, clr_none, va_rf_some, va_rf_none, ↓bi_ite_t, ↓bi_ite_f, ↓jc_lt_t, ↓jc_lt_f, ↓jc_gt_t, ↓jc_gt_f, ↓jc_le_t, ↓jc_le_f, ↓jc_ge_t, ↓jc_ge_f, ↓jc_eq_t, ↓jc_eq_f, ↓if_pos, ↓if_neg, Int.toNat_natCast, c3]
            exact hX
          exact go _ ih'
        · rw [if_neg c3, if_neg (by omega)]
          have go : ∀ X, EE d 218 34 [some (.ref 76), some (vi v), some (vi 0), some (vi ((k : Int) + 1))] [] (SH L) J K R = X → EE d 218 34 [some (.ref 76), some (vi v), some (vi 1), some (vi k)] [] (SH L) J K R = X := by
            intro X hX
            simp (disch := first | assumption | omega | exact bi_lo | exact bi_hi | exact bi_01 | exact jcmp_lo | exact jcmp_hi | exact (jor_r _ _).1 | exact (jor_r _ _).2 | exact (jand_r _ _).1 | exact (jand_r _ _).2) only [x218_34, x218_35, x218_36, x218_39, kb_some, kb_none, clr_vi, clr_ref, clr_null, clr_none, va_rf_some, va_rf_none, ↓bi_ite_t, ↓bi_ite_f, ↓jc_lt_t, ↓jc_lt_f, ↓jc_gt_t, ↓jc_gt_f, ↓jc_le_t, ↓jc_le_f, ↓jc_ge_t, ↓jc_ge_f, ↓jc_eq_t, ↓jc_eq_f, ↓if_pos, ↓if_neg]
            simp (disch := first | assumption | omega | exact bi_lo | exact bi_hi | exact bi_01 | exact jcmp_lo | exact jcmp_hi | exact (jor_r _ _).1 | exact (jor_r _ _).2 | exact (jand_r _ _).1 | exact (jand_r _ _).2) only [x218_42, x218_43, x218_46, x218_47, x218_50, x218_51, x218_52, x218_53, x218_56, x218_59, x218_60, x218_63, x218_64, x218_67, x218_68, x218_69, x218_70, x218_71, x218_74, x218_75, x218_76, x218_79, x218_80, x218_83, x218_84, x218_85, x218_88, kb_some, kb_none, clr_vi, clr_ref, clr_null, clr_none, va_rf_some, va_rf_none, ↓bi_ite_t, ↓bi_ite_f, ↓jc_lt_t, ↓jc_lt_f, ↓jc_gt_t, ↓jc_gt_f, ↓jc_le_t, ↓jc_le_f, ↓jc_ge_t, ↓jc_ge_f, ↓jc_eq_t, ↓jc_eq_f, ↓if_pos, ↓if_neg, Int.toNat_natCast]
            exact hX
          exact go _ ih0
      · have em : gM J (J 78 k) = -1 := if_neg (fun q => c2 q.2)
        rw [em, if_neg (by omega)]
        have go : ∀ X, EE d 218 34 [some (.ref 76), some (vi v), some (vi 0), some (vi ((k : Int) + 1))] [] (SH L) J K R = X → EE d 218 34 [some (.ref 76), some (vi v), some (vi 1), some (vi k)] [] (SH L) J K R = X := by
          intro X hX
          simp (disch := first | assumption | omega | exact bi_lo | exact bi_hi | exact bi_01 | exact jcmp_lo | exact jcmp_hi | exact (jor_r _ _).1 | exact (jor_r _ _).2 | exact (jand_r _ _).1 | exact (jand_r _ _).2) only [x218_34, x218_35, x218_36, x218_39, kb_some, kb_none, clr_vi, clr_ref, clr_null, clr_none, va_rf_some, va_rf_none, ↓bi_ite_t, ↓bi_ite_f, ↓jc_lt_t, ↓jc_lt_f, ↓jc_gt_t, ↓jc_gt_f, ↓jc_le_t, ↓jc_le_f, ↓jc_ge_t, ↓jc_ge_f, ↓jc_eq_t, ↓jc_eq_f, ↓if_pos, ↓if_neg]
          simp (disch := first | assumption | omega | exact bi_lo | exact bi_hi | exact bi_01 | exact jcmp_lo | exact jcmp_hi | exact (jor_r _ _).1 | exact (jor_r _ _).2 | exact (jand_r _ _).1 | exact (jand_r _ _).2) only [x218_42, x218_43, x218_46, x218_47, x218_50, x218_51, x218_52, x218_53, x218_56, x218_59, x218_60, x218_63, x218_64, x218_67, x218_68, x218_69, x218_70, x218_71, x218_74, x218_75, x218_76, x218_79, x218_80, x218_83, x218_84, x218_85, x218_88, kb_some, kb_none, clr_vi, clr_ref, clr_null, clr_none, va_rf_some, va_rf_none, ↓bi_ite_t, ↓bi_ite_f, ↓jc_lt_t, ↓jc_lt_f, ↓jc_gt_t, ↓jc_gt_f, ↓jc_le_t, ↓jc_le_f, ↓jc_ge_t, ↓jc_ge_f, ↓jc_eq_t, ↓jc_eq_f, ↓if_pos, ↓if_neg, Int.toNat_natCast]
          exact hX
        exact go _ ih0
theorem op_fits (h : INV J K R) (hx : -2147483648 ≤ x ∧ x ≤ 2147483647) : OP L d 114 218 [some (vi x), none] [some (vi x), none, none] J K R := by
  have hR := h.1
  have s2 : (SH L)[2]? = some (10, 10) := rfl; have r2_0 : R 2 0 = some 3 := rr_lk hR rfl; have r2_1 : R 2 1 = some 15 := rr_lk hR rfl; have r2_3 : R 2 3 = some 27 := rr_lk hR rfl; have r2_4 : R 2 4 = some 29 := rr_lk hR rfl; have r2_5 : R 2 5 = some 31 := rr_lk hR rfl; have r2_6 : R 2 6 = some 46 := rr_lk hR rfl; have r2_7 : R 2 7 = some 57 := rr_lk hR rfl; have r2_8 : R 2 8 = some 60 := rr_lk hR rfl; have r2_9 : R 2 9 = some 63 := rr_lk hR rfl; have s3 : (SH L)[3]? = some (6, 4) := rfl; have r3_0 : R 3 0 = some 4 := rr_lk hR rfl; have r3_1 : R 3 1 = some 6 := rr_lk hR rfl; have r3_2 : R 3 2 = some 9 := rr_lk hR rfl; have r3_3 : R 3 3 = some 12 := rr_lk hR rfl; have s4 : (SH L)[4]? = some (0, 2) := rfl; have r4_0 : R 4 0 = some 5 := rr_lk hR rfl; have s31 : (SH L)[31]? = some (2, 5) := rfl; have r31_0 : R 31 0 = some 32 := rr_lk hR rfl; have r31_1 : R 31 1 = some 36 := rr_lk hR rfl; have s76 : (SH L)[76]? = some (11, 58) := rfl; have r76_0 : R 76 0 = some 77 := rr_lk hR rfl; have r76_3 : R 76 3 = some 78 := rr_lk hR rfl; have r76_4 : R 76 4 = some 79 := rr_lk hR rfl; have r76_6 : R 76 6 = some 80 := rr_lk hR rfl; have r76_7 : R 76 7 = some 81 := rr_lk hR rfl; have r76_9 : R 76 9 = some 82 := rr_lk hR rfl; have r76_10 : R 76 10 = some 83 := rr_lk hR rfl; have r76_12 : R 76 12 = some 84 := rr_lk hR rfl; have r76_13 : R 76 13 = some 85 := rr_lk hR rfl; have r76_19 : R 76 19 = some 86 := rr_lk hR rfl; have r76_20 : R 76 20 = some 87 := rr_lk hR rfl; have r76_21 : R 76 21 = some 88 := rr_lk hR rfl; have r76_22 : R 76 22 = some 89 := rr_lk hR rfl; have r76_24 : R 76 24 = some 90 := rr_lk hR rfl; have r76_25 : R 76 25 = some 91 := rr_lk hR rfl; have r76_26 : R 76 26 = some 92 := rr_lk hR rfl; have r76_28 : R 76 28 = some 93 := rr_lk hR rfl; have r76_29 : R 76 29 = some 94 := rr_lk hR rfl; have r76_30 : R 76 30 = some 95 := rr_lk hR rfl; have r76_31 : R 76 31 = some 96 := rr_lk hR rfl; have r76_32 : R 76 32 = some 97 := rr_lk hR rfl; have r76_36 : R 76 36 = some 98 := rr_lk hR rfl; have r76_38 : R 76 38 = some 99 := rr_lk hR rfl; have r76_39 : R 76 39 = some 100 := rr_lk hR rfl; have r76_40 : R 76 40 = some 101 := rr_lk hR rfl; have r76_41 : R 76 41 = some 102 := rr_lk hR rfl; have r76_42 : R 76 42 = some 103 := rr_lk hR rfl; have r76_47 : R 76 47 = some 104 := rr_lk hR rfl; have r76_53 : R 76 53 = some 105 := rr_lk hR rfl; have r76_54 : R 76 54 = some 106 := rr_lk hR rfl; have r76_55 : R 76 55 = some 107 := rr_lk hR rfl; have r76_56 : R 76 56 = some 108 := rr_lk hR rfl; have r76_57 : R 76 57 = some 109 := rr_lk hR rfl
  have hv := fun d J R => c_isVer (d := d) (J := J) (K := K) (R := R) (S := SH L) hx
  have hin := fun d J R => m_in (d := d) (S := SH L) (J := J) (K := K) (R := R) (x := x) (y := 1) (z := 3) (by omega) (by omega) (by omega)
  by_cases c1 : 1 ≤ x ∧ x ≤ 3
  rotate_left
  · simp only [bi_f c1] at hv hin
    refine ⟨vi (-1), J, K, R, mm_up J 76 11 0, K, R, ?_, ?_, INV_11 h⟩
    · simp (disch := first | assumption | omega | exact bi_lo | exact bi_hi | exact bi_01 | exact jcmp_lo | exact jcmp_hi | exact (jor_r _ _).1 | exact (jor_r _ _).2 | exact (jand_r _ _).1 | exact (jand_r _ _).2) only [x114_0, x114_1, x114_4, x114_7, x114_8, kb_some, kb_none, clr_vi, clr_ref, clr_null, clr_none, va_rf_some, va_rf_none, ↓bi_ite_t, ↓bi_ite_f, ↓jc_lt_t, ↓jc_lt_f, ↓jc_gt_t, ↓jc_gt_f, ↓jc_le_t, ↓jc_le_f, ↓jc_ge_t, ↓jc_ge_f, ↓jc_eq_t, ↓jc_eq_f, ↓if_pos, ↓if_neg, hv]
    · simp (disch := first | assumption | omega | exact bi_lo | exact bi_hi | exact bi_01 | exact jcmp_lo | exact jcmp_hi | exact (jor_r _ _).1 | exact (jor_r _ _).2 | exact (jand_r _ _).1 | exact (jand_r _ _).2) only [x218_0, x218_1, x218_2, x218_5, x218_6, x218_7, x218_8, x218_11, x218_14, x218_17, x218_18, kb_some, kb_none, clr_vi, clr_ref, clr_null, clr_none, va_rf_some, va_rf_none, ↓bi_ite_t, ↓bi_ite_f, ↓jc_lt_t, ↓jc_lt_f, ↓jc_gt_t, ↓jc_gt_f, ↓jc_le_t, ↓jc_le_f, ↓jc_ge_t, ↓jc_ge_f, ↓jc_eq_t, ↓jc_eq_f, ↓if_pos, ↓if_neg, hin]
  simp only [bi_t c1] at hv hin
  have a1 := h.2.1.1
  obtain ⟨J1, R1, b3, b4, b5, hm⟩ := rd_cB (L := L) (e1 := d + 8) (K := K) (INV_RB h) h.2.2.2.2.2.1.1
  rw [a1] at hm
  have hR := b3
  have s2 : (SH L)[2]? = some (10, 10) := rfl; have r2_0 : R1 2 0 = some 3 := rr_lk hR rfl; have r2_1 : R1 2 1 = some 15 := rr_lk hR rfl; have r2_3 : R1 2 3 = some 27 := rr_lk hR rfl; have r2_4 : R1 2 4 = some 29 := rr_lk hR rfl; have r2_5 : R1 2 5 = some 31 := rr_lk hR rfl; have r2_6 : R1 2 6 = some 46 := rr_lk hR rfl; have r2_7 : R1 2 7 = some 57 := rr_lk hR rfl; have r2_8 : R1 2 8 = some 60 := rr_lk hR rfl; have r2_9 : R1 2 9 = some 63 := rr_lk hR rfl; have s3 : (SH L)[3]? = some (6, 4) := rfl; have r3_0 : R1 3 0 = some 4 := rr_lk hR rfl; have r3_1 : R1 3 1 = some 6 := rr_lk hR rfl; have r3_2 : R1 3 2 = some 9 := rr_lk hR rfl; have r3_3 : R1 3 3 = some 12 := rr_lk hR rfl; have s6 : (SH L)[6]? = some (4, 3) := rfl; have r6_0 : R1 6 0 = some 7 := rr_lk hR rfl; have r6_1 : R1 6 1 = some 8 := rr_lk hR rfl; have s31 : (SH L)[31]? = some (2, 5) := rfl; have r31_0 : R1 31 0 = some 32 := rr_lk hR rfl; have r31_1 : R1 31 1 = some 36 := rr_lk hR rfl; have s36 : (SH L)[36]? = some (9, 7) := rfl; have r36_0 : R1 36 0 = some 37 := rr_lk hR rfl; have r36_1 : R1 36 1 = some 38 := rr_lk hR rfl; have r36_2 : R1 36 2 = some 39 := rr_lk hR rfl; have r36_3 : R1 36 3 = some 40 := rr_lk hR rfl; have r36_4 : R1 36 4 = some 41 := rr_lk hR rfl; have r36_5 : R1 36 5 = some 42 := rr_lk hR rfl; have s57 : (SH L)[57]? = some (3, 2) := rfl; have r57_0 : R1 57 0 = some 58 := rr_lk hR rfl; have s58 : (SH L)[58]? = some (0, 2) := rfl; have r58_0 : R1 58 0 = some 59 := rr_lk hR rfl; have s76 : (SH L)[76]? = some (11, 58) := rfl; have r76_0 : R1 76 0 = some 77 := rr_lk hR rfl; have r76_3 : R1 76 3 = some 78 := rr_lk hR rfl; have r76_4 : R1 76 4 = some 79 := rr_lk hR rfl; have r76_6 : R1 76 6 = some 80 := rr_lk hR rfl; have r76_7 : R1 76 7 = some 81 := rr_lk hR rfl; have r76_9 : R1 76 9 = some 82 := rr_lk hR rfl; have r76_10 : R1 76 10 = some 83 := rr_lk hR rfl; have r76_12 : R1 76 12 = some 84 := rr_lk hR rfl; have r76_13 : R1 76 13 = some 85 := rr_lk hR rfl; have r76_19 : R1 76 19 = some 86 := rr_lk hR rfl; have r76_20 : R1 76 20 = some 87 := rr_lk hR rfl; have r76_21 : R1 76 21 = some 88 := rr_lk hR rfl; have r76_22 : R1 76 22 = some 89 := rr_lk hR rfl; have r76_24 : R1 76 24 = some 90 := rr_lk hR rfl; have r76_25 : R1 76 25 = some 91 := rr_lk hR rfl; have r76_26 : R1 76 26 = some 92 := rr_lk hR rfl; have r76_28 : R1 76 28 = some 93 := rr_lk hR rfl; have r76_29 : R1 76 29 = some 94 := rr_lk hR rfl; have r76_30 : R1 76 30 = some 95 := rr_lk hR rfl; have r76_31 : R1 76 31 = some 96 := rr_lk hR rfl; have r76_32 : R1 76 32 = some 97 := rr_lk hR rfl; have r76_36 : R1 76 36 = some 98 := rr_lk hR rfl; have r76_38 : R1 76 38 = some 99 := rr_lk hR rfl; have r76_39 : R1 76 39 = some 100 := rr_lk hR rfl; have r76_40 : R1 76 40 = some 101 := rr_lk hR rfl; have r76_41 : R1 76 41 = some 102 := rr_lk hR rfl; have r76_42 : R1 76 42 = some 103 := rr_lk hR rfl; have r76_47 : R1 76 47 = some 104 := rr_lk hR rfl; have r76_53 : R1 76 53 = some 105 := rr_lk hR rfl; have r76_54 : R1 76 54 = some 106 := rr_lk hR rfl; have r76_55 : R1 76 55 = some 107 := rr_lk hR rfl; have r76_56 : R1 76 56 = some 108 := rr_lk hR rfl; have r76_57 : R1 76 57 = some 109 := rr_lk hR rfl
  have e58 : 0 ≤ J1 58 1 ∧ J1 58 1 ≤ 240 := by rw [b4 58 (by decide)]; exact h.2.2.2.2.2.1.2.2.2.1
  have hB : isB (SH L) R1 58 59 240 := ⟨rfl, rr_lk hR rfl, rfl, by decide, by decide, by decide⟩
  have hW1 : isW (SH L) R1 6 7 8 5 := ⟨rfl, rr_lk hR rfl, rr_lk hR rfl, rfl, rfl, by decide, by decide, by decide, by decide, by decide, by decide⟩
  cases hw : wh (mA J) (J 76 1) with
  | error q =>
    rw [hw] at hm
    obtain ⟨p1, p2, p3⟩ := hm
    have hM := INV_MR (J' := mm_up J1 76 11 0) h b3 (by rw [up_j (by decide), b4 76 (by decide)]) (by rw [up_ne (by decide), b4 77 (by decide)])
    obtain ⟨J2, m1, m2⟩ := m_made (L := L) (d := d + 13) (K := K) (v := x) hM c1 (fun F hF => by rw [up_j (by decide), b4 76 (by decide), hw] at hF; cases hF)
    rw [up_j (by decide), b4 76 (by decide), hw] at m2
    refine ⟨vi (-5), J1, K, R1, J2, K, R1, ?_, ?_, INV_31 h b3 b4 b5 (fun a j ha => (m1 a j ha).trans (up11_SC a j ha))⟩
    · simp (disch := first | assumption | omega | exact bi_lo | exact bi_hi | exact bi_01 | exact jcmp_lo | exact jcmp_hi | exact (jor_r _ _).1 | exact (jor_r _ _).2 | exact (jand_r _ _).1 | exact (jand_r _ _).2) only [x114_0, x114_1, x114_4, x114_7, x114_8, x114_9, x114_10, x114_13, x114_14, x114_17, x114_20, x114_23, x114_26, x114_28, kb_some, kb_none, clr_vi, clr_ref, clr_null, clr_none, va_rf_some, va_rf_none, ↓bi_ite_t, ↓bi_ite_f, ↓jc_lt_t, ↓jc_lt_f, ↓jc_gt_t, ↓jc_gt_f, ↓jc_le_t, ↓jc_le_f, ↓jc_ge_t, ↓jc_ge_f, ↓jc_eq_t, ↓jc_eq_f, ↓if_pos, ↓if_neg, hv, p1]
    · simp (disch := first | assumption | omega | exact bi_lo | exact bi_hi | exact bi_01 | exact jcmp_lo | exact jcmp_hi | exact (jor_r _ _).1 | exact (jor_r _ _).2 | exact (jand_r _ _).1 | exact (jand_r _ _).2) only [x218_0, x218_1, x218_2, x218_5, x218_6, x218_7, x218_8, x218_11, x218_14, x218_17, x218_18, x218_19, x218_20, x218_21, x218_24, x218_27, x218_29, kb_some, kb_none, clr_vi, clr_ref, clr_null, clr_none, va_rf_some, va_rf_none, ↓bi_ite_t, ↓bi_ite_f, ↓jc_lt_t, ↓jc_lt_f, ↓jc_gt_t, ↓jc_gt_f, ↓jc_le_t, ↓jc_le_f, ↓jc_ge_t, ↓jc_ge_f, ↓jc_eq_t, ↓jc_eq_f, ↓if_pos, ↓if_neg, hin, m2]
  | ok F =>
    rw [hw] at hm
    obtain ⟨p1, p2, ⟨p3, p4, p5⟩, p6⟩ := hm
    have hc := c_made (L := L) (K := K) (e1 := d + 9) (v := x) b3 p2 e58 b5 c1 p3 p6
    have hl := p6 (mA J) x
    have hby := byL_file (g := mA J) (v := x) (F := F) (by omega) p3 (by omega)
    obtain ⟨x1, x2, x3⟩ := made_X (v := x) h b4 b5 (l := fileL (mA J) x F) (by omega)
    have x4 : ∀ (j : Nat) (hj : j < (fileL (mA J) x F).length), apL 58 59 (wv J1 x) (fileL (mA J) x F) 59 j = (fileL (mA J) x F)[j] := fun j hj => by
      have e0 := wv_58 (v := x) e58.1
      have := apL_hi (a := 58) (b := 59) (J := wv J1 x) (l := fileL (mA J) x F) (by decide) (by omega) j hj
      rw [e0] at this
      simpa using this
    generalize hJw : apL 58 59 (wv J1 x) (fileL (mA J) x F) = Jw at *
    have hM := INV_MR (J' := mm_up Jw 76 11 0) h b3 (by rw [up_j (by decide), x2 76 (by decide)]) (by rw [up_ne (by decide), x2 77 (by decide)])
    obtain ⟨J2, m1, m2⟩ := m_made (L := L) (d := d + 13) (K := K) (v := x) hM c1 (fun F' hF => by rw [up_j (by decide), x2 76 (by decide), hw] at hF; cases hF; exact ⟨⟨p3, p4, p5⟩, p6⟩)
    rw [up_j (by decide), x2 76 (by decide), hw] at m2
    obtain ⟨m3, m4, m5⟩ := m2
    obtain ⟨⟨u1, u2, u3⟩, -⟩ := h.2.2.2.1
    have hi := INV_G h b3 x1 x2 (fun a j ha => (m1 a j ha).trans (up11_SC a j ha))
    have y6 := x2 6 (by decide)
    have y7 := x2 7 (by decide)
    have y8 := x2 8 (by decide)
    have hr : ∀ j : Nat, j < (fileL (mA J) x F).length → 0 ≤ Jw 59 j ∧ Jw 59 j ≤ 255 := fun j hj => by
      rw [x4 j hj]; exact hby _ (List.getElem_mem hj)
    have hfo := fun d => w_firstW (d := d) (J := Jw) (K := K) hW1 hB (by rw [y6]; omega) (by rw [x3]; omega) (fun i hi => by rw [y6] at hi; rw [y7]; have := u3 i (by omega); omega) (fun i hi => by rw [y6] at hi; rw [y8]; have := u3 i (by omega); omega) (fun i hi => by rw [x3] at hi; have := hr i (by omega); omega)
    have w2 : J2 76 2 = J 76 2 := by rw [m1 76 2 (by unfold SC; omega), up_j (by decide), x2 76 (by decide)]
    have w78 : J2 78 = J 78 := by
      funext j
      rw [m1 78 j (by unfold SC; omega), up_ne (by decide), x2 78 (by decide)]
    have w79 : J2 79 = J 79 := by
      funext j
      rw [m1 79 j (by unfold SC; omega), up_ne (by decide), x2 79 (by decide)]
    have h98 : ∀ (j : Nat) (hj : j < (fileL (mA J) x F).length), J2 98 j = (fileL (mA J) x F)[j] := fun j hj => by
      have := seg_at _ _ m5 j hj
      rw [Nat.zero_add] at this; exact this
    have hlm := l_fitsM (L := L) (d := d + 20) (J := J2) (K := K) (v := x) hR (by rw [w2]; exact u2) (by rw [m4]; omega) (fun i hi => by rw [w2] at hi; rw [w78, w79]; have := u3 i hi; omega) (fun i hi => by rw [m4] at hi; rw [h98 i (by omega)]; exact hby _ (List.getElem_mem (by omega))) (J2 76 2).toNat 0 1 (Or.inr rfl) rfl (by omega)
    rw [show ((0 : Nat) : Int) = 0 from rfl, w2, w78, w79] at hlm
    rw [y6, y7, y8, u1, firstO_c (g' := gM J2) (p' := J 78) (q' := J 79) (J 76 2).toNat 0 (fun j j1 j2 => by
      have := u3 j (by omega)
      refine ⟨this.1.1, this.2.1, ?_⟩
      unfold bA gM
      rw [x3, m4]
      by_cases c : 0 ≤ J 7 j ∧ J 7 j < (fileL (mA J) x F).length
      · rw [if_pos c, if_pos c, x4 _ (by omega), h98 _ (by omega)]
      · rw [if_neg c, if_neg c])] at hfo
    have hfr := firstO_r (g := gM J2) (p := J 78) (q := J 79) (J 76 2).toNat 0
    refine ⟨vi (if firstO (gM J2) (J 78) (J 79) (J 76 2).toNat 0 < 0 then 1 else 0), Jw, K, R1, J2, K, R1, ?_, ?_, hi⟩
    · generalize firstO (gM J2) (J 78) (J 79) (J 76 2).toNat 0 = o at *
      by_cases c : o < 0
      · rw [if_pos c]
        simp (disch := first | assumption | omega | exact bi_lo | exact bi_hi | exact bi_01 | exact jcmp_lo | exact jcmp_hi | exact (jor_r _ _).1 | exact (jor_r _ _).2 | exact (jand_r _ _).1 | exact (jand_r _ _).2) only [x114_0, x114_1, x114_4, x114_7, x114_8, x114_9, x114_10, x114_13, x114_14, x114_17, x114_20, x114_23, x114_26, x114_28, x114_29, x114_30, x114_33, x114_34, x114_37, x114_40, x114_41, x114_44, x114_44n, x114_45, x114_46, x114_49, x114_52, x114_52n, x114_53, x114_56, x114_59, x114_60, x114_63, x114_64, x16_0, x16_1, x16_4, x16_4n, kb_some, kb_none, clr_vi, clr_ref, clr_null, clr_none, va_rf_some, va_rf_none, ↓bi_ite_t, ↓bi_ite_f, ↓jc_lt_t, ↓jc_lt_f, ↓jc_gt_t, ↓jc_gt_f, ↓jc_le_t, ↓jc_le_f, ↓jc_ge_t, ↓jc_ge_f, ↓jc_eq_t, ↓jc_eq_f, ↓if_pos, ↓if_neg, hv, p1, hc, hfo]
      · rw [if_neg c]
        simp (disch := first | assumption | omega | exact bi_lo | exact bi_hi | exact bi_01 | exact jcmp_lo | exact jcmp_hi | exact (jor_r _ _).1 | exact (jor_r _ _).2 | exact (jand_r _ _).1 | exact (jand_r _ _).2) only [x114_0, x114_1, x114_4, x114_7, x114_8, x114_9, x114_10, x114_13, x114_14, x114_17, x114_20, x114_23, x114_26, x114_28, x114_29, x114_30, x114_33, x114_34, x114_37, x114_40, x114_41, x114_44, x114_44n, x114_45, x114_46, x114_49, x114_52, x114_52n, x114_53, x114_56, x114_59, x114_60, x114_63, x114_64, x16_0, x16_1, x16_4, x16_4n, kb_some, kb_none, clr_vi, clr_ref, clr_null, clr_none, va_rf_some, va_rf_none, ↓bi_ite_t, ↓bi_ite_f, ↓jc_lt_t, ↓jc_lt_f, ↓jc_gt_t, ↓jc_gt_f, ↓jc_le_t, ↓jc_le_f, ↓jc_ge_t, ↓jc_ge_f, ↓jc_eq_t, ↓jc_eq_f, ↓if_pos, ↓if_neg, hv, p1, hc, hfo]
    · generalize firstO (gM J2) (J 78) (J 79) (J 76 2).toNat 0 = o at *
      have e : (if (1 : Int) = 1 ∧ o < 0 then (1 : Int) else 0) = if o < 0 then 1 else 0 := by
        by_cases c : o < 0
        · rw [if_pos c, if_pos ⟨rfl, c⟩]
        · rw [if_neg c, if_neg (fun q => c q.2)]
      rw [e] at hlm
      simp (disch := first | assumption | omega | exact bi_lo | exact bi_hi | exact bi_01 | exact jcmp_lo | exact jcmp_hi | exact (jor_r _ _).1 | exact (jor_r _ _).2 | exact (jand_r _ _).1 | exact (jand_r _ _).2) only [x218_0, x218_1, x218_2, x218_5, x218_6, x218_7, x218_8, x218_11, x218_14, x218_17, x218_18, x218_19, x218_20, x218_21, x218_24, x218_27, x218_29, x218_30, x218_31, x218_32, x218_33, kb_some, kb_none, clr_vi, clr_ref, clr_null, clr_none, va_rf_some, va_rf_none, ↓bi_ite_t, ↓bi_ite_f, ↓jc_lt_t, ↓jc_lt_f, ↓jc_gt_t, ↓jc_gt_f, ↓jc_le_t, ↓jc_le_f, ↓jc_ge_t, ↓jc_ge_f, ↓jc_eq_t, ↓jc_eq_f, ↓if_pos, ↓if_neg, hin, m3]
      exact hlm
end
