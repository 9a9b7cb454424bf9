/-! the calls, one by one: shift -/
/-- items put aside, and back -/
def cp1 (K : mJ) (b k n : Nat) : mJ := fun a j => if a = 108 ∧ k ≤ j ∧ j < n then K 107 (b + j) else K a j
def cp2 (K : mJ) (b k n : Nat) : mJ := fun a j => if a = 107 ∧ b + k ≤ j ∧ j < b + n then K 108 (j - b) else K a j
section
variable {L d : Nat} {J J' J1 J2 K K' : mJ} {R R1 R' : mm_R} {x y z v w n : Int} {f : Int → Int}
theorem l_cp1 (hR : wfR R) (hx : 0 ≤ x ∧ x < 6) (hy : 0 ≤ y ∧ 0 ≤ n ∧ y + n ≤ 60) : ∀ (i k : Nat) (K : mJ) (X : Option mm_O), n.toNat - k = i → k ≤ n.toNat →
    (EE d 235 151 [some (.ref 76), some (vi x), some (vi y), some (vi z), some (vi w), some (vi n), some (vi n)] [] (SH L) J (cp1 K (60 * x.toNat + y.toNat) k n.toNat) R = X) →
    EE d 235 117 [some (.ref 76), some (vi x), some (vi y), some (vi z), some (vi w), some (vi n), some (vi k)] [] (SH L) J K R = X := by
  have s76 : (SH L)[76]? = some (11, 58) := rfl; have r76_0 : R 76 0 = some 77 := rr_lk hR rfl; have r76_3 : R 76 3 = some 78 := rr_lk hR rfl; have r76_4 : R 76 4 = some 79 := rr_lk hR rfl; have r76_6 : R 76 6 = some 80 := rr_lk hR rfl; have r76_7 : R 76 7 = some 81 := rr_lk hR rfl; have r76_9 : R 76 9 = some 82 := rr_lk hR rfl; have r76_10 : R 76 10 = some 83 := rr_lk hR rfl; have r76_12 : R 76 12 = some 84 := rr_lk hR rfl; have r76_13 : R 76 13 = some 85 := rr_lk hR rfl; have r76_19 : R 76 19 = some 86 := rr_lk hR rfl; have r76_20 : R 76 20 = some 87 := rr_lk hR rfl; have r76_21 : R 76 21 = some 88 := rr_lk hR rfl; have r76_22 : R 76 22 = some 89 := rr_lk hR rfl; have r76_24 : R 76 24 = some 90 := rr_lk hR rfl; have r76_25 : R 76 25 = some 91 := rr_lk hR rfl; have r76_26 : R 76 26 = some 92 := rr_lk hR rfl; have r76_28 : R 76 28 = some 93 := rr_lk hR rfl; have r76_29 : R 76 29 = some 94 := rr_lk hR rfl; have r76_30 : R 76 30 = some 95 := rr_lk hR rfl; have r76_31 : R 76 31 = some 96 := rr_lk hR rfl; have r76_32 : R 76 32 = some 97 := rr_lk hR rfl; have r76_36 : R 76 36 = some 98 := rr_lk hR rfl; have r76_38 : R 76 38 = some 99 := rr_lk hR rfl; have r76_39 : R 76 39 = some 100 := rr_lk hR rfl; have r76_40 : R 76 40 = some 101 := rr_lk hR rfl; have r76_41 : R 76 41 = some 102 := rr_lk hR rfl; have r76_42 : R 76 42 = some 103 := rr_lk hR rfl; have r76_47 : R 76 47 = some 104 := rr_lk hR rfl; have r76_53 : R 76 53 = some 105 := rr_lk hR rfl; have r76_54 : R 76 54 = some 106 := rr_lk hR rfl; have r76_55 : R 76 55 = some 107 := rr_lk hR rfl; have r76_56 : R 76 56 = some 108 := rr_lk hR rfl; have r76_57 : R 76 57 = some 109 := rr_lk hR rfl; have s107 : (SH L)[107]? = some (21, 360) := rfl; have s108 : (SH L)[108]? = some (21, 60) := rfl
  intro i
  induction i with
  | zero =>
    intro k K X hi hk hX
    have e : cp1 K (60 * x.toNat + y.toNat) k n.toNat = K := by
      funext a j; unfold cp1; rw [if_neg (by omega)]
    rw [e] at hX
    have ek : (k : Int) = n := by omega
    rw [ek]
    simp (disch := first | assumption | omega | exact bi_lo | exact bi_hi | exact bi_01 | exact jcmp_lo | exact jcmp_hi | exact (jor_r _ _).1 | exact (jor_r _ _).2 | exact (jand_r _ _).1 | exact (jand_r _ _).2) only [x235_117, x235_119, x235_121, kb_some, kb_none, clr_vi, clr_ref, clr_null, clr_none, va_rf_some, va_rf_none, ↓bi_ite_t, ↓bi_ite_f, ↓jc_lt_t, ↓jc_lt_f, ↓jc_gt_t, ↓jc_gt_f, ↓jc_le_t, ↓jc_le_f, ↓jc_ge_t, ↓jc_ge_f, ↓jc_eq_t, ↓jc_eq_f, ↓if_pos, ↓if_neg]
    exact hX
  | succ i ih =>
    intro k K X hi hk hX
    have e61 : (60 * x + y + (k : Int)).toNat = 60 * x.toNat + y.toNat + k := by omega
    have e : cp1 (mm_up K 108 k (K 107 (60 * x.toNat + y.toNat + k))) (60 * x.toNat + y.toNat) (k + 1) n.toNat = cp1 K (60 * x.toNat + y.toNat) k n.toNat := by
      funext a j; unfold cp1 mm_up
      by_cases ca : a = 108
      · subst ca
        by_cases cj : j = k
        · subst cj
          rw [if_neg (by omega), if_pos ⟨rfl, rfl⟩, if_pos (by omega)]
        · by_cases cj2 : k ≤ j ∧ j < n.toNat
          · rw [if_pos (by omega), if_neg (by omega), if_pos (by omega)]
          · rw [if_neg (by omega), if_neg (by omega), if_neg (by omega)]
      · rw [if_neg (by omega), if_neg (by omega), if_neg (by omega)]
    have ih' := ih (k + 1) (mm_up K 108 k (K 107 (60 * x.toNat + y.toNat + k))) X (by omega) (by omega) (by rw [e]; exact hX)
    rw [Int.natCast_succ] at ih'
    simp (disch := first | assumption | omega | exact bi_lo | exact bi_hi | exact bi_01 | exact jcmp_lo | exact jcmp_hi | exact (jor_r _ _).1 | exact (jor_r _ _).2 | exact (jand_r _ _).1 | exact (jand_r _ _).2) only [x235_117, x235_119, x235_121, kb_some, kb_none, clr_vi, clr_ref, clr_null, clr_none, va_rf_some, va_rf_none, ↓bi_ite_t, ↓bi_ite_f, ↓jc_lt_t, ↓jc_lt_f, ↓jc_gt_t, ↓jc_gt_f, ↓jc_le_t, ↓jc_le_f, ↓jc_ge_t, ↓jc_ge_f, ↓jc_eq_t, ↓jc_eq_f, ↓if_pos, ↓if_neg]
    simp (disch := first | assumption | omega | exact bi_lo | exact bi_hi | exact bi_01 | exact jcmp_lo | exact jcmp_hi | exact (jor_r _ _).1 | exact (jor_r _ _).2 | exact (jand_r _ _).1 | exact (jand_r _ _).2) only [x235_124, x235_125, x235_128, x235_130, x235_131, x235_134, x235_136, x235_137, x235_138, x235_139, x235_140, x235_142, x235_143, x235_144, x235_145, x235_148, kb_some, kb_none, clr_vi, clr_ref, clr_null, clr_none, va_rf_some, va_rf_none, ↓bi_ite_t, ↓bi_ite_f, ↓jc_lt_t, ↓jc_lt_f, ↓jc_gt_t, ↓jc_gt_f, ↓jc_le_t, ↓jc_le_f, ↓jc_ge_t, ↓jc_ge_f, ↓jc_eq_t, ↓jc_eq_f, ↓if_pos, ↓if_neg, e61]
    exact ih'
theorem l_cp2 (hR : wfR R) (hz : 0 ≤ z ∧ z < 6) (hw : 0 ≤ w ∧ 0 ≤ n ∧ w + n ≤ 60) : ∀ (i k : Nat) (K : mJ), n.toNat - k = i → k ≤ n.toNat →
    EE d 235 154 [some (.ref 76), some (vi x), some (vi y), some (vi z), some (vi w), some (vi n), some (vi k)] [] (SH L) J K R = ok (some (vi n)) (SH L) J (cp2 K (60 * z.toNat + w.toNat) k n.toNat) R := by
  have s76 : (SH L)[76]? = some (11, 58) := rfl; have r76_0 : R 76 0 = some 77 := rr_lk hR rfl; have r76_3 : R 76 3 = some 78 := rr_lk hR rfl; have r76_4 : R 76 4 = some 79 := rr_lk hR rfl; have r76_6 : R 76 6 = some 80 := rr_lk hR rfl; have r76_7 : R 76 7 = some 81 := rr_lk hR rfl; have r76_9 : R 76 9 = some 82 := rr_lk hR rfl; have r76_10 : R 76 10 = some 83 := rr_lk hR rfl; have r76_12 : R 76 12 = some 84 := rr_lk hR rfl; have r76_13 : R 76 13 = some 85 := rr_lk hR rfl; have r76_19 : R 76 19 = some 86 := rr_lk hR rfl; have r76_20 : R 76 20 = some 87 := rr_lk hR rfl; have r76_21 : R 76 21 = some 88 := rr_lk hR rfl; have r76_22 : R 76 22 = some 89 := rr_lk hR rfl; have r76_24 : R 76 24 = some 90 := rr_lk hR rfl; have r76_25 : R 76 25 = some 91 := rr_lk hR rfl; have r76_26 : R 76 26 = some 92 := rr_lk hR rfl; have r76_28 : R 76 28 = some 93 := rr_lk hR rfl; have r76_29 : R 76 29 = some 94 := rr_lk hR rfl; have r76_30 : R 76 30 = some 95 := rr_lk hR rfl; have r76_31 : R 76 31 = some 96 := rr_lk hR rfl; have r76_32 : R 76 32 = some 97 := rr_lk hR rfl; have r76_36 : R 76 36 = some 98 := rr_lk hR rfl; have r76_38 : R 76 38 = some 99 := rr_lk hR rfl; have r76_39 : R 76 39 = some 100 := rr_lk hR rfl; have r76_40 : R 76 40 = some 101 := rr_lk hR rfl; have r76_41 : R 76 41 = some 102 := rr_lk hR rfl; have r76_42 : R 76 42 = some 103 := rr_lk hR rfl; have r76_47 : R 76 47 = some 104 := rr_lk hR rfl; have r76_53 : R 76 53 = some 105 := rr_lk hR rfl; have r76_54 : R 76 54 = some 106 := rr_lk hR rfl; have r76_55 : R 76 55 = some 107 := rr_lk hR rfl; have r76_56 : R 76 56 = some 108 := rr_lk hR rfl; have r76_57 : R 76 57 = some 109 := rr_lk hR rfl; have s107 : (SH L)[107]? = some (21, 360) := rfl; have s108 : (SH L)[108]? = some (21, 60) := rfl
  intro i
  induction i with
  | zero =>
    intro k K hi hk
    have e : cp2 K (60 * z.toNat + w.toNat) k n.toNat = K := by
      funext a j; unfold cp2; rw [if_neg (by omega)]
    rw [e]
    have ek : (k : Int) = n := by omega
    rw [ek]
    simp (disch := first | assumption | omega | exact bi_lo | exact bi_hi | exact bi_01 | exact jcmp_lo | exact jcmp_hi | exact (jor_r _ _).1 | exact (jor_r _ _).2 | exact (jand_r _ _).1 | exact (jand_r _ _).2) only [x235_154, x235_156, x235_158, x235_189, x235_191, kb_some, kb_none, clr_vi, clr_ref, clr_null, clr_none, va_rf_some, va_rf_none, ↓bi_ite_t, ↓bi_ite_f, ↓jc_lt_t, ↓jc_lt_f, ↓jc_gt_t, ↓jc_gt_f, ↓jc_le_t, ↓jc_le_f, ↓jc_ge_t, ↓jc_ge_f, ↓jc_eq_t, ↓jc_eq_f, ↓if_pos, ↓if_neg]
  | succ i ih =>
    intro k K hi hk
    have e61 : (60 * z + w + (k : Int)).toNat = 60 * z.toNat + w.toNat + k := by omega
    have e : cp2 (mm_up K 107 (60 * z.toNat + w.toNat + k) (K 108 k)) (60 * z.toNat + w.toNat) (k + 1) n.toNat = cp2 K (60 * z.toNat + w.toNat) k n.toNat := by
      funext a j; unfold cp2 mm_up
      by_cases ca : a = 107
      · subst ca
        by_cases cj : j = 60 * z.toNat + w.toNat + k
        · subst cj
          rw [if_neg (by omega), if_pos ⟨rfl, rfl⟩, if_pos (by omega)]
          congr 1; omega
        · by_cases cj2 : 60 * z.toNat + w.toNat + k ≤ j ∧ j < 60 * z.toNat + w.toNat + n.toNat
          · rw [if_pos (by omega), if_neg (by omega), if_pos (by omega)]
          · rw [if_neg (by omega), if_neg (by omega), if_neg (by omega)]
      · rw [if_neg (by omega), if_neg (by omega), if_neg (by omega)]
    have ih' := ih (k + 1) (mm_up K 107 (60 * z.toNat + w.toNat + k) (K 108 k)) (by omega) (by omega)
    rw [e, Int.natCast_succ] at ih'
    have go : ∀ X, EE d 235 154 [some (.ref 76), some (vi x), some (vi y), some (vi z), some (vi w), some (vi n), some (vi ((k : Int) + 1))] [] (SH L) J (mm_up K 107 (60 * z.toNat + w.toNat + k) (K 108 k)) R = X → EE d 235 154 [some (.ref 76), some (vi x), some (vi y), some (vi z), some (vi w), some (vi n), some (vi k)] [] (SH L) J K R = X := by
      intro X hX
      simp (disch := first | assumption | omega | exact bi_lo | exact bi_hi | exact bi_01 | exact jcmp_lo | exact jcmp_hi | exact (jor_r _ _).1 | exact (jor_r _ _).2 | exact (jand_r _ _).1 | exact (jand_r _ _).2) only [x235_154, x235_156, x235_158, kb_some, kb_none, clr_vi, clr_ref, clr_null, clr_none, va_rf_some, va_rf_none, ↓bi_ite_t, ↓bi_ite_f, ↓jc_lt_t, ↓jc_lt_f, ↓jc_gt_t, ↓jc_gt_f, ↓jc_le_t, ↓jc_le_f, ↓jc_ge_t, ↓jc_ge_f, ↓jc_eq_t, ↓jc_eq_f, ↓if_pos, ↓if_neg]
      simp (disch := first | assumption | omega | exact bi_lo | exact bi_hi | exact bi_01 | exact jcmp_lo | exact jcmp_hi | exact (jor_r _ _).1 | exact (jor_r _ _).2 | exact (jand_r _ _).1 | exact (jand_r _ _).2) only [x235_161, x235_162, x235_165, x235_167, x235_168, x235_169, x235_171, x235_172, x235_174, x235_175, x235_176, x235_179, x235_181, x235_182, x235_183, x235_186, kb_some, kb_none, clr_vi, clr_ref, clr_null, clr_none, va_rf_some, va_rf_none, ↓bi_ite_t, ↓bi_ite_f, ↓jc_lt_t, ↓jc_lt_f, ↓jc_gt_t, ↓jc_gt_f, ↓jc_le_t, ↓jc_le_f, ↓jc_ge_t, ↓jc_ge_f, ↓jc_eq_t, ↓jc_eq_f, ↓if_pos, ↓if_neg, e61, Int.toNat_natCast]
      exact hX
    exact go _ ih'
/-- items of one tape to another in both -/
theorem INV_C {t u i j m : Nat} (h : INV J K R) (ht : t < 6) (hu : u < 6) (hi : (i : Int) + m ≤ J 106 t) (hj : (j : Int) + m ≤ J 106 u) :
    INV (mm_up J 76 11 0) (cp2 (cp1 (mm_rw K (65 + 2 * u) (va_cpy (K (65 + 2 * t)) (K (65 + 2 * u)) i j m)) (60 * t + i) 0 m) (60 * u + j) 0 m) R := by
  obtain ⟨h1, h2, h3, h4, h5, h6, h7⟩ := INV_11 (z := 0) h
  refine ⟨h1, h2, h3, h4, h5, h6, fun q hq => ?_⟩
  obtain ⟨a1, a2⟩ := h7 q hq
  refine ⟨a1, fun k hk => ?_⟩
  have b := a2 k hk
  have e106 : mm_up J 76 11 0 106 = J 106 := up_ne (by decide)
  obtain ⟨at1, at2⟩ := h7 t ht
  obtain ⟨au1, au2⟩ := h7 u hu
  rw [e106] at a1 a2 at1 at2 au1 au2 hk
  have hk6 : k < 60 := by omega
  have hm6 : i + m ≤ 60 := by omega
  have hm7 : j + m ≤ 60 := by omega
  have e1 : cp2 (cp1 (mm_rw K (65 + 2 * u) (va_cpy (K (65 + 2 * t)) (K (65 + 2 * u)) i j m)) (60 * t + i) 0 m) (60 * u + j) 0 m (65 + 2 * q) k = if q = u ∧ j ≤ k ∧ k < j + m then K (65 + 2 * t) (i + (k - j)) else K (65 + 2 * q) k := by
    unfold cp2 cp1 mm_rw va_cpy
    rw [if_neg (by omega), if_neg (by omega)]
    by_cases c : q = u
    · subst c
      by_cases c2 : j ≤ k ∧ k < j + m
      · rw [if_pos rfl, if_pos c2, if_pos ⟨rfl, c2⟩]
      · rw [if_pos rfl, if_neg c2, if_neg (by omega)]
    · rw [if_neg (by omega), if_neg (by omega)]
  have e2 : cp2 (cp1 (mm_rw K (65 + 2 * u) (va_cpy (K (65 + 2 * t)) (K (65 + 2 * u)) i j m)) (60 * t + i) 0 m) (60 * u + j) 0 m 107 (60 * q + k) = if q = u ∧ j ≤ k ∧ k < j + m then K 107 (60 * t + (i + (k - j))) else K 107 (60 * q + k) := by
    by_cases c : q = u ∧ j ≤ k ∧ k < j + m
    · obtain ⟨c1, c2, c3⟩ := c
      subst c1
      unfold cp2 cp1 mm_rw
      rw [if_pos (by omega), if_pos (by omega), if_neg (by omega), if_pos ⟨rfl, c2, c3⟩]
      congr 1; omega
    · unfold cp2 cp1 mm_rw
      rw [if_neg (by omega), if_neg (by omega), if_neg (by omega), if_neg c]
  rw [e1, e2]
  by_cases c : q = u ∧ j ≤ k ∧ k < j + m
  · rw [if_pos c, if_pos c]
    exact at2 _ (by omega)
  · rw [if_neg c, if_neg c]
    exact b
theorem op_shift (h : INV J K R) (hx : -2147483648 ≤ x ∧ x ≤ 2147483647) (hy : -2147483648 ≤ y ∧ y ≤ 2147483647) (hz : -2147483648 ≤ z ∧ z ≤ 2147483647) (hw : -2147483648 ≤ w ∧ w ≤ 2147483647) (hn : -2147483648 ≤ n ∧ n ≤ 2147483647) : OP L d 129 235 [some (vi x), some (vi y), some (vi z), some (vi w), some (vi n), none, none] [some (vi x), some (vi y), some (vi z), some (vi w), some (vi n), none] J K R := by
  have hR := h.1
  have s2 : (SH L)[2]? = some (10, 10) := rfl; have r2_0 : R 2 0 = some 3 := rr_lk hR rfl; have r2_1 : R 2 1 = some 15 := rr_lk hR rfl; have r2_3 : R 2 3 = some 27 := rr_lk hR rfl; have r2_4 : R 2 4 = some 29 := rr_lk hR rfl; have r2_5 : R 2 5 = some 31 := rr_lk hR rfl; have r2_6 : R 2 6 = some 46 := rr_lk hR rfl; have r2_7 : R 2 7 = some 57 := rr_lk hR rfl; have r2_8 : R 2 8 = some 60 := rr_lk hR rfl; have r2_9 : R 2 9 = some 63 := rr_lk hR rfl; have s76 : (SH L)[76]? = some (11, 58) := rfl; have r76_0 : R 76 0 = some 77 := rr_lk hR rfl; have r76_3 : R 76 3 = some 78 := rr_lk hR rfl; have r76_4 : R 76 4 = some 79 := rr_lk hR rfl; have r76_6 : R 76 6 = some 80 := rr_lk hR rfl; have r76_7 : R 76 7 = some 81 := rr_lk hR rfl; have r76_9 : R 76 9 = some 82 := rr_lk hR rfl; have r76_10 : R 76 10 = some 83 := rr_lk hR rfl; have r76_12 : R 76 12 = some 84 := rr_lk hR rfl; have r76_13 : R 76 13 = some 85 := rr_lk hR rfl; have r76_19 : R 76 19 = some 86 := rr_lk hR rfl; have r76_20 : R 76 20 = some 87 := rr_lk hR rfl; have r76_21 : R 76 21 = some 88 := rr_lk hR rfl; have r76_22 : R 76 22 = some 89 := rr_lk hR rfl; have r76_24 : R 76 24 = some 90 := rr_lk hR rfl; have r76_25 : R 76 25 = some 91 := rr_lk hR rfl; have r76_26 : R 76 26 = some 92 := rr_lk hR rfl; have r76_28 : R 76 28 = some 93 := rr_lk hR rfl; have r76_29 : R 76 29 = some 94 := rr_lk hR rfl; have r76_30 : R 76 30 = some 95 := rr_lk hR rfl; have r76_31 : R 76 31 = some 96 := rr_lk hR rfl; have r76_32 : R 76 32 = some 97 := rr_lk hR rfl; have r76_36 : R 76 36 = some 98 := rr_lk hR rfl; have r76_38 : R 76 38 = some 99 := rr_lk hR rfl; have r76_39 : R 76 39 = some 100 := rr_lk hR rfl; have r76_40 : R 76 40 = some 101 := rr_lk hR rfl; have r76_41 : R 76 41 = some 102 := rr_lk hR rfl; have r76_42 : R 76 42 = some 103 := rr_lk hR rfl; have r76_47 : R 76 47 = some 104 := rr_lk hR rfl; have r76_53 : R 76 53 = some 105 := rr_lk hR rfl; have r76_54 : R 76 54 = some 106 := rr_lk hR rfl; have r76_55 : R 76 55 = some 107 := rr_lk hR rfl; have r76_56 : R 76 56 = some 108 := rr_lk hR rfl; have r76_57 : R 76 57 = some 109 := rr_lk hR rfl; have s105 : (SH L)[105]? = some (20, 6) := rfl; have s106 : (SH L)[106]? = some (20, 6) := rfl; have s109 : (SH L)[109]? = some (22, 6) := rfl
  have hT := fun d => m_isTape (L := L) (d := d) (J := mm_up J 76 11 0) (K := K) (R := R) hx
  have hT2 := fun d => m_isTape (L := L) (d := d) (J := mm_up J 76 11 0) (K := K) (R := R) hz
  by_cases c : 0 ≤ x ∧ x < 6
  rotate_left
  · have ho := fun d => c_tapeOfN (L := L) (d := d) (J := J) (K := K) hR hx c
    simp only [bi_f (show ¬ (0 ≤ x ∧ x ≤ 5) by omega)] at hT
    refine ⟨vi (-1), J, K, R, mm_up J 76 11 0, K, R, ?_, ?_, INV_11 h⟩
    · by_cases c2 : 0 ≤ z ∧ z < 6
      · have ho2 := fun d => c_tapeOf (L := L) (d := d) (J := J) (K := K) hR c2
        simp (disch := first | assumption | omega | exact bi_lo | exact bi_hi | exact bi_01 | exact jcmp_lo | exact jcmp_hi | exact (jor_r _ _).1 | exact (jor_r _ _).2 | exact (jand_r _ _).1 | exact (jand_r _ _).2) only [x129_0, x129_1, x129_2, x129_5, x129_5n, x129_7, x129_8, x129_9, x129_12, x129_12n, x129_14, x129_14n, x129_16n, x129_16, x129_19, x129_19n, x129_21n, x129_21, x129_24, x129_25, x129_26, x129_26n, x129_28, x129_31, x129_34, x129_34n, x129_36, x129_39, x129_42, x129_44, x129_45, x129_45n, x129_47, x129_50, x129_50n, x129_52, x129_55, x129_58, x129_60, x129_61, x129_61n, x129_63, x129_64, x129_66, x129_69, x129_72, x129_72n, x129_74, x129_76, x129_78, x129_81, x129_84, x129_86, x129_87, x129_87n, x129_89, x129_89n, x129_91, x129_92, x129_94, x129_96, x129_99, x129_101, kb_some, kb_none, clr_vi, clr_ref, clr_null, clr_none, va_rf_some, va_rf_none, ↓bi_ite_t, ↓bi_ite_f, ↓jc_lt_t, ↓jc_lt_f, ↓jc_gt_t, ↓jc_gt_f, ↓jc_le_t, ↓jc_le_f, ↓jc_ge_t, ↓jc_ge_f, ↓jc_eq_t, ↓jc_eq_f, ↓if_pos, ↓if_neg, ho, ho2]
      · have ho2 := fun d => c_tapeOfN (L := L) (d := d) (J := J) (K := K) hR hz c2
        simp (disch := first | assumption | omega | exact bi_lo | exact bi_hi | exact bi_01 | exact jcmp_lo | exact jcmp_hi | exact (jor_r _ _).1 | exact (jor_r _ _).2 | exact (jand_r _ _).1 | exact (jand_r _ _).2) only [x129_0, x129_1, x129_2, x129_5, x129_5n, x129_7, x129_8, x129_9, x129_12, x129_12n, x129_14, x129_14n, x129_16n, x129_16, x129_19, x129_19n, x129_21n, x129_21, x129_24, x129_25, x129_26, x129_26n, x129_28, x129_31, x129_34, x129_34n, x129_36, x129_39, x129_42, x129_44, x129_45, x129_45n, x129_47, x129_50, x129_50n, x129_52, x129_55, x129_58, x129_60, x129_61, x129_61n, x129_63, x129_64, x129_66, x129_69, x129_72, x129_72n, x129_74, x129_76, x129_78, x129_81, x129_84, x129_86, x129_87, x129_87n, x129_89, x129_89n, x129_91, x129_92, x129_94, x129_96, x129_99, x129_101, kb_some, kb_none, clr_vi, clr_ref, clr_null, clr_none, va_rf_some, va_rf_none, ↓bi_ite_t, ↓bi_ite_f, ↓jc_lt_t, ↓jc_lt_f, ↓jc_gt_t, ↓jc_gt_f, ↓jc_le_t, ↓jc_le_f, ↓jc_ge_t, ↓jc_ge_f, ↓jc_eq_t, ↓jc_eq_f, ↓if_pos, ↓if_neg, ho, ho2]
    · simp (disch := first | assumption | omega | exact bi_lo | exact bi_hi | exact bi_01 | exact jcmp_lo | exact jcmp_hi | exact (jor_r _ _).1 | exact (jor_r _ _).2 | exact (jand_r _ _).1 | exact (jand_r _ _).2) only [x235_0, x235_1, x235_2, x235_5, x235_6, x235_7, x235_10, x235_13, x235_14, x235_15, x235_18, x235_21, x235_22, kb_some, kb_none, clr_vi, clr_ref, clr_null, clr_none, va_rf_some, va_rf_none, ↓bi_ite_t, ↓bi_ite_f, ↓jc_lt_t, ↓jc_lt_f, ↓jc_gt_t, ↓jc_gt_f, ↓jc_le_t, ↓jc_le_f, ↓jc_ge_t, ↓jc_ge_f, ↓jc_eq_t, ↓jc_eq_f, ↓if_pos, ↓if_neg, hT]
  have ho := fun d => c_tapeOf (L := L) (d := d) (J := J) (K := K) hR c
  simp only [bi_t (show 0 ≤ x ∧ x ≤ 5 by omega)] at hT
  by_cases c2 : 0 ≤ z ∧ z < 6
  rotate_left
  · have ho2 := fun d => c_tapeOfN (L := L) (d := d) (J := J) (K := K) hR hz c2
    simp only [bi_f (show ¬ (0 ≤ z ∧ z ≤ 5) by omega)] at hT2
    refine ⟨vi (-1), J, K, R, mm_up J 76 11 0, K, R, ?_, ?_, INV_11 h⟩
    · simp (disch := first | assumption | omega | exact bi_lo | exact bi_hi | exact bi_01 | exact jcmp_lo | exact jcmp_hi | exact (jor_r _ _).1 | exact (jor_r _ _).2 | exact (jand_r _ _).1 | exact (jand_r _ _).2) only [x129_0, x129_1, x129_2, x129_5, x129_5n, x129_7, x129_8, x129_9, x129_12, x129_12n, x129_14, x129_14n, x129_16n, x129_16, x129_19, x129_19n, x129_21n, x129_21, x129_24, x129_25, x129_26, x129_26n, x129_28, x129_31, x129_34, x129_34n, x129_36, x129_39, x129_42, x129_44, x129_45, x129_45n, x129_47, x129_50, x129_50n, x129_52, x129_55, x129_58, x129_60, x129_61, x129_61n, x129_63, x129_64, x129_66, x129_69, x129_72, x129_72n, x129_74, x129_76, x129_78, x129_81, x129_84, x129_86, x129_87, x129_87n, x129_89, x129_89n, x129_91, x129_92, x129_94, x129_96, x129_99, x129_101, kb_some, kb_none, clr_vi, clr_ref, clr_null, clr_none, va_rf_some, va_rf_none, ↓bi_ite_t, ↓bi_ite_f, ↓jc_lt_t, ↓jc_lt_f, ↓jc_gt_t, ↓jc_gt_f, ↓jc_le_t, ↓jc_le_f, ↓jc_ge_t, ↓jc_ge_f, ↓jc_eq_t, ↓jc_eq_f, ↓if_pos, ↓if_neg, ho, ho2]
    · simp (disch := first | assumption | omega | exact bi_lo | exact bi_hi | exact bi_01 | exact jcmp_lo | exact jcmp_hi | exact (jor_r _ _).1 | exact (jor_r _ _).2 | exact (jand_r _ _).1 | exact (jand_r _ _).2) only [x235_0, x235_1, x235_2, x235_5, x235_6, x235_7, x235_10, x235_13, x235_14, x235_15, x235_18, x235_21, x235_22, kb_some, kb_none, clr_vi, clr_ref, clr_null, clr_none, va_rf_some, va_rf_none, ↓bi_ite_t, ↓bi_ite_f, ↓jc_lt_t, ↓jc_lt_f, ↓jc_gt_t, ↓jc_gt_f, ↓jc_le_t, ↓jc_le_f, ↓jc_ge_t, ↓jc_ge_f, ↓jc_eq_t, ↓jc_eq_f, ↓if_pos, ↓if_neg, hT, hT2]
  have ho2 := fun d => c_tapeOf (L := L) (d := d) (J := J) (K := K) hR c2
  simp only [bi_t (show 0 ≤ z ∧ z ≤ 5 by omega)] at hT2
  obtain ⟨k1, k2⟩ := h.2.2.2.2.2.2 x.toNat (by omega)
  obtain ⟨m1, m2⟩ := h.2.2.2.2.2.2 z.toNat (by omega)
  have hP := (rTp (L := L) hR x.toNat (by omega)).2
  have hsP := hP.1
  have hP2 := (rTp (L := L) hR z.toNat (by omega)).2
  have hsP2 := hP2.1
  have h01 : -1 ≤ J (64 + 2 * x.toNat) 1 ∧ J (64 + 2 * x.toNat) 1 ≤ 4 := by omega
  have h02 : 0 ≤ J (64 + 2 * x.toNat) 2 ∧ J (64 + 2 * x.toNat) 2 ≤ 60 := by omega
  have h03 : -1 ≤ J (64 + 2 * z.toNat) 1 ∧ J (64 + 2 * z.toNat) 1 ≤ 4 := by omega
  have h04 : 0 ≤ J (64 + 2 * z.toNat) 2 ∧ J (64 + 2 * z.toNat) 2 ≤ 60 := by omega
  have hn1 := fun d => p_holdsNothing (d := d) (J := J) (K := K) hP h01
  have hn2 := fun d => p_holdsNothing (d := d) (J := J) (K := K) hP2 h03
  have hs1 := fun d => p_sort (d := d) (J := J) (K := K) hP
  have hs2 := fun d => p_sort (d := d) (J := J) (K := K) hP2
  have hr1 := fun d => p_reaches (d := d) (J := J) (K := K) (i := y) (n := n) hP hy hn h02
  have hr2 := fun d => p_reaches (d := d) (J := J) (K := K) (i := w) (n := n) hP2 hw hn h04
  have e105 : mm_up J 76 11 0 105 = J 105 := up_ne (by decide)
  have e106 : mm_up J 76 11 0 106 = J 106 := up_ne (by decide)
  have e109 : mm_up J 76 11 0 109 = J 109 := up_ne (by decide)
  rcases k1 with ⟨q1, q2, q3, q4⟩ | ⟨q1, q2, q3, q4, q5⟩
  · simp only [bi_t q1] at hn1
    refine ⟨vi (-11), J, K, R, mm_up J 76 11 0, K, R, ?_, ?_, INV_11 h⟩
    · simp (disch := first | assumption | omega | exact bi_lo | exact bi_hi | exact bi_01 | exact jcmp_lo | exact jcmp_hi | exact (jor_r _ _).1 | exact (jor_r _ _).2 | exact (jand_r _ _).1 | exact (jand_r _ _).2) only [x129_0, x129_1, x129_2, x129_5, x129_5n, x129_7, x129_8, x129_9, x129_12, x129_12n, x129_14, x129_14n, x129_16n, x129_16, x129_19, x129_19n, x129_21n, x129_21, x129_24, x129_25, x129_26, x129_26n, x129_28, x129_31, x129_34, x129_34n, x129_36, x129_39, x129_42, x129_44, x129_45, x129_45n, x129_47, x129_50, x129_50n, x129_52, x129_55, x129_58, x129_60, x129_61, x129_61n, x129_63, x129_64, x129_66, x129_69, x129_72, x129_72n, x129_74, x129_76, x129_78, x129_81, x129_84, x129_86, x129_87, x129_87n, x129_89, x129_89n, x129_91, x129_92, x129_94, x129_96, x129_99, x129_101, kb_some, kb_none, clr_vi, clr_ref, clr_null, clr_none, va_rf_some, va_rf_none, ↓bi_ite_t, ↓bi_ite_f, ↓jc_lt_t, ↓jc_lt_f, ↓jc_gt_t, ↓jc_gt_f, ↓jc_le_t, ↓jc_le_f, ↓jc_ge_t, ↓jc_ge_f, ↓jc_eq_t, ↓jc_eq_f, ↓if_pos, ↓if_neg, ho, ho2, hn1]
    · simp (disch := first | assumption | omega | exact bi_lo | exact bi_hi | exact bi_01 | exact jcmp_lo | exact jcmp_hi | exact (jor_r _ _).1 | exact (jor_r _ _).2 | exact (jand_r _ _).1 | exact (jand_r _ _).2) only [x235_0, x235_1, x235_2, x235_5, x235_6, x235_7, x235_10, x235_13, x235_14, x235_15, x235_18, x235_21, x235_22, x235_23, x235_24, x235_27, x235_28, x235_29, x235_32, x235_33, x235_36, x235_37, x235_38, x235_41, x235_43, kb_some, kb_none, clr_vi, clr_ref, clr_null, clr_none, va_rf_some, va_rf_none, ↓bi_ite_t, ↓bi_ite_f, ↓jc_lt_t, ↓jc_lt_f, ↓jc_gt_t, ↓jc_gt_f, ↓jc_le_t, ↓jc_le_f, ↓jc_ge_t, ↓jc_ge_f, ↓jc_eq_t, ↓jc_eq_f, ↓if_pos, ↓if_neg, hT, hT2, e109, q2]
  simp only [bi_f (show ¬ J (64 + 2 * x.toNat) 1 = -1 by omega)] at hn1
  rcases m1 with ⟨p1, p2, p3, p4⟩ | ⟨p1, p2, p3, p4, p5⟩
  · simp only [bi_t p1] at hn2
    refine ⟨vi (-11), J, K, R, mm_up J 76 11 0, K, R, ?_, ?_, INV_11 h⟩
    · simp (disch := first | assumption | omega | exact bi_lo | exact bi_hi | exact bi_01 | exact jcmp_lo | exact jcmp_hi | exact (jor_r _ _).1 | exact (jor_r _ _).2 | exact (jand_r _ _).1 | exact (jand_r _ _).2) only [x129_0, x129_1, x129_2, x129_5, x129_5n, x129_7, x129_8, x129_9, x129_12, x129_12n, x129_14, x129_14n, x129_16n, x129_16, x129_19, x129_19n, x129_21n, x129_21, x129_24, x129_25, x129_26, x129_26n, x129_28, x129_31, x129_34, x129_34n, x129_36, x129_39, x129_42, x129_44, x129_45, x129_45n, x129_47, x129_50, x129_50n, x129_52, x129_55, x129_58, x129_60, x129_61, x129_61n, x129_63, x129_64, x129_66, x129_69, x129_72, x129_72n, x129_74, x129_76, x129_78, x129_81, x129_84, x129_86, x129_87, x129_87n, x129_89, x129_89n, x129_91, x129_92, x129_94, x129_96, x129_99, x129_101, kb_some, kb_none, clr_vi, clr_ref, clr_null, clr_none, va_rf_some, va_rf_none, ↓bi_ite_t, ↓bi_ite_f, ↓jc_lt_t, ↓jc_lt_f, ↓jc_gt_t, ↓jc_gt_f, ↓jc_le_t, ↓jc_le_f, ↓jc_ge_t, ↓jc_ge_f, ↓jc_eq_t, ↓jc_eq_f, ↓if_pos, ↓if_neg, ho, ho2, hn1, hn2]
    · simp (disch := first | assumption | omega | exact bi_lo | exact bi_hi | exact bi_01 | exact jcmp_lo | exact jcmp_hi | exact (jor_r _ _).1 | exact (jor_r _ _).2 | exact (jand_r _ _).1 | exact (jand_r _ _).2) only [x235_0, x235_1, x235_2, x235_5, x235_6, x235_7, x235_10, x235_13, x235_14, x235_15, x235_18, x235_21, x235_22, x235_23, x235_24, x235_27, x235_28, x235_29, x235_32, x235_33, x235_36, x235_37, x235_38, x235_41, x235_43, kb_some, kb_none, clr_vi, clr_ref, clr_null, clr_none, va_rf_some, va_rf_none, ↓bi_ite_t, ↓bi_ite_f, ↓jc_lt_t, ↓jc_lt_f, ↓jc_gt_t, ↓jc_gt_f, ↓jc_le_t, ↓jc_le_f, ↓jc_ge_t, ↓jc_ge_f, ↓jc_eq_t, ↓jc_eq_f, ↓if_pos, ↓if_neg, hT, hT2, e109, q2, p2]
  simp only [bi_f (show ¬ J (64 + 2 * z.toNat) 1 = -1 by omega)] at hn2
  rw [← q3] at hs1 h01
  rw [← p3] at hs2 h03
  rw [q4] at h02
  rw [p4] at h04
  simp only [q4] at hr1
  simp only [p4] at hr2
  by_cases c3 : J 105 x.toNat = J 105 z.toNat
  rotate_left
  · refine ⟨vi (-12), J, K, R, mm_up J 76 11 0, K, R, ?_, ?_, INV_11 h⟩
    · simp (disch := first | assumption | omega | exact bi_lo | exact bi_hi | exact bi_01 | exact jcmp_lo | exact jcmp_hi | exact (jor_r _ _).1 | exact (jor_r _ _).2 | exact (jand_r _ _).1 | exact (jand_r _ _).2) only [x129_0, x129_1, x129_2, x129_5, x129_5n, x129_7, x129_8, x129_9, x129_12, x129_12n, x129_14, x129_14n, x129_16n, x129_16, x129_19, x129_19n, x129_21n, x129_21, x129_24, x129_25, x129_26, x129_26n, x129_28, x129_31, x129_34, x129_34n, x129_36, x129_39, x129_42, x129_44, x129_45, x129_45n, x129_47, x129_50, x129_50n, x129_52, x129_55, x129_58, x129_60, x129_61, x129_61n, x129_63, x129_64, x129_66, x129_69, x129_72, x129_72n, x129_74, x129_76, x129_78, x129_81, x129_84, x129_86, x129_87, x129_87n, x129_89, x129_89n, x129_91, x129_92, x129_94, x129_96, x129_99, x129_101, kb_some, kb_none, clr_vi, clr_ref, clr_null, clr_none, va_rf_some, va_rf_none, ↓bi_ite_t, ↓bi_ite_f, ↓jc_lt_t, ↓jc_lt_f, ↓jc_gt_t, ↓jc_gt_f, ↓jc_le_t, ↓jc_le_f, ↓jc_ge_t, ↓jc_ge_f, ↓jc_eq_t, ↓jc_eq_f, ↓if_pos, ↓if_neg, ho, ho2, hn1, hn2, hs1, hs2]
    · simp (disch := first | assumption | omega | exact bi_lo | exact bi_hi | exact bi_01 | exact jcmp_lo | exact jcmp_hi | exact (jor_r _ _).1 | exact (jor_r _ _).2 | exact (jand_r _ _).1 | exact (jand_r _ _).2) only [x235_0, x235_1, x235_2, x235_5, x235_6, x235_7, x235_10, x235_13, x235_14, x235_15, x235_18, x235_21, x235_22, x235_23, x235_24, x235_27, x235_28, x235_29, x235_32, x235_33, x235_36, x235_37, x235_38, x235_41, x235_43, x235_44, x235_45, x235_48, x235_49, x235_50, x235_51, x235_54, x235_55, x235_56, x235_59, x235_61, kb_some, kb_none, clr_vi, clr_ref, clr_null, clr_none, va_rf_some, va_rf_none, ↓bi_ite_t, ↓bi_ite_f, ↓jc_lt_t, ↓jc_lt_f, ↓jc_gt_t, ↓jc_gt_f, ↓jc_le_t, ↓jc_le_f, ↓jc_ge_t, ↓jc_ge_f, ↓jc_eq_t, ↓jc_eq_f, ↓if_pos, ↓if_neg, hT, hT2, e109, e105, q2, p2]
  by_cases c4 : 0 ≤ y ∧ 0 ≤ n ∧ y + n ≤ J 106 x.toNat
  rotate_left
  · simp only [bi_f c4] at hr1
    refine ⟨vi (-13), J, K, R, mm_up J 76 11 0, K, R, ?_, ?_, INV_11 h⟩
    · simp (disch := first | assumption | omega | exact bi_lo | exact bi_hi | exact bi_01 | exact jcmp_lo | exact jcmp_hi | exact (jor_r _ _).1 | exact (jor_r _ _).2 | exact (jand_r _ _).1 | exact (jand_r _ _).2) only [x129_0, x129_1, x129_2, x129_5, x129_5n, x129_7, x129_8, x129_9, x129_12, x129_12n, x129_14, x129_14n, x129_16n, x129_16, x129_19, x129_19n, x129_21n, x129_21, x129_24, x129_25, x129_26, x129_26n, x129_28, x129_31, x129_34, x129_34n, x129_36, x129_39, x129_42, x129_44, x129_45, x129_45n, x129_47, x129_50, x129_50n, x129_52, x129_55, x129_58, x129_60, x129_61, x129_61n, x129_63, x129_64, x129_66, x129_69, x129_72, x129_72n, x129_74, x129_76, x129_78, x129_81, x129_84, x129_86, x129_87, x129_87n, x129_89, x129_89n, x129_91, x129_92, x129_94, x129_96, x129_99, x129_101, kb_some, kb_none, clr_vi, clr_ref, clr_null, clr_none, va_rf_some, va_rf_none, ↓bi_ite_t, ↓bi_ite_f, ↓jc_lt_t, ↓jc_lt_f, ↓jc_gt_t, ↓jc_gt_f, ↓jc_le_t, ↓jc_le_f, ↓jc_ge_t, ↓jc_ge_f, ↓jc_eq_t, ↓jc_eq_f, ↓if_pos, ↓if_neg, ho, ho2, hn1, hn2, hs1, hs2, c3, hr1]
    · by_cases g1 : n < 0
      · simp (disch := first | assumption | omega | exact bi_lo | exact bi_hi | exact bi_01 | exact jcmp_lo | exact jcmp_hi | exact (jor_r _ _).1 | exact (jor_r _ _).2 | exact (jand_r _ _).1 | exact (jand_r _ _).2) only [x235_0, x235_1, x235_2, x235_5, x235_6, x235_7, x235_10, x235_13, x235_14, x235_15, x235_18, x235_21, x235_22, x235_23, x235_24, x235_27, x235_28, x235_29, x235_32, x235_33, x235_36, x235_37, x235_38, x235_41, x235_43, x235_44, x235_45, x235_48, x235_49, x235_50, x235_51, x235_54, x235_55, x235_56, x235_59, x235_61, x235_62, x235_64, x235_67, x235_68, x235_71, x235_73, x235_76, x235_77, x235_78, x235_80, x235_81, x235_82, x235_83, x235_86, x235_87, x235_88, x235_89, x235_90, x235_93, x235_95, x235_96, x235_98, x235_99, x235_100, x235_101, x235_104, x235_105, x235_106, x235_107, x235_108, x235_111, x235_113, kb_some, kb_none, clr_vi, clr_ref, clr_null, clr_none, va_rf_some, va_rf_none, ↓bi_ite_t, ↓bi_ite_f, ↓jc_lt_t, ↓jc_lt_f, ↓jc_gt_t, ↓jc_gt_f, ↓jc_le_t, ↓jc_le_f, ↓jc_ge_t, ↓jc_ge_f, ↓jc_eq_t, ↓jc_eq_f, ↓if_pos, ↓if_neg, hT, hT2, e109, e105, e106, q2, p2, c3]
      by_cases g2 : y < 0
      · simp (disch := first | assumption | omega | exact bi_lo | exact bi_hi | exact bi_01 | exact jcmp_lo | exact jcmp_hi | exact (jor_r _ _).1 | exact (jor_r _ _).2 | exact (jand_r _ _).1 | exact (jand_r _ _).2) only [x235_0, x235_1, x235_2, x235_5, x235_6, x235_7, x235_10, x235_13, x235_14, x235_15, x235_18, x235_21, x235_22, x235_23, x235_24, x235_27, x235_28, x235_29, x235_32, x235_33, x235_36, x235_37, x235_38, x235_41, x235_43, x235_44, x235_45, x235_48, x235_49, x235_50, x235_51, x235_54, x235_55, x235_56, x235_59, x235_61, x235_62, x235_64, x235_67, x235_68, x235_71, x235_73, x235_76, x235_77, x235_78, x235_80, x235_81, x235_82, x235_83, x235_86, x235_87, x235_88, x235_89, x235_90, x235_93, x235_95, x235_96, x235_98, x235_99, x235_100, x235_101, x235_104, x235_105, x235_106, x235_107, x235_108, x235_111, x235_113, kb_some, kb_none, clr_vi, clr_ref, clr_null, clr_none, va_rf_some, va_rf_none, ↓bi_ite_t, ↓bi_ite_f, ↓jc_lt_t, ↓jc_lt_f, ↓jc_gt_t, ↓jc_gt_f, ↓jc_le_t, ↓jc_le_f, ↓jc_ge_t, ↓jc_ge_f, ↓jc_eq_t, ↓jc_eq_f, ↓if_pos, ↓if_neg, hT, hT2, e109, e105, e106, q2, p2, c3]
      by_cases g3 : w < 0
      · simp (disch := first | assumption | omega | exact bi_lo | exact bi_hi | exact bi_01 | exact jcmp_lo | exact jcmp_hi | exact (jor_r _ _).1 | exact (jor_r _ _).2 | exact (jand_r _ _).1 | exact (jand_r _ _).2) only [x235_0, x235_1, x235_2, x235_5, x235_6, x235_7, x235_10, x235_13, x235_14, x235_15, x235_18, x235_21, x235_22, x235_23, x235_24, x235_27, x235_28, x235_29, x235_32, x235_33, x235_36, x235_37, x235_38, x235_41, x235_43, x235_44, x235_45, x235_48, x235_49, x235_50, x235_51, x235_54, x235_55, x235_56, x235_59, x235_61, x235_62, x235_64, x235_67, x235_68, x235_71, x235_73, x235_76, x235_77, x235_78, x235_80, x235_81, x235_82, x235_83, x235_86, x235_87, x235_88, x235_89, x235_90, x235_93, x235_95, x235_96, x235_98, x235_99, x235_100, x235_101, x235_104, x235_105, x235_106, x235_107, x235_108, x235_111, x235_113, kb_some, kb_none, clr_vi, clr_ref, clr_null, clr_none, va_rf_some, va_rf_none, ↓bi_ite_t, ↓bi_ite_f, ↓jc_lt_t, ↓jc_lt_f, ↓jc_gt_t, ↓jc_gt_f, ↓jc_le_t, ↓jc_le_f, ↓jc_ge_t, ↓jc_ge_f, ↓jc_eq_t, ↓jc_eq_f, ↓if_pos, ↓if_neg, hT, hT2, e109, e105, e106, q2, p2, c3]
      simp (disch := first | assumption | omega | exact bi_lo | exact bi_hi | exact bi_01 | exact jcmp_lo | exact jcmp_hi | exact (jor_r _ _).1 | exact (jor_r _ _).2 | exact (jand_r _ _).1 | exact (jand_r _ _).2) only [x235_0, x235_1, x235_2, x235_5, x235_6, x235_7, x235_10, x235_13, x235_14, x235_15, x235_18, x235_21, x235_22, x235_23, x235_24, x235_27, x235_28, x235_29, x235_32, x235_33, x235_36, x235_37, x235_38, x235_41, x235_43, x235_44, x235_45, x235_48, x235_49, x235_50, x235_51, x235_54, x235_55, x235_56, x235_59, x235_61, x235_62, x235_64, x235_67, x235_68, x235_71, x235_73, x235_76, x235_77, x235_78, x235_80, x235_81, x235_82, x235_83, x235_86, x235_87, x235_88, x235_89, x235_90, x235_93, x235_95, x235_96, x235_98, x235_99, x235_100, x235_101, x235_104, x235_105, x235_106, x235_107, x235_108, x235_111, x235_113, kb_some, kb_none, clr_vi, clr_ref, clr_null, clr_none, va_rf_some, va_rf_none, ↓bi_ite_t, ↓bi_ite_f, ↓jc_lt_t, ↓jc_lt_f, ↓jc_gt_t, ↓jc_gt_f, ↓jc_le_t, ↓jc_le_f, ↓jc_ge_t, ↓jc_ge_f, ↓jc_eq_t, ↓jc_eq_f, ↓if_pos, ↓if_neg, hT, hT2, e109, e105, e106, q2, p2, c3]
  simp only [bi_t c4] at hr1
  by_cases c5 : 0 ≤ w ∧ 0 ≤ n ∧ w + n ≤ J 106 z.toNat
  rotate_left
  · simp only [bi_f c5] at hr2
    refine ⟨vi (-13), J, K, R, mm_up J 76 11 0, K, R, ?_, ?_, INV_11 h⟩
    · simp (disch := first | assumption | omega | exact bi_lo | exact bi_hi | exact bi_01 | exact jcmp_lo | exact jcmp_hi | exact (jor_r _ _).1 | exact (jor_r _ _).2 | exact (jand_r _ _).1 | exact (jand_r _ _).2) only [x129_0, x129_1, x129_2, x129_5, x129_5n, x129_7, x129_8, x129_9, x129_12, x129_12n, x129_14, x129_14n, x129_16n, x129_16, x129_19, x129_19n, x129_21n, x129_21, x129_24, x129_25, x129_26, x129_26n, x129_28, x129_31, x129_34, x129_34n, x129_36, x129_39, x129_42, x129_44, x129_45, x129_45n, x129_47, x129_50, x129_50n, x129_52, x129_55, x129_58, x129_60, x129_61, x129_61n, x129_63, x129_64, x129_66, x129_69, x129_72, x129_72n, x129_74, x129_76, x129_78, x129_81, x129_84, x129_86, x129_87, x129_87n, x129_89, x129_89n, x129_91, x129_92, x129_94, x129_96, x129_99, x129_101, kb_some, kb_none, clr_vi, clr_ref, clr_null, clr_none, va_rf_some, va_rf_none, ↓bi_ite_t, ↓bi_ite_f, ↓jc_lt_t, ↓jc_lt_f, ↓jc_gt_t, ↓jc_gt_f, ↓jc_le_t, ↓jc_le_f, ↓jc_ge_t, ↓jc_ge_f, ↓jc_eq_t, ↓jc_eq_f, ↓if_pos, ↓if_neg, ho, ho2, hn1, hn2, hs1, hs2, c3, hr1, hr2]
    · by_cases g3 : w < 0
      · simp (disch := first | assumption | omega | exact bi_lo | exact bi_hi | exact bi_01 | exact jcmp_lo | exact jcmp_hi | exact (jor_r _ _).1 | exact (jor_r _ _).2 | exact (jand_r _ _).1 | exact (jand_r _ _).2) only [x235_0, x235_1, x235_2, x235_5, x235_6, x235_7, x235_10, x235_13, x235_14, x235_15, x235_18, x235_21, x235_22, x235_23, x235_24, x235_27, x235_28, x235_29, x235_32, x235_33, x235_36, x235_37, x235_38, x235_41, x235_43, x235_44, x235_45, x235_48, x235_49, x235_50, x235_51, x235_54, x235_55, x235_56, x235_59, x235_61, x235_62, x235_64, x235_67, x235_68, x235_71, x235_73, x235_76, x235_77, x235_78, x235_80, x235_81, x235_82, x235_83, x235_86, x235_87, x235_88, x235_89, x235_90, x235_93, x235_95, x235_96, x235_98, x235_99, x235_100, x235_101, x235_104, x235_105, x235_106, x235_107, x235_108, x235_111, x235_113, kb_some, kb_none, clr_vi, clr_ref, clr_null, clr_none, va_rf_some, va_rf_none, ↓bi_ite_t, ↓bi_ite_f, ↓jc_lt_t, ↓jc_lt_f, ↓jc_gt_t, ↓jc_gt_f, ↓jc_le_t, ↓jc_le_f, ↓jc_ge_t, ↓jc_ge_f, ↓jc_eq_t, ↓jc_eq_f, ↓if_pos, ↓if_neg, hT, hT2, e109, e105, e106, q2, p2, c3]
      simp (disch := first | assumption | omega | exact bi_lo | exact bi_hi | exact bi_01 | exact jcmp_lo | exact jcmp_hi | exact (jor_r _ _).1 | exact (jor_r _ _).2 | exact (jand_r _ _).1 | exact (jand_r _ _).2) only [x235_0, x235_1, x235_2, x235_5, x235_6, x235_7, x235_10, x235_13, x235_14, x235_15, x235_18, x235_21, x235_22, x235_23, x235_24, x235_27, x235_28, x235_29, x235_32, x235_33, x235_36, x235_37, x235_38, x235_41, x235_43, x235_44, x235_45, x235_48, x235_49, x235_50, x235_51, x235_54, x235_55, x235_56, x235_59, x235_61, x235_62, x235_64, x235_67, x235_68, x235_71, x235_73, x235_76, x235_77, x235_78, x235_80, x235_81, x235_82, x235_83, x235_86, x235_87, x235_88, x235_89, x235_90, x235_93, x235_95, x235_96, x235_98, x235_99, x235_100, x235_101, x235_104, x235_105, x235_106, x235_107, x235_108, x235_111, x235_113, kb_some, kb_none, clr_vi, clr_ref, clr_null, clr_none, va_rf_some, va_rf_none, ↓bi_ite_t, ↓bi_ite_f, ↓jc_lt_t, ↓jc_lt_f, ↓jc_gt_t, ↓jc_gt_f, ↓jc_le_t, ↓jc_le_f, ↓jc_ge_t, ↓jc_ge_f, ↓jc_eq_t, ↓jc_eq_f, ↓if_pos, ↓if_neg, hT, hT2, e109, e105, e106, q2, p2, c3]
  simp only [bi_t c5] at hr2
  have hcp := fun d => p_copyFrom (d := d) (J := J) (K := K) (x := y) (y := w) (n := n) hP2 hP (by rw [q4]; exact c4) (by rw [p4]; exact c5) (by rw [p4]; exact h04) (by rw [q4]; exact h02)
  have hi := INV_C (t := x.toNat) (u := z.toNat) (i := y.toNat) (j := w.toNat) (m := n.toNat) h (by omega) (by omega) (by omega) (by omega)
  refine ⟨vi n, J, mm_rw K (65 + 2 * z.toNat) (va_cpy (K (65 + 2 * x.toNat)) (K (65 + 2 * z.toNat)) y.toNat w.toNat n.toNat), R, mm_up J 76 11 0, _, R, ?_, ?_, hi⟩
  · simp (disch := first | assumption | omega | exact bi_lo | exact bi_hi | exact bi_01 | exact jcmp_lo | exact jcmp_hi | exact (jor_r _ _).1 | exact (jor_r _ _).2 | exact (jand_r _ _).1 | exact (jand_r _ _).2) only [x129_0, x129_1, x129_2, x129_5, x129_5n, x129_7, x129_8, x129_9, x129_12, x129_12n, x129_14, x129_14n, x129_16n, x129_16, x129_19, x129_19n, x129_21n, x129_21, x129_24, x129_25, x129_26, x129_26n, x129_28, x129_31, x129_34, x129_34n, x129_36, x129_39, x129_42, x129_44, x129_45, x129_45n, x129_47, x129_50, x129_50n, x129_52, x129_55, x129_58, x129_60, x129_61, x129_61n, x129_63, x129_64, x129_66, x129_69, x129_72, x129_72n, x129_74, x129_76, x129_78, x129_81, x129_84, x129_86, x129_87, x129_87n, x129_89, x129_89n, x129_91, x129_92, x129_94, x129_96, x129_99, x129_101, kb_some, kb_none, clr_vi, clr_ref, clr_null, clr_none, va_rf_some, va_rf_none, ↓bi_ite_t, ↓bi_ite_f, ↓jc_lt_t, ↓jc_lt_f, ↓jc_gt_t, ↓jc_gt_f, ↓jc_le_t, ↓jc_le_f, ↓jc_ge_t, ↓jc_ge_f, ↓jc_eq_t, ↓jc_eq_f, ↓if_pos, ↓if_neg, ho, ho2, hn1, hn2, hs1, hs2, c3, hr1, hr2, hcp]
  · generalize mm_rw K (65 + 2 * z.toNat) (va_cpy (K (65 + 2 * x.toNat)) (K (65 + 2 * z.toNat)) y.toNat w.toNat n.toNat) = K1
    have hT3 := fun d => m_isTape (L := L) (d := d) (J := mm_up J 76 11 0) (K := K1) (R := R) hx
    have hT4 := fun d => m_isTape (L := L) (d := d) (J := mm_up J 76 11 0) (K := K1) (R := R) hz
    simp only [bi_t (show 0 ≤ x ∧ x ≤ 5 by omega)] at hT3
    simp only [bi_t (show 0 ≤ z ∧ z ≤ 5 by omega)] at hT4
    have l2 := l_cp2 (L := L) (d := d + 20) (J := mm_up J 76 11 0) (x := x) (y := y) (w := w) (n := n) hR c2 (by omega) n.toNat 0 (cp1 K1 (60 * x.toNat + y.toNat) 0 n.toNat) rfl (by omega)
    have l1 := l_cp1 (L := L) (d := d + 20) (J := mm_up J 76 11 0) (x := x) (y := y) (z := z) (w := w) (n := n) hR c (by omega) n.toNat 0 K1 (ok (some (vi n)) (SH L) (mm_up J 76 11 0) (cp2 (cp1 K1 (60 * x.toNat + y.toNat) 0 n.toNat) (60 * z.toNat + w.toNat) 0 n.toNat) R) rfl (by omega) (by
      rw [show ((0 : Nat) : Int) = 0 from rfl] at l2
      simp (disch := first | assumption | omega | exact bi_lo | exact bi_hi | exact bi_01 | exact jcmp_lo | exact jcmp_hi | exact (jor_r _ _).1 | exact (jor_r _ _).2 | exact (jand_r _ _).1 | exact (jand_r _ _).2) only [x235_151, x235_152, kb_some, kb_none, clr_vi, clr_ref, clr_null, clr_none, va_rf_some, va_rf_none, ↓bi_ite_t, ↓bi_ite_f, ↓jc_lt_t, ↓jc_lt_f, ↓jc_gt_t, ↓jc_gt_f, ↓jc_le_t, ↓jc_le_f, ↓jc_ge_t, ↓jc_ge_f, ↓jc_eq_t, ↓jc_eq_f, ↓if_pos, ↓if_neg]
      exact l2)
    rw [show ((0 : Nat) : Int) = 0 from rfl] at l1
    simp (disch := first | assumption | omega | exact bi_lo | exact bi_hi | exact bi_01 | exact jcmp_lo | exact jcmp_hi | exact (jor_r _ _).1 | exact (jor_r _ _).2 | exact (jand_r _ _).1 | exact (jand_r _ _).2) only [x235_0, x235_1, x235_2, x235_5, x235_6, x235_7, x235_10, x235_13, x235_14, x235_15, x235_18, x235_21, x235_22, x235_23, x235_24, x235_27, x235_28, x235_29, x235_32, x235_33, x235_36, x235_37, x235_38, x235_41, x235_43, x235_44, x235_45, x235_48, x235_49, x235_50, x235_51, x235_54, x235_55, x235_56, x235_59, x235_61, x235_62, x235_64, x235_67, x235_68, x235_71, x235_73, x235_76, x235_77, x235_78, x235_80, x235_81, x235_82, x235_83, x235_86, x235_87, x235_88, x235_89, x235_90, x235_93, x235_95, x235_96, x235_98, x235_99, x235_100, x235_101, x235_104, x235_105, x235_106, x235_107, x235_108, x235_111, x235_113, x235_114, x235_115, kb_some, kb_none, clr_vi, clr_ref, clr_null, clr_none, va_rf_some, va_rf_none, ↓bi_ite_t, ↓bi_ite_f, ↓jc_lt_t, ↓jc_lt_f, ↓jc_gt_t, ↓jc_gt_f, ↓jc_le_t, ↓jc_le_f, ↓jc_ge_t, ↓jc_ge_f, ↓jc_eq_t, ↓jc_eq_f, ↓if_pos, ↓if_neg, hT3, hT4, e109, e105, e106, q2, p2, c3]
    exact l1
end
