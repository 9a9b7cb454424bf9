/-! the reference puts all aside, and back -/
def idx (a j : Nat) : Nat := if a = 76 then (if j = 1 then 0 else if j = 2 then 1 else if j = 5 then 2 else if j = 8 then 3 else 1000) else if a = 77 ∧ j < 120 then 4 + j else if a = 78 ∧ j < 5 then 124 + 2 * j else if a = 79 ∧ j < 5 then 125 + 2 * j else if a = 80 ∧ j < 10 then 134 + 2 * j else if a = 81 ∧ j < 10 then 135 + 2 * j else if a = 82 ∧ j < 8 then 154 + 2 * j else if a = 83 ∧ j < 8 then 155 + 2 * j else 1000
def fcA (p : Nat) : Nat := if p < 4 then 76 else if p < 124 then 77 else if p < 134 then (if p % 2 = 0 then 78 else 79) else if p < 154 then (if p % 2 = 0 then 80 else 81) else (if p % 2 = 0 then 82 else 83)
def fcJ (p : Nat) : Nat := if p = 0 then 1 else if p = 1 then 2 else if p = 2 then 5 else if p = 3 then 8 else if p < 124 then p - 4 else if p < 134 then (p - 124) / 2 else if p < 154 then (p - 134) / 2 else (p - 154) / 2
theorem idx_f {a j p : Nat} (h : idx a j = p) (hp : p < 170) : a = fcA p ∧ j = fcJ p := by
  unfold idx at h
  repeat' split at h
  all_goals (unfold fcA fcJ; constructor <;> (repeat' split) <;> omega)
theorem idx_n {a j : Nat} (h : idx a j < 170) : ¬ (a = 76 ∧ (j = 15 ∨ j = 16)) ∧ 76 ≤ a ∧ a ≤ 83 := by
  unfold idx at h
  repeat' split at h
  all_goals omega
theorem idx_X {a j : Nat} (h : a < 76 ∨ 83 < a) : idx a j = 1000 := by
  unfold idx
  repeat' split
  all_goals omega
def csJ (t : Int) (X : Nat) (J : mJ) (p : Nat) : mJ := fun a j => if a = 76 ∧ j = 15 then (p : Int) else if a = 76 ∧ j = 16 then t else if t = 1 then (if a = X ∧ j < p then J (fcA j) (fcJ j) else J a j) else (if idx a j < p then J X (idx a j) else J a j)
def cvJ (t : Int) (X : Nat) (J : mJ) (p : Nat) (z : Int) : Int := if t = 1 then z else J X p
def ccJ (t : Int) (X : Nat) (J : mJ) (p : Nat) (z : Int) : mJ := mm_up (if t = 1 then mm_up (csJ t X J p) X p z else csJ t X J p) 76 15 ((p : Int) + 1)
section
variable {L d X p : Nat} {J K : mJ} {R : mm_R} {t z : Int}
theorem cs_at {a j : Nat} (hX : X = 84 ∨ X = 85) (hi : idx a j = p) (hp : p < 170) : csJ t X J p a j = J a j := by
  have hn := idx_n (a := a) (j := j) (by omega)
  unfold csJ
  rw [if_neg (by omega), if_neg (by omega)]
  by_cases c : t = 1
  · rw [if_pos c, if_neg (by omega)]
  · rw [if_neg c, if_neg (by omega)]
theorem cc_st {a j : Nat} (hX : X = 84 ∨ X = 85) (ht : t = 0 ∨ t = 1) (hi : idx a j = p) (hp : p < 170) : mm_up (ccJ t X J p (J a j)) a j (cvJ t X J p (J a j)) = csJ t X J (p + 1) := by
  have hn := idx_n (a := a) (j := j) (by omega)
  have hf := idx_f hi hp
  funext b i
  by_cases c1 : b = a ∧ i = j
  · obtain ⟨c2, c3⟩ := c1
    subst c2; subst c3
    rw [up_s]
    unfold cvJ csJ
    rw [if_neg (show ¬ (b = 76 ∧ i = 15) by omega), if_neg (show ¬ (b = 76 ∧ i = 16) by omega)]
    by_cases c : t = 1
    · rw [if_pos c, if_pos c, if_neg (by omega)]
    · rw [if_neg c, if_neg c, if_pos (by omega), hi]
  · have e1 : mm_up (ccJ t X J p (J a j)) a j (cvJ t X J p (J a j)) b i = ccJ t X J p (J a j) b i := by
      rw [mm_up, if_neg c1]
    rw [e1]
    unfold ccJ
    by_cases c2 : b = 76 ∧ i = 15
    · obtain ⟨c3, c4⟩ := c2
      subst c3; subst c4
      rw [up_s]
      unfold csJ
      rw [if_pos ⟨rfl, rfl⟩]; omega
    · have e2 : ∀ M : mJ, mm_up M 76 15 ((p : Int) + 1) b i = M b i := fun M => by rw [mm_up, if_neg c2]
      rw [e2]
      by_cases c : t = 1
      · rw [if_pos c]
        by_cases c3 : b = X ∧ i = p
        · obtain ⟨c4, c5⟩ := c3
          subst c4; subst c5
          rw [up_s]
          unfold csJ
          rw [if_neg (by omega), if_neg (by omega), if_pos c, if_pos ⟨rfl, by omega⟩, ← hf.1, ← hf.2]
        · have e3 : ∀ M : mJ, mm_up M X p (J a j) b i = M b i := fun M => by rw [mm_up, if_neg c3]
          rw [e3]
          unfold csJ
          rw [if_neg c2, if_neg c2, if_pos c, if_pos c]
          by_cases c4 : b = 76 ∧ i = 16
          · rw [if_pos c4, if_pos c4]
          · rw [if_neg c4, if_neg c4]
            by_cases c5 : b = X ∧ i < p
            · rw [if_pos c5, if_pos (by omega)]
            · rw [if_neg c5, if_neg (by omega)]
      · rw [if_neg c]
        unfold csJ
        rw [if_neg c2, if_neg c2, if_neg c, if_neg c]
        by_cases c4 : b = 76 ∧ i = 16
        · rw [if_pos c4, if_pos c4]
        · rw [if_neg c4, if_neg c4]
          have h5 : idx b i ≠ p := fun q => by
            have := idx_f q hp
            exact c1 ⟨this.1.trans hf.1.symm, this.2.trans hf.2.symm⟩
          by_cases c5 : idx b i < p
          · rw [if_pos c5, if_pos (by omega)]
          · rw [if_neg c5, if_neg (by omega)]
theorem m_carry (hX : X = 84 ∨ X = 85) (h17 : R 76 17 = some X) (ht : t = 0 ∨ t = 1) (hp : p < 170) : EE d 140 0 [some (.ref 76), some (vi z)] [] (SH L) (csJ t X J p) K R = ok (some (vi (cvJ t X J p z))) (SH L) (ccJ t X J p z) K R := by
  have s76 : (SH L)[76]? = some (11, 58) := rfl
  have sX : (SH L)[X]? = some (20, 200) := by rcases hX with q | q <;> subst q <;> rfl
  have e15 : csJ t X J p 76 15 = p := by unfold csJ; rw [if_pos ⟨rfl, rfl⟩]
  have e16 : csJ t X J p 76 16 = t := by unfold csJ; rw [if_neg (by omega), if_pos ⟨rfl, rfl⟩]
  have e1 : ((p : Int) + 1 - 1).toNat = p := by omega
  unfold cvJ ccJ
  rcases ht with q | q
  · subst q
    have ev : mm_up (csJ 0 X J p) 76 15 ((p : Int) + 1) X p = J X p := by
      rw [up_ne (by omega)]
      unfold csJ
      rw [if_neg (by omega), if_neg (by omega), if_neg (by omega), if_neg (by rw [idx_X (by omega)]; omega)]
    rw [if_neg (by omega), if_neg (by omega)]
    simp (disch := first | assumption | omega | exact bi_lo | exact bi_hi | exact bi_01 | exact jcmp_lo | exact jcmp_hi | exact (jor_r _ _).1 | exact (jor_r _ _).2 | exact (jand_r _ _).1 | exact (jand_r _ _).2) only [x140_0, x140_1, x140_4, x140_7, x140_8, x140_11, x140_12, x140_15, x140_16, x140_17, x140_18, x140_19, x140_22, x140_23, x140_24, x140_27, x140_28, x140_31, x140_32, x140_35, x140_36, x140_37, x140_38, kb_some, kb_none, clr_vi, clr_ref, clr_null, clr_none, va_rf_some, va_rf_none, ↓bi_ite_t, ↓bi_ite_f, ↓jc_lt_t, ↓jc_lt_f, ↓jc_gt_t, ↓jc_gt_f, ↓jc_le_t, ↓jc_le_f, ↓jc_ge_t, ↓jc_ge_f, ↓jc_eq_t, ↓jc_eq_f, ↓if_pos, ↓if_neg, e15, e16, h17, up_s, e1, ev]
  · subst q
    have ev : mm_up (mm_up (csJ 1 X J p) X p z) 76 15 ((p : Int) + 1) X p = z := by
      rw [up_ne (by omega), up_s]
    have e15' : mm_up (csJ 1 X J p) X p z 76 15 = p := by rw [up_ne (by omega)]; exact e15
    rw [if_pos rfl, if_pos rfl]
    simp (disch := first | assumption | omega | exact bi_lo | exact bi_hi | exact bi_01 | exact jcmp_lo | exact jcmp_hi | exact (jor_r _ _).1 | exact (jor_r _ _).2 | exact (jand_r _ _).1 | exact (jand_r _ _).2) only [x140_0, x140_1, x140_4, x140_7, x140_8, x140_11, x140_12, x140_15, x140_16, x140_17, x140_18, x140_19, x140_22, x140_23, x140_24, x140_27, x140_28, x140_31, x140_32, x140_35, x140_36, x140_37, x140_38, kb_some, kb_none, clr_vi, clr_ref, clr_null, clr_none, va_rf_some, va_rf_none, ↓bi_ite_t, ↓bi_ite_f, ↓jc_lt_t, ↓jc_lt_f, ↓jc_gt_t, ↓jc_gt_f, ↓jc_le_t, ↓jc_le_f, ↓jc_ge_t, ↓jc_ge_f, ↓jc_eq_t, ↓jc_eq_f, ↓if_pos, ↓if_neg, e15, e16, h17, up_s, e1, ev, e15', Int.toNat_natCast]
theorem l_cr1 (hR : wfR R) (hX : X = 84 ∨ X = 85) (h17 : R 76 17 = some X) (ht : t = 0 ∨ t = 1) : ∀ (i k : Nat), 120 - k = i → k ≤ 120 → EE (d + 1) 141 65 [some (.ref 76), some (.ref X), some (vi t), some (vi k)] [] (SH L) (csJ t X J (4 + k)) K R = EE (d + 1) 141 93 [some (.ref 76), some (.ref X), some (vi t), some (vi 120)] [] (SH L) (csJ t X J 124) K R := by
  have s76 : (SH L)[76]? = some (11, 58) := rfl; have r76_0 : R 76 0 = some 77 := rr_lk hR rfl; have r76_3 : R 76 3 = some 78 := rr_lk hR rfl; have r76_4 : R 76 4 = some 79 := rr_lk hR rfl; have r76_6 : R 76 6 = some 80 := rr_lk hR rfl; have r76_7 : R 76 7 = some 81 := rr_lk hR rfl; have r76_9 : R 76 9 = some 82 := rr_lk hR rfl; have r76_10 : R 76 10 = some 83 := rr_lk hR rfl; have r76_12 : R 76 12 = some 84 := rr_lk hR rfl; have r76_13 : R 76 13 = some 85 := rr_lk hR rfl; have r76_19 : R 76 19 = some 86 := rr_lk hR rfl; have r76_20 : R 76 20 = some 87 := rr_lk hR rfl; have r76_21 : R 76 21 = some 88 := rr_lk hR rfl; have r76_22 : R 76 22 = some 89 := rr_lk hR rfl; have r76_24 : R 76 24 = some 90 := rr_lk hR rfl; have r76_25 : R 76 25 = some 91 := rr_lk hR rfl; have r76_26 : R 76 26 = some 92 := rr_lk hR rfl; have r76_28 : R 76 28 = some 93 := rr_lk hR rfl; have r76_29 : R 76 29 = some 94 := rr_lk hR rfl; have r76_30 : R 76 30 = some 95 := rr_lk hR rfl; have r76_31 : R 76 31 = some 96 := rr_lk hR rfl; have r76_32 : R 76 32 = some 97 := rr_lk hR rfl; have r76_36 : R 76 36 = some 98 := rr_lk hR rfl; have r76_38 : R 76 38 = some 99 := rr_lk hR rfl; have r76_39 : R 76 39 = some 100 := rr_lk hR rfl; have r76_40 : R 76 40 = some 101 := rr_lk hR rfl; have r76_41 : R 76 41 = some 102 := rr_lk hR rfl; have r76_42 : R 76 42 = some 103 := rr_lk hR rfl; have r76_47 : R 76 47 = some 104 := rr_lk hR rfl; have r76_53 : R 76 53 = some 105 := rr_lk hR rfl; have r76_54 : R 76 54 = some 106 := rr_lk hR rfl; have r76_55 : R 76 55 = some 107 := rr_lk hR rfl; have r76_56 : R 76 56 = some 108 := rr_lk hR rfl; have r76_57 : R 76 57 = some 109 := rr_lk hR rfl; have s77 : (SH L)[77]? = some (20, 120) := rfl
  intro i
  induction i with
  | zero =>
    intro k hi hk
    have e : k = 120 := by omega
    subst e
    rw [show ((120 : Nat) : Int) = 120 from rfl]
    simp (disch := first | assumption | omega | exact bi_lo | exact bi_hi | exact bi_01 | exact jcmp_lo | exact jcmp_hi | exact (jor_r _ _).1 | exact (jor_r _ _).2 | exact (jand_r _ _).1 | exact (jand_r _ _).2) only [x141_65, x141_66, x141_68, kb_some, kb_none, clr_vi, clr_ref, clr_null, clr_none, va_rf_some, va_rf_none, ↓bi_ite_t, ↓bi_ite_f, ↓jc_lt_t, ↓jc_lt_f, ↓jc_gt_t, ↓jc_gt_f, ↓jc_le_t, ↓jc_le_f, ↓jc_ge_t, ↓jc_ge_f, ↓jc_eq_t, ↓jc_eq_f, ↓if_pos, ↓if_neg]
  | succ i ih =>
    intro k hi hk
    have ih' := ih (k + 1) (by omega) (by omega)
    rw [show 4 + (k + 1) = 4 + k + 1 by omega, Int.natCast_succ] at ih'
    have i1 : idx 77 k = 4 + k := by
      unfold idx
      rw [if_neg (by omega), if_pos ⟨rfl, by omega⟩]
    have c1 := fun d => m_carry (L := L) (d := d) (J := J) (K := K) (z := J 77 k) hX h17 ht (p := 4 + k) (by omega)
    have s1 := cc_st (J := J) hX ht i1 (by omega)
    have a1 := cs_at (J := J) (t := t) hX i1 (by omega)
    have go : ∀ Y, EE (d + 1) 141 65 [some (.ref 76), some (.ref X), some (vi t), some (vi ((k : Int) + 1))] [] (SH L) (csJ t X J (4 + k + 1)) K R = Y → EE (d + 1) 141 65 [some (.ref 76), some (.ref X), some (vi t), some (vi k)] [] (SH L) (csJ t X J (4 + k)) K R = Y := by
      intro Y hY
      simp (disch := first | assumption | omega | exact bi_lo | exact bi_hi | exact bi_01 | exact jcmp_lo | exact jcmp_hi | exact (jor_r _ _).1 | exact (jor_r _ _).2 | exact (jand_r _ _).1 | exact (jand_r _ _).2) only [x141_65, x141_66, x141_68, kb_some, kb_none, clr_vi, clr_ref, clr_null, clr_none, va_rf_some, va_rf_none, ↓bi_ite_t, ↓bi_ite_f, ↓jc_lt_t, ↓jc_lt_f, ↓jc_gt_t, ↓jc_gt_f, ↓jc_le_t, ↓jc_le_f, ↓jc_ge_t, ↓jc_ge_f, ↓jc_eq_t, ↓jc_eq_f, ↓if_pos, ↓if_neg]
      simp (disch := first | assumption | omega | exact bi_lo | exact bi_hi | exact bi_01 | exact jcmp_lo | exact jcmp_hi | exact (jor_r _ _).1 | exact (jor_r _ _).2 | exact (jand_r _ _).1 | exact (jand_r _ _).2) only [x141_71, x141_72, x141_75, x141_76, x141_77, x141_78, x141_81, x141_82, x141_83, x141_86, x141_87, x141_90, kb_some, kb_none, clr_vi, clr_ref, clr_null, clr_none, va_rf_some, va_rf_none, ↓bi_ite_t, ↓bi_ite_f, ↓jc_lt_t, ↓jc_lt_f, ↓jc_gt_t, ↓jc_gt_f, ↓jc_le_t, ↓jc_le_f, ↓jc_ge_t, ↓jc_ge_f, ↓jc_eq_t, ↓jc_eq_f, ↓if_pos, ↓if_neg, Int.toNat_natCast, a1, c1, s1]
      exact hY
    exact go _ ih'
theorem l_cr2 (hR : wfR R) (hX : X = 84 ∨ X = 85) (h17 : R 76 17 = some X) (ht : t = 0 ∨ t = 1) : ∀ (i k : Nat), 5 - k = i → k ≤ 5 → EE (d + 1) 141 95 [some (.ref 76), some (.ref X), some (vi t), some (vi k)] [] (SH L) (csJ t X J (124 + 2 * k)) K R = EE (d + 1) 141 138 [some (.ref 76), some (.ref X), some (vi t), some (vi 5)] [] (SH L) (csJ t X J 134) K R := by
  have s76 : (SH L)[76]? = some (11, 58) := rfl; have r76_0 : R 76 0 = some 77 := rr_lk hR rfl; have r76_3 : R 76 3 = some 78 := rr_lk hR rfl; have r76_4 : R 76 4 = some 79 := rr_lk hR rfl; have r76_6 : R 76 6 = some 80 := rr_lk hR rfl; have r76_7 : R 76 7 = some 81 := rr_lk hR rfl; have r76_9 : R 76 9 = some 82 := rr_lk hR rfl; have r76_10 : R 76 10 = some 83 := rr_lk hR rfl; have r76_12 : R 76 12 = some 84 := rr_lk hR rfl; have r76_13 : R 76 13 = some 85 := rr_lk hR rfl; have r76_19 : R 76 19 = some 86 := rr_lk hR rfl; have r76_20 : R 76 20 = some 87 := rr_lk hR rfl; have r76_21 : R 76 21 = some 88 := rr_lk hR rfl; have r76_22 : R 76 22 = some 89 := rr_lk hR rfl; have r76_24 : R 76 24 = some 90 := rr_lk hR rfl; have r76_25 : R 76 25 = some 91 := rr_lk hR rfl; have r76_26 : R 76 26 = some 92 := rr_lk hR rfl; have r76_28 : R 76 28 = some 93 := rr_lk hR rfl; have r76_29 : R 76 29 = some 94 := rr_lk hR rfl; have r76_30 : R 76 30 = some 95 := rr_lk hR rfl; have r76_31 : R 76 31 = some 96 := rr_lk hR rfl; have r76_32 : R 76 32 = some 97 := rr_lk hR rfl; have r76_36 : R 76 36 = some 98 := rr_lk hR rfl; have r76_38 : R 76 38 = some 99 := rr_lk hR rfl; have r76_39 : R 76 39 = some 100 := rr_lk hR rfl; have r76_40 : R 76 40 = some 101 := rr_lk hR rfl; have r76_41 : R 76 41 = some 102 := rr_lk hR rfl; have r76_42 : R 76 42 = some 103 := rr_lk hR rfl; have r76_47 : R 76 47 = some 104 := rr_lk hR rfl; have r76_53 : R 76 53 = some 105 := rr_lk hR rfl; have r76_54 : R 76 54 = some 106 := rr_lk hR rfl; have r76_55 : R 76 55 = some 107 := rr_lk hR rfl; have r76_56 : R 76 56 = some 108 := rr_lk hR rfl; have r76_57 : R 76 57 = some 109 := rr_lk hR rfl; have s78 : (SH L)[78]? = some (20, 5) := rfl; have s79 : (SH L)[79]? = some (20, 5) := rfl
  intro i
  induction i with
  | zero =>
    intro k hi hk
    have e : k = 5 := by omega
    subst e
    rw [show ((5 : Nat) : Int) = 5 from rfl]
    simp (disch := first | assumption | omega | exact bi_lo | exact bi_hi | exact bi_01 | exact jcmp_lo | exact jcmp_hi | exact (jor_r _ _).1 | exact (jor_r _ _).2 | exact (jand_r _ _).1 | exact (jand_r _ _).2) only [x141_95, x141_96, x141_97, kb_some, kb_none, clr_vi, clr_ref, clr_null, clr_none, va_rf_some, va_rf_none, ↓bi_ite_t, ↓bi_ite_f, ↓jc_lt_t, ↓jc_lt_f, ↓jc_gt_t, ↓jc_gt_f, ↓jc_le_t, ↓jc_le_f, ↓jc_ge_t, ↓jc_ge_f, ↓jc_eq_t, ↓jc_eq_f, ↓if_pos, ↓if_neg]
  | succ i ih =>
    intro k hi hk
    have ih' := ih (k + 1) (by omega) (by omega)
    rw [show 124 + 2 * (k + 1) = 124 + 2 * k + 1 + 1 by omega, Int.natCast_succ] at ih'
    have i1 : idx 78 k = 124 + 2 * k := by
      unfold idx
      rw [if_neg (by omega), if_neg (by omega), if_pos ⟨rfl, by omega⟩]
    have i2 : idx 79 k = 124 + 2 * k + 1 := by
      unfold idx
      rw [if_neg (by omega), if_neg (by omega), if_neg (by omega), if_pos ⟨rfl, by omega⟩]
      omega
    have c1 := fun d => m_carry (L := L) (d := d) (J := J) (K := K) (z := J 78 k) hX h17 ht (p := 124 + 2 * k) (by omega)
    have c2 := fun d => m_carry (L := L) (d := d) (J := J) (K := K) (z := J 79 k) hX h17 ht (p := 124 + 2 * k + 1) (by omega)
    have s1 := cc_st (J := J) hX ht i1 (by omega)
    have s2 := cc_st (J := J) hX ht i2 (by omega)
    have a1 := cs_at (J := J) (t := t) hX i1 (by omega)
    have a2 := cs_at (J := J) (t := t) hX i2 (by omega)
    have go : ∀ Y, EE (d + 1) 141 95 [some (.ref 76), some (.ref X), some (vi t), some (vi ((k : Int) + 1))] [] (SH L) (csJ t X J (124 + 2 * k + 1 + 1)) K R = Y → EE (d + 1) 141 95 [some (.ref 76), some (.ref X), some (vi t), some (vi k)] [] (SH L) (csJ t X J (124 + 2 * k)) K R = Y := by
      intro Y hY
      simp (disch := first | assumption | omega | exact bi_lo | exact bi_hi | exact bi_01 | exact jcmp_lo | exact jcmp_hi | exact (jor_r _ _).1 | exact (jor_r _ _).2 | exact (jand_r _ _).1 | exact (jand_r _ _).2) only [x141_95, x141_96, x141_97, kb_some, kb_none, clr_vi, clr_ref, clr_null, clr_none, va_rf_some, va_rf_none, ↓bi_ite_t, ↓bi_ite_f, ↓jc_lt_t, ↓jc_lt_f, ↓jc_gt_t, ↓jc_gt_f, ↓jc_le_t, ↓jc_le_f, ↓jc_ge_t, ↓jc_ge_f, ↓jc_eq_t, ↓jc_eq_f, ↓if_pos, ↓if_neg]
      simp (disch := first | assumption | omega | exact bi_lo | exact bi_hi | exact bi_01 | exact jcmp_lo | exact jcmp_hi | exact (jor_r _ _).1 | exact (jor_r _ _).2 | exact (jand_r _ _).1 | exact (jand_r _ _).2) only [x141_100, x141_101, x141_104, x141_105, x141_106, x141_107, x141_110, x141_111, x141_112, x141_115, x141_116, x141_117, x141_120, x141_121, x141_122, x141_123, x141_126, x141_127, x141_128, x141_131, x141_132, x141_135, kb_some, kb_none, clr_vi, clr_ref, clr_null, clr_none, va_rf_some, va_rf_none, ↓bi_ite_t, ↓bi_ite_f, ↓jc_lt_t, ↓jc_lt_f, ↓jc_gt_t, ↓jc_gt_f, ↓jc_le_t, ↓jc_le_f, ↓jc_ge_t, ↓jc_ge_f, ↓jc_eq_t, ↓jc_eq_f, ↓if_pos, ↓if_neg, Int.toNat_natCast, a1, c1, s1, a2, c2, s2]
      exact hY
    exact go _ ih'
theorem l_cr3 (hR : wfR R) (hX : X = 84 ∨ X = 85) (h17 : R 76 17 = some X) (ht : t = 0 ∨ t = 1) : ∀ (i k : Nat), 10 - k = i → k ≤ 10 → EE (d + 1) 141 140 [some (.ref 76), some (.ref X), some (vi t), some (vi k)] [] (SH L) (csJ t X J (134 + 2 * k)) K R = EE (d + 1) 141 184 [some (.ref 76), some (.ref X), some (vi t), some (vi 10)] [] (SH L) (csJ t X J 154) K R := by
  have s76 : (SH L)[76]? = some (11, 58) := rfl; have r76_0 : R 76 0 = some 77 := rr_lk hR rfl; have r76_3 : R 76 3 = some 78 := rr_lk hR rfl; have r76_4 : R 76 4 = some 79 := rr_lk hR rfl; have r76_6 : R 76 6 = some 80 := rr_lk hR rfl; have r76_7 : R 76 7 = some 81 := rr_lk hR rfl; have r76_9 : R 76 9 = some 82 := rr_lk hR rfl; have r76_10 : R 76 10 = some 83 := rr_lk hR rfl; have r76_12 : R 76 12 = some 84 := rr_lk hR rfl; have r76_13 : R 76 13 = some 85 := rr_lk hR rfl; have r76_19 : R 76 19 = some 86 := rr_lk hR rfl; have r76_20 : R 76 20 = some 87 := rr_lk hR rfl; have r76_21 : R 76 21 = some 88 := rr_lk hR rfl; have r76_22 : R 76 22 = some 89 := rr_lk hR rfl; have r76_24 : R 76 24 = some 90 := rr_lk hR rfl; have r76_25 : R 76 25 = some 91 := rr_lk hR rfl; have r76_26 : R 76 26 = some 92 := rr_lk hR rfl; have r76_28 : R 76 28 = some 93 := rr_lk hR rfl; have r76_29 : R 76 29 = some 94 := rr_lk hR rfl; have r76_30 : R 76 30 = some 95 := rr_lk hR rfl; have r76_31 : R 76 31 = some 96 := rr_lk hR rfl; have r76_32 : R 76 32 = some 97 := rr_lk hR rfl; have r76_36 : R 76 36 = some 98 := rr_lk hR rfl; have r76_38 : R 76 38 = some 99 := rr_lk hR rfl; have r76_39 : R 76 39 = some 100 := rr_lk hR rfl; have r76_40 : R 76 40 = some 101 := rr_lk hR rfl; have r76_41 : R 76 41 = some 102 := rr_lk hR rfl; have r76_42 : R 76 42 = some 103 := rr_lk hR rfl; have r76_47 : R 76 47 = some 104 := rr_lk hR rfl; have r76_53 : R 76 53 = some 105 := rr_lk hR rfl; have r76_54 : R 76 54 = some 106 := rr_lk hR rfl; have r76_55 : R 76 55 = some 107 := rr_lk hR rfl; have r76_56 : R 76 56 = some 108 := rr_lk hR rfl; have r76_57 : R 76 57 = some 109 := rr_lk hR rfl; have s80 : (SH L)[80]? = some (20, 10) := rfl; have s81 : (SH L)[81]? = some (20, 10) := rfl
  intro i
  induction i with
  | zero =>
    intro k hi hk
    have e : k = 10 := by omega
    subst e
    rw [show ((10 : Nat) : Int) = 10 from rfl]
    simp (disch := first | assumption | omega | exact bi_lo | exact bi_hi | exact bi_01 | exact jcmp_lo | exact jcmp_hi | exact (jor_r _ _).1 | exact (jor_r _ _).2 | exact (jand_r _ _).1 | exact (jand_r _ _).2) only [x141_140, x141_141, x141_143, kb_some, kb_none, clr_vi, clr_ref, clr_null, clr_none, va_rf_some, va_rf_none, ↓bi_ite_t, ↓bi_ite_f, ↓jc_lt_t, ↓jc_lt_f, ↓jc_gt_t, ↓jc_gt_f, ↓jc_le_t, ↓jc_le_f, ↓jc_ge_t, ↓jc_ge_f, ↓jc_eq_t, ↓jc_eq_f, ↓if_pos, ↓if_neg]
  | succ i ih =>
    intro k hi hk
    have ih' := ih (k + 1) (by omega) (by omega)
    rw [show 134 + 2 * (k + 1) = 134 + 2 * k + 1 + 1 by omega, Int.natCast_succ] at ih'
    have i1 : idx 80 k = 134 + 2 * k := by
      unfold idx
      rw [if_neg (by omega), if_neg (by omega), if_neg (by omega), if_neg (by omega), if_pos ⟨rfl, by omega⟩]
    have i2 : idx 81 k = 134 + 2 * k + 1 := by
      unfold idx
      rw [if_neg (by omega), if_neg (by omega), if_neg (by omega), if_neg (by omega), if_neg (by omega), if_pos ⟨rfl, by omega⟩]
      omega
    have c1 := fun d => m_carry (L := L) (d := d) (J := J) (K := K) (z := J 80 k) hX h17 ht (p := 134 + 2 * k) (by omega)
    have c2 := fun d => m_carry (L := L) (d := d) (J := J) (K := K) (z := J 81 k) hX h17 ht (p := 134 + 2 * k + 1) (by omega)
    have s1 := cc_st (J := J) hX ht i1 (by omega)
    have s2 := cc_st (J := J) hX ht i2 (by omega)
    have a1 := cs_at (J := J) (t := t) hX i1 (by omega)
    have a2 := cs_at (J := J) (t := t) hX i2 (by omega)
    have go : ∀ Y, EE (d + 1) 141 140 [some (.ref 76), some (.ref X), some (vi t), some (vi ((k : Int) + 1))] [] (SH L) (csJ t X J (134 + 2 * k + 1 + 1)) K R = Y → EE (d + 1) 141 140 [some (.ref 76), some (.ref X), some (vi t), some (vi k)] [] (SH L) (csJ t X J (134 + 2 * k)) K R = Y := by
      intro Y hY
      simp (disch := first | assumption | omega | exact bi_lo | exact bi_hi | exact bi_01 | exact jcmp_lo | exact jcmp_hi | exact (jor_r _ _).1 | exact (jor_r _ _).2 | exact (jand_r _ _).1 | exact (jand_r _ _).2) only [x141_140, x141_141, x141_143, kb_some, kb_none, clr_vi, clr_ref, clr_null, clr_none, va_rf_some, va_rf_none, ↓bi_ite_t, ↓bi_ite_f, ↓jc_lt_t, ↓jc_lt_f, ↓jc_gt_t, ↓jc_gt_f, ↓jc_le_t, ↓jc_le_f, ↓jc_ge_t, ↓jc_ge_f, ↓jc_eq_t, ↓jc_eq_f, ↓if_pos, ↓if_neg]
      simp (disch := first | assumption | omega | exact bi_lo | exact bi_hi | exact bi_01 | exact jcmp_lo | exact jcmp_hi | exact (jor_r _ _).1 | exact (jor_r _ _).2 | exact (jand_r _ _).1 | exact (jand_r _ _).2) only [x141_146, x141_147, x141_150, x141_151, x141_152, x141_153, x141_156, x141_157, x141_158, x141_161, x141_162, x141_163, x141_166, x141_167, x141_168, x141_169, x141_172, x141_173, x141_174, x141_177, x141_178, x141_181, kb_some, kb_none, clr_vi, clr_ref, clr_null, clr_none, va_rf_some, va_rf_none, ↓bi_ite_t, ↓bi_ite_f, ↓jc_lt_t, ↓jc_lt_f, ↓jc_gt_t, ↓jc_gt_f, ↓jc_le_t, ↓jc_le_f, ↓jc_ge_t, ↓jc_ge_f, ↓jc_eq_t, ↓jc_eq_f, ↓if_pos, ↓if_neg, Int.toNat_natCast, a1, c1, s1, a2, c2, s2]
      exact hY
    exact go _ ih'
theorem l_cr4 (hR : wfR R) (hX : X = 84 ∨ X = 85) (h17 : R 76 17 = some X) (ht : t = 0 ∨ t = 1) : ∀ (i k : Nat), 8 - k = i → k ≤ 8 → EE (d + 1) 141 186 [some (.ref 76), some (.ref X), some (vi t), some (vi k)] [] (SH L) (csJ t X J (154 + 2 * k)) K R = EE (d + 1) 141 230 [some (.ref 76), some (.ref X), some (vi t), some (vi 8)] [] (SH L) (csJ t X J 170) K R := by
  have s76 : (SH L)[76]? = some (11, 58) := rfl; have r76_0 : R 76 0 = some 77 := rr_lk hR rfl; have r76_3 : R 76 3 = some 78 := rr_lk hR rfl; have r76_4 : R 76 4 = some 79 := rr_lk hR rfl; have r76_6 : R 76 6 = some 80 := rr_lk hR rfl; have r76_7 : R 76 7 = some 81 := rr_lk hR rfl; have r76_9 : R 76 9 = some 82 := rr_lk hR rfl; have r76_10 : R 76 10 = some 83 := rr_lk hR rfl; have r76_12 : R 76 12 = some 84 := rr_lk hR rfl; have r76_13 : R 76 13 = some 85 := rr_lk hR rfl; have r76_19 : R 76 19 = some 86 := rr_lk hR rfl; have r76_20 : R 76 20 = some 87 := rr_lk hR rfl; have r76_21 : R 76 21 = some 88 := rr_lk hR rfl; have r76_22 : R 76 22 = some 89 := rr_lk hR rfl; have r76_24 : R 76 24 = some 90 := rr_lk hR rfl; have r76_25 : R 76 25 = some 91 := rr_lk hR rfl; have r76_26 : R 76 26 = some 92 := rr_lk hR rfl; have r76_28 : R 76 28 = some 93 := rr_lk hR rfl; have r76_29 : R 76 29 = some 94 := rr_lk hR rfl; have r76_30 : R 76 30 = some 95 := rr_lk hR rfl; have r76_31 : R 76 31 = some 96 := rr_lk hR rfl; have r76_32 : R 76 32 = some 97 := rr_lk hR rfl; have r76_36 : R 76 36 = some 98 := rr_lk hR rfl; have r76_38 : R 76 38 = some 99 := rr_lk hR rfl; have r76_39 : R 76 39 = some 100 := rr_lk hR rfl; have r76_40 : R 76 40 = some 101 := rr_lk hR rfl; have r76_41 : R 76 41 = some 102 := rr_lk hR rfl; have r76_42 : R 76 42 = some 103 := rr_lk hR rfl; have r76_47 : R 76 47 = some 104 := rr_lk hR rfl; have r76_53 : R 76 53 = some 105 := rr_lk hR rfl; have r76_54 : R 76 54 = some 106 := rr_lk hR rfl; have r76_55 : R 76 55 = some 107 := rr_lk hR rfl; have r76_56 : R 76 56 = some 108 := rr_lk hR rfl; have r76_57 : R 76 57 = some 109 := rr_lk hR rfl; have s82 : (SH L)[82]? = some (20, 8) := rfl; have s83 : (SH L)[83]? = some (20, 8) := rfl
  intro i
  induction i with
  | zero =>
    intro k hi hk
    have e : k = 8 := by omega
    subst e
    rw [show ((8 : Nat) : Int) = 8 from rfl]
    simp (disch := first | assumption | omega | exact bi_lo | exact bi_hi | exact bi_01 | exact jcmp_lo | exact jcmp_hi | exact (jor_r _ _).1 | exact (jor_r _ _).2 | exact (jand_r _ _).1 | exact (jand_r _ _).2) only [x141_186, x141_187, x141_189, kb_some, kb_none, clr_vi, clr_ref, clr_null, clr_none, va_rf_some, va_rf_none, ↓bi_ite_t, ↓bi_ite_f, ↓jc_lt_t, ↓jc_lt_f, ↓jc_gt_t, ↓jc_gt_f, ↓jc_le_t, ↓jc_le_f, ↓jc_ge_t, ↓jc_ge_f, ↓jc_eq_t, ↓jc_eq_f, ↓if_pos, ↓if_neg]
  | succ i ih =>
    intro k hi hk
    have ih' := ih (k + 1) (by omega) (by omega)
    rw [show 154 + 2 * (k + 1) = 154 + 2 * k + 1 + 1 by omega, Int.natCast_succ] at ih'
    have i1 : idx 82 k = 154 + 2 * k := by
      unfold idx
      rw [if_neg (by omega), if_neg (by omega), if_neg (by omega), if_neg (by omega), if_neg (by omega), if_neg (by omega), if_pos ⟨rfl, by omega⟩]
    have i2 : idx 83 k = 154 + 2 * k + 1 := by
      unfold idx
      rw [if_neg (by omega), if_neg (by omega), if_neg (by omega), if_neg (by omega), if_neg (by omega), if_neg (by omega), if_neg (by omega), if_pos ⟨rfl, by omega⟩]
      omega
    have c1 := fun d => m_carry (L := L) (d := d) (J := J) (K := K) (z := J 82 k) hX h17 ht (p := 154 + 2 * k) (by omega)
    have c2 := fun d => m_carry (L := L) (d := d) (J := J) (K := K) (z := J 83 k) hX h17 ht (p := 154 + 2 * k + 1) (by omega)
    have s1 := cc_st (J := J) hX ht i1 (by omega)
    have s2 := cc_st (J := J) hX ht i2 (by omega)
    have a1 := cs_at (J := J) (t := t) hX i1 (by omega)
    have a2 := cs_at (J := J) (t := t) hX i2 (by omega)
    have go : ∀ Y, EE (d + 1) 141 186 [some (.ref 76), some (.ref X), some (vi t), some (vi ((k : Int) + 1))] [] (SH L) (csJ t X J (154 + 2 * k + 1 + 1)) K R = Y → EE (d + 1) 141 186 [some (.ref 76), some (.ref X), some (vi t), some (vi k)] [] (SH L) (csJ t X J (154 + 2 * k)) K R = Y := by
      intro Y hY
      simp (disch := first | assumption | omega | exact bi_lo | exact bi_hi | exact bi_01 | exact jcmp_lo | exact jcmp_hi | exact (jor_r _ _).1 | exact (jor_r _ _).2 | exact (jand_r _ _).1 | exact (jand_r _ _).2) only [x141_186, x141_187, x141_189, kb_some, kb_none, clr_vi, clr_ref, clr_null, clr_none, va_rf_some, va_rf_none, ↓bi_ite_t, ↓bi_ite_f, ↓jc_lt_t, ↓jc_lt_f, ↓jc_gt_t, ↓jc_gt_f, ↓jc_le_t, ↓jc_le_f, ↓jc_ge_t, ↓jc_ge_f, ↓jc_eq_t, ↓jc_eq_f, ↓if_pos, ↓if_neg]
      simp (disch := first | assumption | omega | exact bi_lo | exact bi_hi | exact bi_01 | exact jcmp_lo | exact jcmp_hi | exact (jor_r _ _).1 | exact (jor_r _ _).2 | exact (jand_r _ _).1 | exact (jand_r _ _).2) only [x141_192, x141_193, x141_196, x141_197, x141_198, x141_199, x141_202, x141_203, x141_204, x141_207, x141_208, x141_209, x141_212, x141_213, x141_214, x141_215, x141_218, x141_219, x141_220, x141_223, x141_224, x141_227, kb_some, kb_none, clr_vi, clr_ref, clr_null, clr_none, va_rf_some, va_rf_none, ↓bi_ite_t, ↓bi_ite_f, ↓jc_lt_t, ↓jc_lt_f, ↓jc_gt_t, ↓jc_gt_f, ↓jc_le_t, ↓jc_le_f, ↓jc_ge_t, ↓jc_ge_f, ↓jc_eq_t, ↓jc_eq_f, ↓if_pos, ↓if_neg, Int.toNat_natCast, a1, c1, s1, a2, c2, s2]
      exact hY
    exact go _ ih'
theorem m_carryAll (hR : wfR R) (hX : X = 84 ∨ X = 85) (ht : t = 0 ∨ t = 1) : EE (d + 1) 141 0 [some (.ref 76), some (.ref X), some (vi t), none] [] (SH L) J K R = ok none (SH L) (csJ t X J 170) K (mm_up R 76 17 (some X)) := by
  have hR' : wfR (mm_up R 76 17 (some X)) := wfR_up hR rfl
  have h17 : mm_up R 76 17 (some X) 76 17 = some X := up_s
  have s76 : (SH L)[76]? = some (11, 58) := rfl
  have hst0 : mm_up (mm_up J 76 16 t) 76 15 0 = csJ t X J 0 := by
    funext a j
    unfold csJ mm_up
    by_cases c1 : a = 76 ∧ j = 15
    · rw [if_pos c1, if_pos c1]; rfl
    · rw [if_neg c1, if_neg c1]
      by_cases c2 : a = 76 ∧ j = 16
      · rw [if_pos c2, if_pos c2]
      · rw [if_neg c2, if_neg c2]
        by_cases c3 : t = 1
        · rw [if_pos c3, if_neg (by omega)]
        · rw [if_neg c3, if_neg (by omega)]
  generalize hR2 : mm_up R 76 17 (some X) = R2 at *
  have l4 := l_cr4 (L := L) (d := d) (J := J) (K := K) hR' hX h17 ht 8 0 rfl (by omega)
  have l3 := l_cr3 (L := L) (d := d) (J := J) (K := K) hR' hX h17 ht 10 0 rfl (by omega)
  have l2 := l_cr2 (L := L) (d := d) (J := J) (K := K) hR' hX h17 ht 5 0 rfl (by omega)
  have l1 := l_cr1 (L := L) (d := d) (J := J) (K := K) hR' hX h17 ht 120 0 rfl (by omega)
  rw [show ((0 : Nat) : Int) = 0 from rfl] at l1 l2 l3 l4
  simp only [Nat.mul_zero, Nat.add_zero] at l1 l2 l3 l4
  have c0 := fun d => m_carry (L := L) (d := d) (J := J) (K := K) (z := J 76 1) hX h17 ht (p := 0) (by omega)
  have s0 := cc_st (J := J) (a := 76) (j := 1) (p := 0) hX ht (by decide) (by omega)
  have a0 := cs_at (J := J) (t := t) (a := 76) (j := 1) (p := 0) hX (by decide) (by omega)
  have c1 := fun d => m_carry (L := L) (d := d) (J := J) (K := K) (z := J 76 2) hX h17 ht (p := 1) (by omega)
  have s1 := cc_st (J := J) (a := 76) (j := 2) (p := 1) hX ht (by decide) (by omega)
  have a1 := cs_at (J := J) (t := t) (a := 76) (j := 2) (p := 1) hX (by decide) (by omega)
  have c2 := fun d => m_carry (L := L) (d := d) (J := J) (K := K) (z := J 76 5) hX h17 ht (p := 2) (by omega)
  have s2 := cc_st (J := J) (a := 76) (j := 5) (p := 2) hX ht (by decide) (by omega)
  have a2 := cs_at (J := J) (t := t) (a := 76) (j := 5) (p := 2) hX (by decide) (by omega)
  have c3 := fun d => m_carry (L := L) (d := d) (J := J) (K := K) (z := J 76 8) hX h17 ht (p := 3) (by omega)
  have s3 := cc_st (J := J) (a := 76) (j := 8) (p := 3) hX ht (by decide) (by omega)
  have a3 := cs_at (J := J) (t := t) (a := 76) (j := 8) (p := 3) hX (by decide) (by omega)
  simp only [Nat.reduceAdd] at s0 s1 s2 s3
  simp (disch := first | assumption | omega | exact bi_lo | exact bi_hi | exact bi_01 | exact jcmp_lo | exact jcmp_hi | exact (jor_r _ _).1 | exact (jor_r _ _).2 | exact (jand_r _ _).1 | exact (jand_r _ _).2) only [x141_0, x141_1, x141_1n, x141_2, x141_5, x141_6, x141_7, x141_10, x141_11, x141_12, kb_some, kb_none, clr_vi, clr_ref, clr_null, clr_none, va_rf_some, va_rf_none, ↓bi_ite_t, ↓bi_ite_f, ↓jc_lt_t, ↓jc_lt_f, ↓jc_gt_t, ↓jc_gt_f, ↓jc_le_t, ↓jc_le_f, ↓jc_ge_t, ↓jc_ge_f, ↓jc_eq_t, ↓jc_eq_f, ↓if_pos, ↓if_neg, hR2, hst0]
  simp (disch := first | assumption | omega | exact bi_lo | exact bi_hi | exact bi_01 | exact jcmp_lo | exact jcmp_hi | exact (jor_r _ _).1 | exact (jor_r _ _).2 | exact (jand_r _ _).1 | exact (jand_r _ _).2) only [x141_15, x141_16, x141_17, x141_18, x141_21, x141_24, kb_some, kb_none, clr_vi, clr_ref, clr_null, clr_none, va_rf_some, va_rf_none, ↓bi_ite_t, ↓bi_ite_f, ↓jc_lt_t, ↓jc_lt_f, ↓jc_gt_t, ↓jc_gt_f, ↓jc_le_t, ↓jc_le_f, ↓jc_ge_t, ↓jc_ge_f, ↓jc_eq_t, ↓jc_eq_f, ↓if_pos, ↓if_neg, a0, c0, s0]
  simp (disch := first | assumption | omega | exact bi_lo | exact bi_hi | exact bi_01 | exact jcmp_lo | exact jcmp_hi | exact (jor_r _ _).1 | exact (jor_r _ _).2 | exact (jand_r _ _).1 | exact (jand_r _ _).2) only [x141_27, x141_28, x141_29, x141_30, x141_33, x141_36, kb_some, kb_none, clr_vi, clr_ref, clr_null, clr_none, va_rf_some, va_rf_none, ↓bi_ite_t, ↓bi_ite_f, ↓jc_lt_t, ↓jc_lt_f, ↓jc_gt_t, ↓jc_gt_f, ↓jc_le_t, ↓jc_le_f, ↓jc_ge_t, ↓jc_ge_f, ↓jc_eq_t, ↓jc_eq_f, ↓if_pos, ↓if_neg, a1, c1, s1]
  simp (disch := first | assumption | omega | exact bi_lo | exact bi_hi | exact bi_01 | exact jcmp_lo | exact jcmp_hi | exact (jor_r _ _).1 | exact (jor_r _ _).2 | exact (jand_r _ _).1 | exact (jand_r _ _).2) only [x141_39, x141_40, x141_41, x141_42, x141_45, x141_48, kb_some, kb_none, clr_vi, clr_ref, clr_null, clr_none, va_rf_some, va_rf_none, ↓bi_ite_t, ↓bi_ite_f, ↓jc_lt_t, ↓jc_lt_f, ↓jc_gt_t, ↓jc_gt_f, ↓jc_le_t, ↓jc_le_f, ↓jc_ge_t, ↓jc_ge_f, ↓jc_eq_t, ↓jc_eq_f, ↓if_pos, ↓if_neg, a2, c2, s2]
  simp (disch := first | assumption | omega | exact bi_lo | exact bi_hi | exact bi_01 | exact jcmp_lo | exact jcmp_hi | exact (jor_r _ _).1 | exact (jor_r _ _).2 | exact (jand_r _ _).1 | exact (jand_r _ _).2) only [x141_51, x141_52, x141_53, x141_54, x141_57, x141_60, x141_63, x141_64, kb_some, kb_none, clr_vi, clr_ref, clr_null, clr_none, va_rf_some, va_rf_none, ↓bi_ite_t, ↓bi_ite_f, ↓jc_lt_t, ↓jc_lt_f, ↓jc_gt_t, ↓jc_gt_f, ↓jc_le_t, ↓jc_le_f, ↓jc_ge_t, ↓jc_ge_f, ↓jc_eq_t, ↓jc_eq_f, ↓if_pos, ↓if_neg, a3, c3, s3]
  rw [l1]
  simp (disch := first | assumption | omega | exact bi_lo | exact bi_hi | exact bi_01 | exact jcmp_lo | exact jcmp_hi | exact (jor_r _ _).1 | exact (jor_r _ _).2 | exact (jand_r _ _).1 | exact (jand_r _ _).2) only [x141_93, x141_94, kb_some, kb_none, clr_vi, clr_ref, clr_null, clr_none, va_rf_some, va_rf_none, ↓bi_ite_t, ↓bi_ite_f, ↓jc_lt_t, ↓jc_lt_f, ↓jc_gt_t, ↓jc_gt_f, ↓jc_le_t, ↓jc_le_f, ↓jc_ge_t, ↓jc_ge_f, ↓jc_eq_t, ↓jc_eq_f, ↓if_pos, ↓if_neg]
  rw [l2]
  simp (disch := first | assumption | omega | exact bi_lo | exact bi_hi | exact bi_01 | exact jcmp_lo | exact jcmp_hi | exact (jor_r _ _).1 | exact (jor_r _ _).2 | exact (jand_r _ _).1 | exact (jand_r _ _).2) only [x141_138, x141_139, kb_some, kb_none, clr_vi, clr_ref, clr_null, clr_none, va_rf_some, va_rf_none, ↓bi_ite_t, ↓bi_ite_f, ↓jc_lt_t, ↓jc_lt_f, ↓jc_gt_t, ↓jc_gt_f, ↓jc_le_t, ↓jc_le_f, ↓jc_ge_t, ↓jc_ge_f, ↓jc_eq_t, ↓jc_eq_f, ↓if_pos, ↓if_neg]
  rw [l3]
  simp (disch := first | assumption | omega | exact bi_lo | exact bi_hi | exact bi_01 | exact jcmp_lo | exact jcmp_hi | exact (jor_r _ _).1 | exact (jor_r _ _).2 | exact (jand_r _ _).1 | exact (jand_r _ _).2) only [x141_184, x141_185, kb_some, kb_none, clr_vi, clr_ref, clr_null, clr_none, va_rf_some, va_rf_none, ↓bi_ite_t, ↓bi_ite_f, ↓jc_lt_t, ↓jc_lt_f, ↓jc_gt_t, ↓jc_gt_f, ↓jc_le_t, ↓jc_le_f, ↓jc_ge_t, ↓jc_ge_f, ↓jc_eq_t, ↓jc_eq_f, ↓if_pos, ↓if_neg]
  rw [l4]
  simp (disch := first | assumption | omega | exact bi_lo | exact bi_hi | exact bi_01 | exact jcmp_lo | exact jcmp_hi | exact (jor_r _ _).1 | exact (jor_r _ _).2 | exact (jand_r _ _).1 | exact (jand_r _ _).2) only [x141_230, kb_some, kb_none, clr_vi, clr_ref, clr_null, clr_none, va_rf_some, va_rf_none, ↓bi_ite_t, ↓bi_ite_f, ↓jc_lt_t, ↓jc_lt_f, ↓jc_gt_t, ↓jc_gt_f, ↓jc_le_t, ↓jc_le_f, ↓jc_ge_t, ↓jc_ge_f, ↓jc_eq_t, ↓jc_eq_f, ↓if_pos, ↓if_neg]
end
