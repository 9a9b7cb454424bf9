/-! the lowest terms -/
def eS : Nat → Int → Int → Int
  | 0, a, _ => a
  | k + 1, a, b => if b = 0 then a else eS k b (a % b)
theorem eS_s {k : Nat} {a b : Int} (h : b ≠ 0) : eS (k + 1) a b = eS k b (a % b) := if_neg h
theorem eS_z : ∀ {k : Nat} {a : Int}, eS k a 0 = a := by
  intro k a
  cases k with
  | zero => rfl
  | succ k => exact if_pos rfl
theorem eS_eq : ∀ (n m : Nat) (a b : Int), 0 ≤ b → b < n → b < m → eS n a b = eS m a b := by
  intro n
  induction n with
  | zero => intro m a b h1 h2; omega
  | succ n ih =>
    intro m a b h1 h2 h3
    by_cases c : b = 0
    · rw [c, eS_z, eS_z]
    · cases m with
      | zero => omega
      | succ m =>
        rw [eS_s c, eS_s c]
        have r1 := Int.emod_nonneg a c
        have r2 := Int.emod_lt_of_pos a (show 0 < b by omega)
        exact ih m b (a % b) r1 (by omega) (by omega)
def gd (a b : Int) : Int := eS (b.toNat + 1) a b
theorem half_mod {b r : Int} (h1 : 0 < r) (h2 : r < b) : 2 * (b % r) < b := by
  have r2 := Int.emod_lt_of_pos b h1
  have r3 := Int.emod_add_mul_ediv b r
  have r4 : 1 ≤ b / r := by
    have := Int.ediv_le_ediv h1 (show r ≤ b by omega)
    rw [Int.ediv_self (by omega)] at this
    exact this
  have r5 : r ≤ r * (b / r) := by
    have := Int.mul_le_mul_of_nonneg_left r4 (show 0 ≤ r by omega)
    omega
  omega
theorem eS_2 : ∀ (j : Nat) (a b : Int), 0 ≤ b → b < (2 ^ j : Nat) → eS (2 * j) a b = gd a b := by
  intro j
  induction j with
  | zero =>
    intro a b h1 h2
    have : b = 0 := by
      have : b < ((1 : Nat) : Int) := h2
      omega
    rw [this]; unfold gd; rw [eS_z, eS_z]
  | succ j ih =>
    intro a b h1 h2
    unfold gd
    by_cases c : b = 0
    · rw [c, eS_z, eS_z]
    · have r1 := Int.emod_nonneg a c
      have r2 := Int.emod_lt_of_pos a (show 0 < b by omega)
      rw [show 2 * (j + 1) = 2 * j + 1 + 1 by omega, eS_s c, eS_s c]
      by_cases c2 : a % b = 0
      · rw [c2, eS_z, eS_z]
      · have r3 := half_mod (b := b) (r := a % b) (by omega) r2
        have r4 := Int.emod_nonneg b c2
        have r5 := Int.emod_lt_of_pos b (show 0 < a % b by omega)
        have r6 : (2 : Nat) ^ (j + 1) = 2 ^ j * 2 := Nat.pow_succ 2 j
        rw [show b.toNat = b.toNat - 1 + 1 by omega, eS_s c2, eS_s c2, ih _ _ r4 (by omega)]
        exact eS_eq _ _ _ _ r4 (by omega) (by omega)
theorem eS_r : ∀ (n : Nat) (a b m : Int), 0 ≤ a → a ≤ m → 0 ≤ b → b ≤ m → 0 ≤ eS n a b ∧ eS n a b ≤ m := by
  intro n
  induction n with
  | zero => intro a b m h1 h2 h3 h4; exact ⟨h1, h2⟩
  | succ n ih =>
    intro a b m h1 h2 h3 h4
    by_cases c : b = 0
    · rw [c, eS_z]; exact ⟨h1, h2⟩
    · rw [eS_s c]
      have r1 := Int.emod_nonneg a c
      have r2 := Int.emod_lt_of_pos a (show 0 < b by omega)
      exact ih _ _ m h3 h4 r1 (by omega)
theorem eS_pos : ∀ (n : Nat) (a b : Int), 0 ≤ a → 0 ≤ b → 0 < a ∨ 0 < b → b < n → 0 < eS n a b := by
  intro n
  induction n with
  | zero => intro a b h1 h2 h3 h4; omega
  | succ n ih =>
    intro a b h1 h2 h3 h4
    by_cases c : b = 0
    · rw [c, eS_z]; omega
    · rw [eS_s c]
      have r1 := Int.emod_nonneg a c
      have r2 := Int.emod_lt_of_pos a (show 0 < b by omega)
      exact ih _ _ h2 r1 (by omega) (by omega)
section
variable {L d : Nat} {S : mm_S} {J K : mJ} {R : mm_R} {v w : Int}
theorem l_measure {l5 l6 : Option Value} : ∀ (m : Nat) (s a b : Int) (l5 l6 : Option Value), (200 - s).toNat = m → 0 ≤ s ∧ s ≤ 200 → 0 ≤ a ∧ a ≤ 9223372036854775807 → 0 ≤ b ∧ b ≤ 9223372036854775807 →
    EE d 135 3 [some (vl a), none, some (vl b), none, some (vi s), l5, l6] [] S J K R = ok (some (vl (eS m a b))) S J K R := by
  intro m
  induction m with
  | zero =>
    intro s a b l5 l6 hm hs ha hb
    show _ = ok (some (vl a)) S J K R
    simp (disch := first | assumption | omega | exact bi_lo | exact bi_hi | exact bi_01 | exact jcmp_lo | exact jcmp_hi | exact (jor_r _ _).1 | exact (jor_r _ _).2 | exact (jand_r _ _).1 | exact (jand_r _ _).2) only [x135_3, x135_5, x135_8, x135_33, x135_34, kb_some, kb_none, clr_vi, clr_ref, clr_null, clr_none, va_rf_some, va_rf_none, ↓bi_ite_t, ↓bi_ite_f, ↓jc_lt_t, ↓jc_lt_f, ↓jc_gt_t, ↓jc_gt_f, ↓jc_le_t, ↓jc_le_f, ↓jc_ge_t, ↓jc_ge_f, ↓jc_eq_t, ↓jc_eq_f, ↓if_pos, ↓if_neg]
  | succ m ih =>
    intro s a b l5 l6 hm hs ha hb
    by_cases c : b = 0
    · subst c
      rw [eS_z]
      simp (disch := first | assumption | omega | exact bi_lo | exact bi_hi | exact bi_01 | exact jcmp_lo | exact jcmp_hi | exact (jor_r _ _).1 | exact (jor_r _ _).2 | exact (jand_r _ _).1 | exact (jand_r _ _).2) only [x135_3, x135_5, x135_8, x135_11, x135_12, x135_13, x135_14, x135_33, x135_34, kb_some, kb_none, clr_vi, clr_ref, clr_null, clr_none, va_rf_some, va_rf_none, ↓bi_ite_t, ↓bi_ite_f, ↓jc_lt_t, ↓jc_lt_f, ↓jc_gt_t, ↓jc_gt_f, ↓jc_le_t, ↓jc_le_f, ↓jc_ge_t, ↓jc_ge_f, ↓jc_eq_t, ↓jc_eq_f, ↓if_pos, ↓if_neg]
    · rw [eS_s c]
      have r1 := Int.emod_nonneg a c
      have r2 := Int.emod_lt_of_pos a (show 0 < b by omega)
      have e1 := jrem64_nn (x := a) (y := b) ha.1 ha.2 (by omega) hb.2
      have ih' := ih (s + 1) b (a % b) (some (vl (a % b))) none (by omega) (by omega) hb (by omega)
      have go : ∀ X, EE d 135 3 [some (vl b), none, some (vl (a % b)), none, some (vi (s + 1)), some (vl (a % b)), none] [] S J K R = X → EE d 135 3 [some (vl a), none, some (vl b), none, some (vi s), l5, l6] [] S J K R = X := by
        intro X hX
        simp (disch := first | assumption | omega | exact bi_lo | exact bi_hi | exact bi_01 | exact jcmp_lo | exact jcmp_hi | exact (jor_r _ _).1 | exact (jor_r _ _).2 | exact (jand_r _ _).1 | exact (jand_r _ _).2) only [x135_3, x135_5, x135_8, kb_some, kb_none, clr_vi, clr_ref, clr_null, clr_none, va_rf_some, va_rf_none, ↓bi_ite_t, ↓bi_ite_f, ↓jc_lt_t, ↓jc_lt_f, ↓jc_gt_t, ↓jc_gt_f, ↓jc_le_t, ↓jc_le_f, ↓jc_ge_t, ↓jc_ge_f, ↓jc_eq_t, ↓jc_eq_f, ↓if_pos, ↓if_neg]
        simp (disch := first | assumption | omega | exact bi_lo | exact bi_hi | exact bi_01 | exact jcmp_lo | exact jcmp_hi | exact (jor_r _ _).1 | exact (jor_r _ _).2 | exact (jand_r _ _).1 | exact (jand_r _ _).2) only [x135_11, x135_12, x135_13, x135_14, x135_17, x135_18, x135_19, x135_20, x135_22, x135_23, x135_24, x135_26, x135_27, x135_30, kb_some, kb_none, clr_vi, clr_ref, clr_null, clr_none, va_rf_some, va_rf_none, ↓bi_ite_t, ↓bi_ite_f, ↓jc_lt_t, ↓jc_lt_f, ↓jc_gt_t, ↓jc_gt_f, ↓jc_le_t, ↓jc_le_f, ↓jc_ge_t, ↓jc_ge_f, ↓jc_eq_t, ↓jc_eq_f, ↓if_pos, ↓if_neg, e1]
        exact hX
      exact go _ ih'
theorem c_measure {a b : Int} (ha : 0 ≤ a ∧ a ≤ 9223372036854775807) (hb : 0 ≤ b ∧ b ≤ 1000) : EE d 135 0 [some (vl a), none, some (vl b), none, none, none, none] [] S J K R = ok (some (vl (gd a b))) S J K R := by
  have hl := l_measure (d := d) (S := S) (J := J) (K := K) (R := R) (l5 := none) (l6 := none) 200 0 a b none none rfl (by omega) ha (by omega)
  have e : eS 200 a b = gd a b := by
    have := eS_2 100 a b hb.1 (by
      have : (1000 : Nat) < 2 ^ 100 := by decide
      omega)
    exact this
  rw [e] at hl
  rw [← hl]
  simp (disch := first | assumption | omega | exact bi_lo | exact bi_hi | exact bi_01 | exact jcmp_lo | exact jcmp_hi | exact (jor_r _ _).1 | exact (jor_r _ _).2 | exact (jand_r _ _).1 | exact (jand_r _ _).2) only [x135_0, x135_1, kb_some, kb_none, clr_vi, clr_ref, clr_null, clr_none, va_rf_some, va_rf_none]
theorem l_divisor {v w : Int} : ∀ (n : Nat) (x y : Int) (l8 : Option Value), y.toNat = n → 0 ≤ x ∧ x ≤ 9223372036854775807 → 0 ≤ y ∧ y ≤ 9223372036854775807 →
    EE d 219 17 [some (vl v), none, some (vl w), none, some (vl x), none, some (vl y), none, l8, none] [] S J K R = ok (some (vl (gd x y))) S J K R := by
  intro n
  induction n using Nat.strongRecOn with
  | _ n ih =>
    intro x y l8 hn hx hy
    by_cases c : y = 0
    · subst c
      unfold gd
      rw [eS_z]
      simp (disch := first | assumption | omega | exact bi_lo | exact bi_hi | exact bi_01 | exact jcmp_lo | exact jcmp_hi | exact (jor_r _ _).1 | exact (jor_r _ _).2 | exact (jand_r _ _).1 | exact (jand_r _ _).2) only [x219_17, x219_19, x219_20, x219_21, x219_42, x219_44, kb_some, kb_none, clr_vi, clr_ref, clr_null, clr_none, va_rf_some, va_rf_none, ↓bi_ite_t, ↓bi_ite_f, ↓jc_lt_t, ↓jc_lt_f, ↓jc_gt_t, ↓jc_gt_f, ↓jc_le_t, ↓jc_le_f, ↓jc_ge_t, ↓jc_ge_f, ↓jc_eq_t, ↓jc_eq_f, ↓if_pos, ↓if_neg]
    · have r1 := Int.emod_nonneg x c
      have r2 := Int.emod_lt_of_pos x (show 0 < y by omega)
      have e1 := jrem64_nn (x := x) (y := y) hx.1 hx.2 (by omega) hy.2
      have e2 : gd x y = gd y (x % y) := by
        unfold gd
        rw [eS_s c]
        exact eS_eq _ _ _ _ r1 (by omega) (by omega)
      have ih' := ih (x % y).toNat (by omega) y (x % y) (some (vl (x % y))) rfl hy (by omega)
      rw [e2]
      have go : ∀ X, EE d 219 17 [some (vl v), none, some (vl w), none, some (vl y), none, some (vl (x % y)), none, some (vl (x % y)), none] [] S J K R = X → EE d 219 17 [some (vl v), none, some (vl w), none, some (vl x), none, some (vl y), none, l8, none] [] S J K R = X := by
        intro X hX
        simp (disch := first | assumption | omega | exact bi_lo | exact bi_hi | exact bi_01 | exact jcmp_lo | exact jcmp_hi | exact (jor_r _ _).1 | exact (jor_r _ _).2 | exact (jand_r _ _).1 | exact (jand_r _ _).2) only [x219_17, x219_19, x219_20, x219_21, kb_some, kb_none, clr_vi, clr_ref, clr_null, clr_none, va_rf_some, va_rf_none, ↓bi_ite_t, ↓bi_ite_f, ↓jc_lt_t, ↓jc_lt_f, ↓jc_gt_t, ↓jc_gt_f, ↓jc_le_t, ↓jc_le_f, ↓jc_ge_t, ↓jc_ge_f, ↓jc_eq_t, ↓jc_eq_f, ↓if_pos, ↓if_neg]
        simp (disch := first | assumption | omega | exact bi_lo | exact bi_hi | exact bi_01 | exact jcmp_lo | exact jcmp_hi | exact (jor_r _ _).1 | exact (jor_r _ _).2 | exact (jand_r _ _).1 | exact (jand_r _ _).2) only [x219_24, x219_26, x219_28, x219_29, x219_31, x219_33, x219_35, x219_37, x219_39, kb_some, kb_none, clr_vi, clr_ref, clr_null, clr_none, va_rf_some, va_rf_none, ↓bi_ite_t, ↓bi_ite_f, ↓jc_lt_t, ↓jc_lt_f, ↓jc_gt_t, ↓jc_gt_f, ↓jc_le_t, ↓jc_le_f, ↓jc_ge_t, ↓jc_ge_f, ↓jc_eq_t, ↓jc_eq_f, ↓if_pos, ↓if_neg, e1]
        exact hX
      exact go _ ih'
theorem m_divisor (hv : -9223372036854775807 ≤ v ∧ v ≤ 9223372036854775807) (hw : 0 ≤ w ∧ w ≤ 9223372036854775807) : EE d 219 0 [some (vl v), none, some (vl w), none, none, none, none, none, none, none] [] S J K R = ok (some (vl (gd (ab v) w))) S J K R := by
  have hr : 0 ≤ ab v ∧ ab v ≤ 9223372036854775807 := by unfold ab; split <;> omega
  have hl := l_divisor (d := d) (S := S) (J := J) (K := K) (R := R) (v := v) (w := w) _ (ab v) w none rfl hr hw
  by_cases c : v < 0
  · have hab : ab v = -v := by unfold ab; rw [if_neg (by omega)]
    rw [hab] at hl ⊢
    rw [← hl]
    simp (disch := first | assumption | omega | exact bi_lo | exact bi_hi | exact bi_01 | exact jcmp_lo | exact jcmp_hi | exact (jor_r _ _).1 | exact (jor_r _ _).2 | exact (jand_r _ _).1 | exact (jand_r _ _).2) only [x219_0, x219_1, x219_2, x219_3, x219_6, x219_7, x219_8, x219_11, x219_12, x219_14, x219_15, kb_some, kb_none, clr_vi, clr_ref, clr_null, clr_none, va_rf_some, va_rf_none, ↓bi_ite_t, ↓bi_ite_f, ↓jc_lt_t, ↓jc_lt_f, ↓jc_gt_t, ↓jc_gt_f, ↓jc_le_t, ↓jc_le_f, ↓jc_ge_t, ↓jc_ge_f, ↓jc_eq_t, ↓jc_eq_f, ↓if_pos, ↓if_neg]
  · have hab : ab v = v := by unfold ab; split <;> omega
    rw [hab] at hl ⊢
    rw [← hl]
    simp (disch := first | assumption | omega | exact bi_lo | exact bi_hi | exact bi_01 | exact jcmp_lo | exact jcmp_hi | exact (jor_r _ _).1 | exact (jor_r _ _).2 | exact (jand_r _ _).1 | exact (jand_r _ _).2) only [x219_0, x219_1, x219_2, x219_3, x219_6, x219_7, x219_8, x219_11, x219_12, x219_14, x219_15, kb_some, kb_none, clr_vi, clr_ref, clr_null, clr_none, va_rf_some, va_rf_none, ↓bi_ite_t, ↓bi_ite_f, ↓jc_lt_t, ↓jc_lt_f, ↓jc_gt_t, ↓jc_gt_f, ↓jc_le_t, ↓jc_le_f, ↓jc_ge_t, ↓jc_ge_f, ↓jc_eq_t, ↓jc_eq_f, ↓if_pos, ↓if_neg]
/-- the part of a fraction -/
def frP (a b part : Int) : Int := if part = 0 then jdiv64 a (gd (ab a) b) else jdiv64 b (gd (ab a) b)
theorem gd_r (hv : -9223372036854775807 ≤ v ∧ v ≤ 9223372036854775807) (hw : 0 < w ∧ w ≤ 9223372036854775807) : 0 < gd (ab v) w ∧ gd (ab v) w ≤ 9223372036854775807 := by
  have hr : 0 ≤ ab v ∧ ab v ≤ 9223372036854775807 := by unfold ab; split <;> omega
  exact ⟨eS_pos _ _ _ hr.1 (by omega) (by omega) (by omega), (eS_r _ _ _ _ hr.1 hr.2 (by omega) hw.2).2⟩
theorem m_partOf {part : Int} (hv : -9223372036854775807 ≤ v ∧ v ≤ 9223372036854775807) (hw : 0 < w ∧ w ≤ 9223372036854775807) (hp : 0 ≤ part ∧ part ≤ 1) : EE (d + 1) 220 0 [some (vl v), none, some (vl w), none, some (vi part), none, none] [] S J K R = ok (some (vl (frP v w part))) S J K R := by
  have hd := m_divisor (d := d) (S := S) (J := J) (K := K) (R := R) hv (w := w) (by omega)
  have hg := gd_r hv hw
  unfold frP
  by_cases c : part = 0
  · rw [if_pos c]
    simp (disch := first | assumption | omega | exact bi_lo | exact bi_hi | exact bi_01 | exact jcmp_lo | exact jcmp_hi | exact (jor_r _ _).1 | exact (jor_r _ _).2 | exact (jand_r _ _).1 | exact (jand_r _ _).2) only [x220_0, x220_1, x220_2, x220_5, x220_7, x220_9, x220_12, x220_13, x220_15, x220_16, x220_19, x220_20, x220_22, x220_23, kb_some, kb_none, clr_vi, clr_ref, clr_null, clr_none, va_rf_some, va_rf_none, ↓bi_ite_t, ↓bi_ite_f, ↓jc_lt_t, ↓jc_lt_f, ↓jc_gt_t, ↓jc_gt_f, ↓jc_le_t, ↓jc_le_f, ↓jc_ge_t, ↓jc_ge_f, ↓jc_eq_t, ↓jc_eq_f, ↓if_pos, ↓if_neg, hd]
  · rw [if_neg c]
    simp (disch := first | assumption | omega | exact bi_lo | exact bi_hi | exact bi_01 | exact jcmp_lo | exact jcmp_hi | exact (jor_r _ _).1 | exact (jor_r _ _).2 | exact (jand_r _ _).1 | exact (jand_r _ _).2) only [x220_0, x220_1, x220_2, x220_5, x220_7, x220_9, x220_12, x220_13, x220_15, x220_16, x220_19, x220_20, x220_22, x220_23, kb_some, kb_none, clr_vi, clr_ref, clr_null, clr_none, va_rf_some, va_rf_none, ↓bi_ite_t, ↓bi_ite_f, ↓jc_lt_t, ↓jc_lt_f, ↓jc_gt_t, ↓jc_gt_f, ↓jc_le_t, ↓jc_le_f, ↓jc_ge_t, ↓jc_ge_f, ↓jc_eq_t, ↓jc_eq_f, ↓if_pos, ↓if_neg, hd]
theorem c_partOf {part : Int} (hv : -9223372036854775807 ≤ v ∧ v ≤ 9223372036854775807) (hw : 0 ≤ w ∧ w ≤ 1000) (hp : -2147483648 ≤ part ∧ part ≤ 2147483647) : EE (d + 1) 134 0 [some (vl v), none, some (vl w), none, some (vi part), none, none] [] S J K R = ok (some (vl (if 0 < w ∧ 0 ≤ part ∧ part ≤ 1 then frP v w part else -9223372036854775808))) S J K R := by
  have hr : 0 ≤ ab v ∧ ab v ≤ 9223372036854775807 := by unfold ab; split <;> omega
  have hd := c_measure (d := d) (S := S) (J := J) (K := K) (R := R) hr hw
  have hab : ab v = if 0 < v then v else -v := rfl
  by_cases c : 0 < w ∧ 0 ≤ part ∧ part ≤ 1
  · rw [if_pos c]
    have hg := gd_r hv (w := w) (by omega)
    unfold frP
    by_cases c : part = 0
    · rw [if_pos c]
      rw [hab] at hd hg ⊢
      simp (disch := first | assumption | omega | exact bi_lo | exact bi_hi | exact bi_01 | exact jcmp_lo | exact jcmp_hi | exact (jor_r _ _).1 | exact (jor_r _ _).2 | exact (jand_r _ _).1 | exact (jand_r _ _).2) only [x134_0, x134_1, x134_2, x134_3, x134_6, x134_8, x134_11, x134_13, x134_14, x134_17, x134_20, x134_21, x134_22, x134_25, x134_26, x134_29, x134_31, x134_33, x134_34, x134_35, x134_38, x134_41, x134_42, x134_44, x134_47, x134_48, x134_50, x134_51, x134_54, x134_55, x134_57, x134_58, kb_some, kb_none, clr_vi, clr_ref, clr_null, clr_none, va_rf_some, va_rf_none, ↓bi_ite_t, ↓bi_ite_f, ↓jc_lt_t, ↓jc_lt_f, ↓jc_gt_t, ↓jc_gt_f, ↓jc_le_t, ↓jc_le_f, ↓jc_ge_t, ↓jc_ge_f, ↓jc_eq_t, ↓jc_eq_f, ↓if_pos, ↓if_neg, hd]
    · rw [if_neg c]
      rw [hab] at hd hg ⊢
      simp (disch := first | assumption | omega | exact bi_lo | exact bi_hi | exact bi_01 | exact jcmp_lo | exact jcmp_hi | exact (jor_r _ _).1 | exact (jor_r _ _).2 | exact (jand_r _ _).1 | exact (jand_r _ _).2) only [x134_0, x134_1, x134_2, x134_3, x134_6, x134_8, x134_11, x134_13, x134_14, x134_17, x134_20, x134_21, x134_22, x134_25, x134_26, x134_29, x134_31, x134_33, x134_34, x134_35, x134_38, x134_41, x134_42, x134_44, x134_47, x134_48, x134_50, x134_51, x134_54, x134_55, x134_57, x134_58, kb_some, kb_none, clr_vi, clr_ref, clr_null, clr_none, va_rf_some, va_rf_none, ↓bi_ite_t, ↓bi_ite_f, ↓jc_lt_t, ↓jc_lt_f, ↓jc_gt_t, ↓jc_gt_f, ↓jc_le_t, ↓jc_le_f, ↓jc_ge_t, ↓jc_ge_f, ↓jc_eq_t, ↓jc_eq_f, ↓if_pos, ↓if_neg, hd]
  · rw [if_neg c]
    by_cases c1 : w ≤ 0
    · simp (disch := first | assumption | omega | exact bi_lo | exact bi_hi | exact bi_01 | exact jcmp_lo | exact jcmp_hi | exact (jor_r _ _).1 | exact (jor_r _ _).2 | exact (jand_r _ _).1 | exact (jand_r _ _).2) only [x134_0, x134_1, x134_2, x134_3, x134_6, x134_8, x134_11, x134_13, x134_14, x134_17, x134_20, kb_some, kb_none, clr_vi, clr_ref, clr_null, clr_none, va_rf_some, va_rf_none, ↓bi_ite_t, ↓bi_ite_f, ↓jc_lt_t, ↓jc_lt_f, ↓jc_gt_t, ↓jc_gt_f, ↓jc_le_t, ↓jc_le_f, ↓jc_ge_t, ↓jc_ge_f, ↓jc_eq_t, ↓jc_eq_f, ↓if_pos, ↓if_neg]
    · by_cases c2 : part < 0
      · simp (disch := first | assumption | omega | exact bi_lo | exact bi_hi | exact bi_01 | exact jcmp_lo | exact jcmp_hi | exact (jor_r _ _).1 | exact (jor_r _ _).2 | exact (jand_r _ _).1 | exact (jand_r _ _).2) only [x134_0, x134_1, x134_2, x134_3, x134_6, x134_8, x134_11, x134_13, x134_14, x134_17, x134_20, kb_some, kb_none, clr_vi, clr_ref, clr_null, clr_none, va_rf_some, va_rf_none, ↓bi_ite_t, ↓bi_ite_f, ↓jc_lt_t, ↓jc_lt_f, ↓jc_gt_t, ↓jc_gt_f, ↓jc_le_t, ↓jc_le_f, ↓jc_ge_t, ↓jc_ge_f, ↓jc_eq_t, ↓jc_eq_f, ↓if_pos, ↓if_neg]
      · simp (disch := first | assumption | omega | exact bi_lo | exact bi_hi | exact bi_01 | exact jcmp_lo | exact jcmp_hi | exact (jor_r _ _).1 | exact (jor_r _ _).2 | exact (jand_r _ _).1 | exact (jand_r _ _).2) only [x134_0, x134_1, x134_2, x134_3, x134_6, x134_8, x134_11, x134_13, x134_14, x134_17, x134_20, kb_some, kb_none, clr_vi, clr_ref, clr_null, clr_none, va_rf_some, va_rf_none, ↓bi_ite_t, ↓bi_ite_f, ↓jc_lt_t, ↓jc_lt_f, ↓jc_gt_t, ↓jc_gt_f, ↓jc_le_t, ↓jc_le_f, ↓jc_ge_t, ↓jc_ge_f, ↓jc_eq_t, ↓jc_eq_f, ↓if_pos, ↓if_neg]
end
