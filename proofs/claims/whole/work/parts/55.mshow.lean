/-! the reference shows things: numbers, rows -/
def shw (J : mJ) (c : Int) : mJ := mm_up (mm_up J 76 52 (if J 76 51 = J 76 50 then c else J 76 52)) 76 51 (J 76 51 + 1)
def shL (J : mJ) (l : List Int) : mJ := List.foldl shw J l
section
variable {J : mJ} {v : Int} {l l' : List Int}
theorem shL_nil : shL J [] = J := rfl
theorem shL_cons : shL J (v :: l) = shL (shw J v) l := rfl
theorem shL_app : shL J (l ++ l') = shL (shL J l) l' := List.foldl_append
theorem shL_snoc : shw (shL J l) v = shL J (l ++ [v]) := by rw [shL_app]; rfl
theorem shL_o {a j : Nat} (h : ¬ (a = 76 ∧ (j = 51 ∨ j = 52))) : ∀ {l : List Int} {J : mJ}, shL J l a j = J a j := by
  intro l
  induction l with
  | nil => intro J; rfl
  | cons v l ih =>
    intro J
    rw [shL_cons, ih]
    unfold shw mm_up
    by_cases c : a = 76
    · rw [if_neg (by omega), if_neg (by omega)]
    · rw [if_neg (by omega), if_neg (by omega)]
theorem shL_a {a : Nat} (h : a ≠ 76) {l : List Int} {J : mJ} : shL J l a = J a := by
  funext j
  exact shL_o (by omega)
theorem shL_51 : ∀ {l : List Int} {J : mJ}, shL J l 76 51 = J 76 51 + l.length := by
  intro l
  induction l with
  | nil => intro J; simp [shL_nil]
  | cons v l ih =>
    intro J
    rw [shL_cons, ih, List.length_cons]
    have e : shw J v 76 51 = J 76 51 + 1 := up_s
    rw [e]; omega
theorem shL_52 : ∀ {l : List Int} {J : mJ}, shL J l 76 52 = if J 76 51 ≤ J 76 50 ∧ J 76 50 < J 76 51 + l.length then l.getD (J 76 50 - J 76 51).toNat 0 else J 76 52 := by
  intro l
  induction l with
  | nil => intro J; rw [if_neg (by rw [List.length_nil]; omega)]; rfl
  | cons v l ih =>
    intro J
    have e1 : shw J v 76 51 = J 76 51 + 1 := up_s
    have e2 : shw J v 76 50 = J 76 50 := by simp [shw, mm_up]
    have e3 : shw J v 76 52 = if J 76 51 = J 76 50 then v else J 76 52 := by simp [shw, mm_up]
    rw [shL_cons, ih, e1, e2, e3, List.length_cons]
    by_cases c : J 76 51 = J 76 50
    · rw [if_neg (by omega), if_pos c, if_pos (by omega), show (J 76 50 - J 76 51).toNat = 0 by omega]
      rfl
    · by_cases c2 : J 76 51 + 1 ≤ J 76 50 ∧ J 76 50 < J 76 51 + 1 + l.length
      · rw [if_pos c2, if_pos (by omega), show (J 76 50 - J 76 51).toNat = (J 76 50 - (J 76 51 + 1)).toNat + 1 by omega]
        rfl
      · rw [if_neg c2, if_neg c, if_neg (by omega)]
end
/-- what the reference's shower stands on -/
def MW (f : Int → Int) (J0 : mJ) (R : mm_R) : Prop := MR f J0 R ∧ J0 76 51 = 0 ∧ (-2147483648 ≤ J0 76 50 ∧ J0 76 50 ≤ 2147483647) ∧ (0 ≤ J0 76 18 ∧ J0 76 18 ≤ 60)
section
variable {L d : Nat} {J0 K : mJ} {R : mm_R} {l : List Int} {v r p y : Int} {f : Int → Int}
theorem ms_shows (h : MW f J0 R) (hl : l.length ≤ 5000) : EE d 203 0 [some (.ref 76), some (vi y)] [] (SH L) (shL J0 l) K R = ok none (SH L) (shL J0 (l ++ [y])) K R := by
  have s76 : (SH L)[76]? = some (11, 58) := rfl
  have e1 : shL J0 l 76 51 = l.length := by rw [shL_51, h.2.1]; omega
  have e2 : shL J0 l 76 50 = J0 76 50 := shL_o (by decide)
  have h50 := h.2.2.1
  rw [← shL_snoc]
  unfold shw
  by_cases c : shL J0 l 76 51 = shL J0 l 76 50
  · rw [if_pos c]
    simp (disch := first | assumption | omega | exact bi_lo | exact bi_hi | exact bi_01 | exact jcmp_lo | exact jcmp_hi | exact (jor_r _ _).1 | exact (jor_r _ _).2 | exact (jand_r _ _).1 | exact (jand_r _ _).2) only [x203_0, x203_1, x203_2, x203_5, x203_6, x203_9, x203_12, x203_13, x203_16, x203_17, x203_20, x203_23, x203_24, x203_25, x203_28, x203_29, x203_30, x203_33, kb_some, kb_none, clr_vi, clr_ref, clr_null, clr_none, va_rf_some, va_rf_none, ↓bi_ite_t, ↓bi_ite_f, ↓jc_lt_t, ↓jc_lt_f, ↓jc_gt_t, ↓jc_gt_f, ↓jc_le_t, ↓jc_le_f, ↓jc_ge_t, ↓jc_ge_f, ↓jc_eq_t, ↓jc_eq_f, ↓if_pos, ↓if_neg, up_s, up_a, up_j]
  · rw [if_neg c]
    simp (disch := first | assumption | omega | exact bi_lo | exact bi_hi | exact bi_01 | exact jcmp_lo | exact jcmp_hi | exact (jor_r _ _).1 | exact (jor_r _ _).2 | exact (jand_r _ _).1 | exact (jand_r _ _).2) only [x203_0, x203_1, x203_2, x203_5, x203_6, x203_9, x203_12, x203_13, x203_16, x203_17, x203_20, x203_23, x203_24, x203_25, x203_28, x203_29, x203_30, x203_33, kb_some, kb_none, clr_vi, clr_ref, clr_null, clr_none, va_rf_some, va_rf_none, ↓bi_ite_t, ↓bi_ite_f, ↓jc_lt_t, ↓jc_lt_f, ↓jc_gt_t, ↓jc_gt_f, ↓jc_le_t, ↓jc_le_f, ↓jc_ge_t, ↓jc_ge_f, ↓jc_eq_t, ↓jc_eq_f, ↓if_pos, ↓if_neg, up_s, up_a, up_j]
theorem ml_pow {J : mJ} {v0 : Int} {l7 l8 : Option Value} (hr : 0 ≤ r ∧ r ≤ 2147483648) : ∀ (n : Nat) (p : Int), 1 ≤ p ∧ p ≤ 2147483648 → r < p * 10 ^ (n + 1) →
    EE d 204 20 [some (.ref 76), some (vl v0), none, some (vl r), none, some (vl p), none, l7, l8] [] (SH L) J K R = EE d 204 42 [some (.ref 76), some (vl v0), none, some (vl r), none, some (vl (pwF r n p)), none, l7, l8] [] (SH L) J K R := by
  intro n
  induction n with
  | zero =>
    intro p hp hn
    have hn' : r < p * 10 := hn
    have q1 : 0 ≤ r / p := Int.ediv_nonneg hr.1 (by omega)
    have q2 : r / p ≤ r := Int.ediv_le_self p hr.1
    have e1 := jdiv64_nn (x := r) (y := p) hr.1 (by omega) (by omega) (by omega)
    have c : ¬ 10 ≤ r / p := by rw [Int.le_ediv_iff_mul_le (by omega)]; omega
    simp (disch := first | assumption | omega | exact bi_lo | exact bi_hi | exact bi_01 | exact jcmp_lo | exact jcmp_hi | exact (jor_r _ _).1 | exact (jor_r _ _).2 | exact (jand_r _ _).1 | exact (jand_r _ _).2) only [x204_20, x204_21, x204_23, x204_24, x204_27, x204_28, kb_some, kb_none, clr_vi, clr_ref, clr_null, clr_none, va_rf_some, va_rf_none, ↓bi_ite_t, ↓bi_ite_f, ↓jc_lt_t, ↓jc_lt_f, ↓jc_gt_t, ↓jc_gt_f, ↓jc_le_t, ↓jc_le_f, ↓jc_ge_t, ↓jc_ge_f, ↓jc_eq_t, ↓jc_eq_f, ↓if_pos, ↓if_neg, e1, pwF]
  | succ n ih =>
    intro p hp hn
    have q1 : 0 ≤ r / p := Int.ediv_nonneg hr.1 (by omega)
    have q2 : r / p ≤ r := Int.ediv_le_self p hr.1
    have e1 := jdiv64_nn (x := r) (y := p) hr.1 (by omega) (by omega) (by omega)
    unfold pwF
    by_cases c : p * 10 ≤ r
    · rw [if_pos c]
      have c' : 10 ≤ r / p := by rw [Int.le_ediv_iff_mul_le (by omega)]; omega
      have ih' := ih (p * 10) (by omega) (by rw [Int.pow_succ] at hn; rw [Int.mul_assoc, Int.mul_comm 10]; exact hn)
      have go : ∀ X, EE d 204 20 [some (.ref 76), some (vl v0), none, some (vl r), none, some (vl (p * 10)), none, l7, l8] [] (SH L) J K R = X → EE d 204 20 [some (.ref 76), some (vl v0), none, some (vl r), none, some (vl p), none, l7, l8] [] (SH L) J K R = X := by
        intro X hX
        simp (disch := first | assumption | omega | exact bi_lo | exact bi_hi | exact bi_01 | exact jcmp_lo | exact jcmp_hi | exact (jor_r _ _).1 | exact (jor_r _ _).2 | exact (jand_r _ _).1 | exact (jand_r _ _).2) only [x204_20, x204_21, x204_23, x204_24, x204_27, x204_28, kb_some, kb_none, clr_vi, clr_ref, clr_null, clr_none, va_rf_some, va_rf_none, ↓bi_ite_t, ↓bi_ite_f, ↓jc_lt_t, ↓jc_lt_f, ↓jc_gt_t, ↓jc_gt_f, ↓jc_le_t, ↓jc_le_f, ↓jc_ge_t, ↓jc_ge_f, ↓jc_eq_t, ↓jc_eq_f, ↓if_pos, ↓if_neg, e1]
        simp (disch := first | assumption | omega | exact bi_lo | exact bi_hi | exact bi_01 | exact jcmp_lo | exact jcmp_hi | exact (jor_r _ _).1 | exact (jor_r _ _).2 | exact (jand_r _ _).1 | exact (jand_r _ _).2) only [x204_31, x204_33, x204_36, x204_37, x204_39, kb_some, kb_none, clr_vi, clr_ref, clr_null, clr_none, va_rf_some, va_rf_none, ↓bi_ite_t, ↓bi_ite_f, ↓jc_lt_t, ↓jc_lt_f, ↓jc_gt_t, ↓jc_gt_f, ↓jc_le_t, ↓jc_le_f, ↓jc_ge_t, ↓jc_ge_f, ↓jc_eq_t, ↓jc_eq_f, ↓if_pos, ↓if_neg]
        exact hX
      exact go _ ih'
    · rw [if_neg c]
      have c' : ¬ 10 ≤ r / p := by rw [Int.le_ediv_iff_mul_le (by omega)]; omega
      simp (disch := first | assumption | omega | exact bi_lo | exact bi_hi | exact bi_01 | exact jcmp_lo | exact jcmp_hi | exact (jor_r _ _).1 | exact (jor_r _ _).2 | exact (jand_r _ _).1 | exact (jand_r _ _).2) only [x204_20, x204_21, x204_23, x204_24, x204_27, x204_28, kb_some, kb_none, clr_vi, clr_ref, clr_null, clr_none, va_rf_some, va_rf_none, ↓bi_ite_t, ↓bi_ite_f, ↓jc_lt_t, ↓jc_lt_f, ↓jc_gt_t, ↓jc_gt_f, ↓jc_le_t, ↓jc_le_f, ↓jc_ge_t, ↓jc_ge_f, ↓jc_eq_t, ↓jc_eq_f, ↓if_pos, ↓if_neg, e1]
theorem ml_dig (h : MW f J0 R) {v0 p5 : Int} (hr : 0 ≤ r ∧ r ≤ 2147483648) : ∀ (n : Nat) (p : Int) (l : List Int), 0 ≤ p ∧ p ≤ 2147483648 → p < 10 ^ n → l.length + n ≤ 5000 →
    EE (d + 1) 204 46 [some (.ref 76), some (vl v0), none, some (vl r), none, some (vl p5), none, some (vl p), none] [] (SH L) (shL J0 l) K R = ok none (SH L) (shL J0 (l ++ dlF r n p)) K R := by
  have s76 : (SH L)[76]? = some (11, 58) := rfl
  intro n
  induction n with
  | zero =>
    intro p l hp hn hl
    have hn' : p < 1 := hn
    simp (disch := first | assumption | omega | exact bi_lo | exact bi_hi | exact bi_01 | exact jcmp_lo | exact jcmp_hi | exact (jor_r _ _).1 | exact (jor_r _ _).2 | exact (jand_r _ _).1 | exact (jand_r _ _).2) only [x204_46, x204_48, x204_49, x204_50, x204_80, kb_some, kb_none, clr_vi, clr_ref, clr_null, clr_none, va_rf_some, va_rf_none, ↓bi_ite_t, ↓bi_ite_f, ↓jc_lt_t, ↓jc_lt_f, ↓jc_gt_t, ↓jc_gt_f, ↓jc_le_t, ↓jc_le_f, ↓jc_ge_t, ↓jc_ge_f, ↓jc_eq_t, ↓jc_eq_f, ↓if_pos, ↓if_neg]
    unfold dlF; rw [List.append_nil]
  | succ n ih =>
    intro p l hp hn hl
    unfold dlF
    by_cases c : 0 < p
    · rw [if_pos c]
      rw [Int.pow_succ] at hn
      have hq1 : 0 ≤ r / p := Int.ediv_nonneg hr.1 (by omega)
      have hq2 : r / p ≤ r := Int.ediv_le_self p hr.1
      have e1 := jdiv64_nn (x := r) (y := p) hr.1 (by omega) c (by omega)
      have e2 := jrem64_nn (x := r / p) (y := 10) hq1 (by omega) (by omega) (by omega)
      have e3 := jl2i_s (x := r / p % 10) (by omega) (by omega)
      have e4 := jdiv64_nn (x := p) (y := 10) (by omega) (by omega) (by omega) (by omega)
      have ha := ms_shows (L := L) (d := d) (K := K) (y := 48 + r / p % 10) h (l := l) (by omega)
      have ih' := ih (p / 10) (l ++ [48 + r / p % 10]) (by omega) (by omega) (by simp; omega)
      simp (disch := first | assumption | omega | exact bi_lo | exact bi_hi | exact bi_01 | exact jcmp_lo | exact jcmp_hi | exact (jor_r _ _).1 | exact (jor_r _ _).2 | exact (jand_r _ _).1 | exact (jand_r _ _).2) only [x204_46, x204_48, x204_49, x204_50, kb_some, kb_none, clr_vi, clr_ref, clr_null, clr_none, va_rf_some, va_rf_none, ↓bi_ite_t, ↓bi_ite_f, ↓jc_lt_t, ↓jc_lt_f, ↓jc_gt_t, ↓jc_gt_f, ↓jc_le_t, ↓jc_le_f, ↓jc_ge_t, ↓jc_ge_f, ↓jc_eq_t, ↓jc_eq_f, ↓if_pos, ↓if_neg]
      simp (disch := first | assumption | omega | exact bi_lo | exact bi_hi | exact bi_01 | exact jcmp_lo | exact jcmp_hi | exact (jor_r _ _).1 | exact (jor_r _ _).2 | exact (jand_r _ _).1 | exact (jand_r _ _).2) only [x204_53, x204_54, x204_56, x204_57, x204_59, x204_60, x204_63, x204_64, x204_65, x204_66, x204_69, x204_71, x204_74, x204_75, x204_77, kb_some, kb_none, clr_vi, clr_ref, clr_null, clr_none, va_rf_some, va_rf_none, e1, e2, e3, e4, ha]
      rw [ih', List.append_assoc]; rfl
    · rw [if_neg c, List.append_nil]
      simp (disch := first | assumption | omega | exact bi_lo | exact bi_hi | exact bi_01 | exact jcmp_lo | exact jcmp_hi | exact (jor_r _ _).1 | exact (jor_r _ _).2 | exact (jand_r _ _).1 | exact (jand_r _ _).2) only [x204_46, x204_48, x204_49, x204_50, x204_80, kb_some, kb_none, clr_vi, clr_ref, clr_null, clr_none, va_rf_some, va_rf_none, ↓bi_ite_t, ↓bi_ite_f, ↓jc_lt_t, ↓jc_lt_f, ↓jc_gt_t, ↓jc_gt_f, ↓jc_le_t, ↓jc_le_f, ↓jc_ge_t, ↓jc_ge_f, ↓jc_eq_t, ↓jc_eq_f, ↓if_pos, ↓if_neg]
theorem ms_number (h : MW f J0 R) (hv : -2147483648 ≤ v ∧ v ≤ 2147483647) (hl : l.length + 11 ≤ 5000) : EE (d + 1) 204 0 [some (.ref 76), some (vl v), none, none, none, none, none, none, none] [] (SH L) (shL J0 l) K R = ok none (SH L) (shL J0 (l ++ numL v)) K R := by
  have s76 : (SH L)[76]? = some (11, 58) := rfl
  have hr := ab_r hv
  have hw := pwF_le (r := ab v) 10 1 (by omega)
  unfold numL
  by_cases c : v < 0
  · rw [if_pos c, ← List.append_assoc]
    have hab : -v = ab v := by unfold ab; rw [if_neg (by omega)]
    have ha := ms_shows (L := L) (d := d) (K := K) (y := 45) h (l := l) (by omega)
    have e := ml_pow (L := L) (d := d + 1) (K := K) (R := R) (J := shL J0 (l ++ [45])) (v0 := v) (l7 := none) (l8 := none) hr 10 1 (by omega) (by show _ < (1 : Int) * 100000000000; omega)
    have hd := ml_dig (L := L) (d := d) (K := K) (v0 := v) (p5 := pwF (ab v) 10 1) h hr 10 (pwF (ab v) 10 1) (l ++ [45]) (by omega) (by show _ < (10000000000 : Int); omega) (by simp; omega)
    simp (disch := first | assumption | omega | exact bi_lo | exact bi_hi | exact bi_01 | exact jcmp_lo | exact jcmp_hi | exact (jor_r _ _).1 | exact (jor_r _ _).2 | exact (jand_r _ _).1 | exact (jand_r _ _).2) only [x204_0, x204_1, x204_2, x204_3, x204_4, x204_5, x204_8, x204_9, x204_11, x204_14, x204_15, x204_16, x204_17, x204_18, kb_some, kb_none, clr_vi, clr_ref, clr_null, clr_none, va_rf_some, va_rf_none, ↓bi_ite_t, ↓bi_ite_f, ↓jc_lt_t, ↓jc_lt_f, ↓jc_gt_t, ↓jc_gt_f, ↓jc_le_t, ↓jc_le_f, ↓jc_ge_t, ↓jc_ge_f, ↓jc_eq_t, ↓jc_eq_f, ↓if_pos, ↓if_neg, ha, hab]
    rw [e]
    simp (disch := first | assumption | omega | exact bi_lo | exact bi_hi | exact bi_01 | exact jcmp_lo | exact jcmp_hi | exact (jor_r _ _).1 | exact (jor_r _ _).2 | exact (jand_r _ _).1 | exact (jand_r _ _).2) only [x204_42, x204_44, kb_some, kb_none, clr_vi, clr_ref, clr_null, clr_none, va_rf_some, va_rf_none]
    exact hd
  · rw [if_neg c, List.nil_append]
    by_cases c2 : 0 < v
    · have hab : ab v = v := by unfold ab; rw [if_pos c2]
      have e := ml_pow (L := L) (d := d + 1) (K := K) (R := R) (J := shL J0 l) (v0 := v) (l7 := none) (l8 := none) hr 10 1 (by omega) (by show _ < (1 : Int) * 100000000000; omega)
      have hd := ml_dig (L := L) (d := d) (K := K) (v0 := v) (p5 := pwF (ab v) 10 1) h hr 10 (pwF (ab v) 10 1) l (by omega) (by show _ < (10000000000 : Int); omega) (by omega)
      rw [hab] at e hd ⊢
      simp (disch := first | assumption | omega | exact bi_lo | exact bi_hi | exact bi_01 | exact jcmp_lo | exact jcmp_hi | exact (jor_r _ _).1 | exact (jor_r _ _).2 | exact (jand_r _ _).1 | exact (jand_r _ _).2) only [x204_0, x204_1, x204_2, x204_3, x204_4, x204_5, x204_17, x204_18, kb_some, kb_none, clr_vi, clr_ref, clr_null, clr_none, va_rf_some, va_rf_none, ↓bi_ite_t, ↓bi_ite_f, ↓jc_lt_t, ↓jc_lt_f, ↓jc_gt_t, ↓jc_gt_f, ↓jc_le_t, ↓jc_le_f, ↓jc_ge_t, ↓jc_ge_f, ↓jc_eq_t, ↓jc_eq_f, ↓if_pos, ↓if_neg]
      rw [e]
      simp (disch := first | assumption | omega | exact bi_lo | exact bi_hi | exact bi_01 | exact jcmp_lo | exact jcmp_hi | exact (jor_r _ _).1 | exact (jor_r _ _).2 | exact (jand_r _ _).1 | exact (jand_r _ _).2) only [x204_42, x204_44, kb_some, kb_none, clr_vi, clr_ref, clr_null, clr_none, va_rf_some, va_rf_none]
      exact hd
    · have hv0 : v = 0 := by omega
      subst hv0
      have hab : ab 0 = 0 := rfl
      have e := ml_pow (L := L) (d := d + 1) (K := K) (R := R) (J := shL J0 l) (v0 := 0) (l7 := none) (l8 := none) hr 10 1 (by omega) (by show _ < (1 : Int) * 100000000000; omega)
      have hd := ml_dig (L := L) (d := d) (K := K) (v0 := 0) (p5 := pwF (ab 0) 10 1) h hr 10 (pwF (ab 0) 10 1) l (by omega) (by show _ < (10000000000 : Int); omega) (by omega)
      rw [hab] at e hd ⊢
      simp (disch := first | assumption | omega | exact bi_lo | exact bi_hi | exact bi_01 | exact jcmp_lo | exact jcmp_hi | exact (jor_r _ _).1 | exact (jor_r _ _).2 | exact (jand_r _ _).1 | exact (jand_r _ _).2) only [x204_0, x204_1, x204_2, x204_3, x204_4, x204_5, x204_17, x204_18, kb_some, kb_none, clr_vi, clr_ref, clr_null, clr_none, va_rf_some, va_rf_none, ↓bi_ite_t, ↓bi_ite_f, ↓jc_lt_t, ↓jc_lt_f, ↓jc_gt_t, ↓jc_gt_f, ↓jc_le_t, ↓jc_le_f, ↓jc_ge_t, ↓jc_ge_f, ↓jc_eq_t, ↓jc_eq_f, ↓if_pos, ↓if_neg]
      rw [e]
      simp (disch := first | assumption | omega | exact bi_lo | exact bi_hi | exact bi_01 | exact jcmp_lo | exact jcmp_hi | exact (jor_r _ _).1 | exact (jor_r _ _).2 | exact (jand_r _ _).1 | exact (jand_r _ _).2) only [x204_42, x204_44, kb_some, kb_none, clr_vi, clr_ref, clr_null, clr_none, va_rf_some, va_rf_none]
      exact hd
theorem MR_g {J : mJ} (h : MR f J R) (hp : 0 ≤ f p) : 0 ≤ p ∧ p < J 76 1 ∧ J 77 p.toNat = f p := by
  obtain ⟨u1, u2, u3, u4⟩ := h
  have e : f p = mA J p := by rw [u4]
  unfold mA at e
  split at e
  · exact ⟨by omega, by omega, e.symm⟩
  · omega
/-- a leaf at i -/
def mL (J0 : mJ) (a : Da) (i : Nat) : Prop := J0 86 i = a.1 ∧ J0 87 i = a.2.1 ∧ J0 88 i = a.2.2
theorem ml_words (h : MW f J0 R) {i : Nat} (hi : i < 60) {a : Da} (ha : mL J0 a i) (hw : a.2.1 ≤ 20) (hb : ∀ k, 0 ≤ k → k < a.2.1 → 0 ≤ f (a.2.2 + k) ∧ f (a.2.2 + k) ≤ 255) (hst : 0 ≤ a.2.2) : ∀ (m : Nat) (k : Int) (l : List Int), (a.2.1 - k).toNat = m → 0 ≤ k ∧ k ≤ a.2.1 → l.length + m + 1 ≤ 5000 →
    EE (d + 1) 205 8 [some (.ref 76), some (vi i), some (vi k)] [] (SH L) (shL J0 l) K R = ok none (SH L) (shL J0 (l ++ rowL f m (a.2.2 + k) ++ [34])) K R := by
  have hR := h.1.1
  have s76 : (SH L)[76]? = some (11, 58) := rfl; have r76_0 : R 76 0 = some 77 := rr_lk hR rfl; have r76_3 : R 76 3 = some 78 := rr_lk hR rfl; have r76_4 : R 76 4 = some 79 := rr_lk hR rfl; have r76_6 : R 76 6 = some 80 := rr_lk hR rfl; have r76_7 : R 76 7 = some 81 := rr_lk hR rfl; have r76_9 : R 76 9 = some 82 := rr_lk hR rfl; have r76_10 : R 76 10 = some 83 := rr_lk hR rfl; have r76_12 : R 76 12 = some 84 := rr_lk hR rfl; have r76_13 : R 76 13 = some 85 := rr_lk hR rfl; have r76_19 : R 76 19 = some 86 := rr_lk hR rfl; have r76_20 : R 76 20 = some 87 := rr_lk hR rfl; have r76_21 : R 76 21 = some 88 := rr_lk hR rfl; have r76_22 : R 76 22 = some 89 := rr_lk hR rfl; have r76_24 : R 76 24 = some 90 := rr_lk hR rfl; have r76_25 : R 76 25 = some 91 := rr_lk hR rfl; have r76_26 : R 76 26 = some 92 := rr_lk hR rfl; have r76_28 : R 76 28 = some 93 := rr_lk hR rfl; have r76_29 : R 76 29 = some 94 := rr_lk hR rfl; have r76_30 : R 76 30 = some 95 := rr_lk hR rfl; have r76_31 : R 76 31 = some 96 := rr_lk hR rfl; have r76_32 : R 76 32 = some 97 := rr_lk hR rfl; have r76_36 : R 76 36 = some 98 := rr_lk hR rfl; have r76_38 : R 76 38 = some 99 := rr_lk hR rfl; have r76_39 : R 76 39 = some 100 := rr_lk hR rfl; have r76_40 : R 76 40 = some 101 := rr_lk hR rfl; have r76_41 : R 76 41 = some 102 := rr_lk hR rfl; have r76_42 : R 76 42 = some 103 := rr_lk hR rfl; have r76_47 : R 76 47 = some 104 := rr_lk hR rfl; have r76_53 : R 76 53 = some 105 := rr_lk hR rfl; have r76_54 : R 76 54 = some 106 := rr_lk hR rfl; have r76_55 : R 76 55 = some 107 := rr_lk hR rfl; have r76_56 : R 76 56 = some 108 := rr_lk hR rfl; have r76_57 : R 76 57 = some 109 := rr_lk hR rfl; have s77 : (SH L)[77]? = some (20, 120) := rfl; have s87 : (SH L)[87]? = some (20, 60) := rfl; have s88 : (SH L)[88]? = some (20, 60) := rfl
  have hn := h.1.2.1
  have e87 : ∀ l, shL J0 l 87 = J0 87 := fun l => shL_a (by decide)
  have e88 : ∀ l, shL J0 l 88 = J0 88 := fun l => shL_a (by decide)
  have e77 : ∀ l, shL J0 l 77 = J0 77 := fun l => shL_a (by decide)
  obtain ⟨a1, a2, a3⟩ := ha
  intro m
  induction m with
  | zero =>
    intro k l hm hk hl
    have hap := ms_shows (L := L) (d := d) (K := K) (y := 34) h (l := l) (by omega)
    simp (disch := first | assumption | omega | exact bi_lo | exact bi_hi | exact bi_01 | exact jcmp_lo | exact jcmp_hi | exact (jor_r _ _).1 | exact (jor_r _ _).2 | exact (jand_r _ _).1 | exact (jand_r _ _).2) only [x205_8, x205_9, x205_10, x205_13, x205_14, x205_15, x205_41, x205_42, x205_44, x205_47, kb_some, kb_none, clr_vi, clr_ref, clr_null, clr_none, va_rf_some, va_rf_none, ↓bi_ite_t, ↓bi_ite_f, ↓jc_lt_t, ↓jc_lt_f, ↓jc_gt_t, ↓jc_gt_f, ↓jc_le_t, ↓jc_le_f, ↓jc_ge_t, ↓jc_ge_f, ↓jc_eq_t, ↓jc_eq_f, ↓if_pos, ↓if_neg, e87, Int.toNat_natCast, a2, hap]
    unfold rowL; rw [List.append_nil]
  | succ m ih =>
    intro k l hm hk hl
    obtain ⟨q1, q2, q3⟩ := MR_g h.1 (hb k (by omega) (by omega)).1
    have hap := ms_shows (L := L) (d := d) (K := K) (y := f (a.2.2 + k)) h (l := l) (by omega)
    have ih' := ih (k + 1) (l ++ [f (a.2.2 + k)]) (by omega) (by omega) (by simp; omega)
    simp (disch := first | assumption | omega | exact bi_lo | exact bi_hi | exact bi_01 | exact jcmp_lo | exact jcmp_hi | exact (jor_r _ _).1 | exact (jor_r _ _).2 | exact (jand_r _ _).1 | exact (jand_r _ _).2) only [x205_8, x205_9, x205_10, x205_13, x205_14, x205_15, kb_some, kb_none, clr_vi, clr_ref, clr_null, clr_none, va_rf_some, va_rf_none, ↓bi_ite_t, ↓bi_ite_f, ↓jc_lt_t, ↓jc_lt_f, ↓jc_gt_t, ↓jc_gt_f, ↓jc_le_t, ↓jc_le_f, ↓jc_ge_t, ↓jc_ge_f, ↓jc_eq_t, ↓jc_eq_f, ↓if_pos, ↓if_neg, e87, Int.toNat_natCast, a2]
    simp (disch := first | assumption | omega | exact bi_lo | exact bi_hi | exact bi_01 | exact jcmp_lo | exact jcmp_hi | exact (jor_r _ _).1 | exact (jor_r _ _).2 | exact (jand_r _ _).1 | exact (jand_r _ _).2) only [x205_18, x205_19, x205_20, x205_23, x205_24, x205_27, x205_28, x205_29, x205_30, x205_31, x205_32, x205_35, x205_38, kb_some, kb_none, clr_vi, clr_ref, clr_null, clr_none, va_rf_some, va_rf_none, e88, e77, Int.toNat_natCast, a3, q3, hap]
    rw [ih', show a.2.2 + (k + 1) = a.2.2 + k + 1 by omega, rowL_s]
    simp
theorem ml_raw (h : MW f J0 R) {i : Nat} (hi : i < 60) {a : Da} (ha : mL J0 a i) (hw : a.2.1 ≤ 20) (hb : ∀ k, 0 ≤ k → k < a.2.1 → 0 ≤ f (a.2.2 + k) ∧ f (a.2.2 + k) ≤ 255) (hst : 0 ≤ a.2.2) : ∀ (m : Nat) (k : Int) (l : List Int), (a.2.1 - k).toNat = m → 0 ≤ k ∧ k ≤ a.2.1 → l.length + 4 * m + 20 ≤ 5000 →
    EE (d + 2) 206 8 [some (.ref 76), some (vi i), some (vi k)] [] (SH L) (shL J0 l) K R = ok none (SH L) (shL J0 (l ++ (if k = 0 then (rawL f m (a.2.2 + k)).drop 1 else rawL f m (a.2.2 + k)) ++ [62])) K R := by
  have hR := h.1.1
  have s76 : (SH L)[76]? = some (11, 58) := rfl; have r76_0 : R 76 0 = some 77 := rr_lk hR rfl; have r76_3 : R 76 3 = some 78 := rr_lk hR rfl; have r76_4 : R 76 4 = some 79 := rr_lk hR rfl; have r76_6 : R 76 6 = some 80 := rr_lk hR rfl; have r76_7 : R 76 7 = some 81 := rr_lk hR rfl; have r76_9 : R 76 9 = some 82 := rr_lk hR rfl; have r76_10 : R 76 10 = some 83 := rr_lk hR rfl; have r76_12 : R 76 12 = some 84 := rr_lk hR rfl; have r76_13 : R 76 13 = some 85 := rr_lk hR rfl; have r76_19 : R 76 19 = some 86 := rr_lk hR rfl; have r76_20 : R 76 20 = some 87 := rr_lk hR rfl; have r76_21 : R 76 21 = some 88 := rr_lk hR rfl; have r76_22 : R 76 22 = some 89 := rr_lk hR rfl; have r76_24 : R 76 24 = some 90 := rr_lk hR rfl; have r76_25 : R 76 25 = some 91 := rr_lk hR rfl; have r76_26 : R 76 26 = some 92 := rr_lk hR rfl; have r76_28 : R 76 28 = some 93 := rr_lk hR rfl; have r76_29 : R 76 29 = some 94 := rr_lk hR rfl; have r76_30 : R 76 30 = some 95 := rr_lk hR rfl; have r76_31 : R 76 31 = some 96 := rr_lk hR rfl; have r76_32 : R 76 32 = some 97 := rr_lk hR rfl; have r76_36 : R 76 36 = some 98 := rr_lk hR rfl; have r76_38 : R 76 38 = some 99 := rr_lk hR rfl; have r76_39 : R 76 39 = some 100 := rr_lk hR rfl; have r76_40 : R 76 40 = some 101 := rr_lk hR rfl; have r76_41 : R 76 41 = some 102 := rr_lk hR rfl; have r76_42 : R 76 42 = some 103 := rr_lk hR rfl; have r76_47 : R 76 47 = some 104 := rr_lk hR rfl; have r76_53 : R 76 53 = some 105 := rr_lk hR rfl; have r76_54 : R 76 54 = some 106 := rr_lk hR rfl; have r76_55 : R 76 55 = some 107 := rr_lk hR rfl; have r76_56 : R 76 56 = some 108 := rr_lk hR rfl; have r76_57 : R 76 57 = some 109 := rr_lk hR rfl; have s77 : (SH L)[77]? = some (20, 120) := rfl; have s87 : (SH L)[87]? = some (20, 60) := rfl; have s88 : (SH L)[88]? = some (20, 60) := rfl
  have hn := h.1.2.1
  have e87 : ∀ l, shL J0 l 87 = J0 87 := fun l => shL_a (by decide)
  have e88 : ∀ l, shL J0 l 88 = J0 88 := fun l => shL_a (by decide)
  have e77 : ∀ l, shL J0 l 77 = J0 77 := fun l => shL_a (by decide)
  obtain ⟨a1, a2, a3⟩ := ha
  intro m
  induction m with
  | zero =>
    intro k l hm hk hl
    have hap := ms_shows (L := L) (d := d + 1) (K := K) (y := 62) h (l := l) (by omega)
    simp (disch := first | assumption | omega | exact bi_lo | exact bi_hi | exact bi_01 | exact jcmp_lo | exact jcmp_hi | exact (jor_r _ _).1 | exact (jor_r _ _).2 | exact (jand_r _ _).1 | exact (jand_r _ _).2) only [x206_8, x206_9, x206_10, x206_13, x206_14, x206_15, x206_52, x206_53, x206_55, x206_58, kb_some, kb_none, clr_vi, clr_ref, clr_null, clr_none, va_rf_some, va_rf_none, ↓bi_ite_t, ↓bi_ite_f, ↓jc_lt_t, ↓jc_lt_f, ↓jc_gt_t, ↓jc_gt_f, ↓jc_le_t, ↓jc_le_f, ↓jc_ge_t, ↓jc_ge_f, ↓jc_eq_t, ↓jc_eq_f, ↓if_pos, ↓if_neg, e87, Int.toNat_natCast, a2, hap]
    unfold rawL
    simp
  | succ m ih =>
    intro k l hm hk hl
    have hbk := hb k (by omega) (by omega)
    have hlen := numL_len3 hbk
    obtain ⟨q1, q2, q3⟩ := MR_g h.1 hbk.1
    by_cases c : k = 0
    · have hnu := ms_number (L := L) (d := d) (K := K) (v := f (a.2.2 + k)) h (l := l) (by omega) (by omega)
      have ih' := ih (k + 1) (l ++ numL (f (a.2.2 + k))) (by omega) (by omega) (by simp; omega)
      rw [if_neg (by omega)] at ih'
      rw [if_pos c]
      simp (disch := first | assumption | omega | exact bi_lo | exact bi_hi | exact bi_01 | exact jcmp_lo | exact jcmp_hi | exact (jor_r _ _).1 | exact (jor_r _ _).2 | exact (jand_r _ _).1 | exact (jand_r _ _).2) only [x206_8, x206_9, x206_10, x206_13, x206_14, x206_15, kb_some, kb_none, clr_vi, clr_ref, clr_null, clr_none, va_rf_some, va_rf_none, ↓bi_ite_t, ↓bi_ite_f, ↓jc_lt_t, ↓jc_lt_f, ↓jc_gt_t, ↓jc_gt_f, ↓jc_le_t, ↓jc_le_f, ↓jc_ge_t, ↓jc_ge_f, ↓jc_eq_t, ↓jc_eq_f, ↓if_pos, ↓if_neg, e87, Int.toNat_natCast, a2]
      simp (disch := first | assumption | omega | exact bi_lo | exact bi_hi | exact bi_01 | exact jcmp_lo | exact jcmp_hi | exact (jor_r _ _).1 | exact (jor_r _ _).2 | exact (jand_r _ _).1 | exact (jand_r _ _).2) only [x206_18, x206_19, x206_28, x206_29, x206_30, x206_33, x206_34, x206_37, x206_38, x206_39, x206_40, x206_41, x206_42, x206_43, x206_46, x206_49, kb_some, kb_none, clr_vi, clr_ref, clr_null, clr_none, va_rf_some, va_rf_none, ↓bi_ite_t, ↓bi_ite_f, ↓jc_lt_t, ↓jc_lt_f, ↓jc_gt_t, ↓jc_gt_f, ↓jc_le_t, ↓jc_le_f, ↓jc_ge_t, ↓jc_ge_f, ↓jc_eq_t, ↓jc_eq_f, ↓if_pos, ↓if_neg, e88, e77, Int.toNat_natCast, a3, q3, hnu]
      rw [ih', show a.2.2 + (k + 1) = a.2.2 + k + 1 by omega, rawL_s]
      simp
    · have hap := ms_shows (L := L) (d := d + 1) (K := K) (y := 44) h (l := l) (by omega)
      have hnu := ms_number (L := L) (d := d) (K := K) (v := f (a.2.2 + k)) h (l := l ++ [44]) (by omega) (by simp; omega)
      have ih' := ih (k + 1) (l ++ [44] ++ numL (f (a.2.2 + k))) (by omega) (by omega) (by simp; omega)
      rw [if_neg (by omega)] at ih'
      rw [if_neg c]
      simp (disch := first | assumption | omega | exact bi_lo | exact bi_hi | exact bi_01 | exact jcmp_lo | exact jcmp_hi | exact (jor_r _ _).1 | exact (jor_r _ _).2 | exact (jand_r _ _).1 | exact (jand_r _ _).2) only [x206_8, x206_9, x206_10, x206_13, x206_14, x206_15, kb_some, kb_none, clr_vi, clr_ref, clr_null, clr_none, va_rf_some, va_rf_none, ↓bi_ite_t, ↓bi_ite_f, ↓jc_lt_t, ↓jc_lt_f, ↓jc_gt_t, ↓jc_gt_f, ↓jc_le_t, ↓jc_le_f, ↓jc_ge_t, ↓jc_ge_f, ↓jc_eq_t, ↓jc_eq_f, ↓if_pos, ↓if_neg, e87, Int.toNat_natCast, a2]
      simp (disch := first | assumption | omega | exact bi_lo | exact bi_hi | exact bi_01 | exact jcmp_lo | exact jcmp_hi | exact (jor_r _ _).1 | exact (jor_r _ _).2 | exact (jand_r _ _).1 | exact (jand_r _ _).2) only [x206_18, x206_19, x206_22, x206_23, x206_25, x206_28, x206_29, x206_30, x206_33, x206_34, x206_37, x206_38, x206_39, x206_40, x206_41, x206_42, x206_43, x206_46, x206_49, kb_some, kb_none, clr_vi, clr_ref, clr_null, clr_none, va_rf_some, va_rf_none, ↓bi_ite_t, ↓bi_ite_f, ↓jc_lt_t, ↓jc_lt_f, ↓jc_gt_t, ↓jc_gt_f, ↓jc_le_t, ↓jc_le_f, ↓jc_ge_t, ↓jc_ge_f, ↓jc_eq_t, ↓jc_eq_f, ↓if_pos, ↓if_neg, e88, e77, Int.toNat_natCast, a3, q3, hnu, hap]
      rw [ih', show a.2.2 + (k + 1) = a.2.2 + k + 1 by omega, rawL_s]
      simp
theorem ms_plain (h : MW f J0 R) {i : Nat} (hi : i < 60) {a : Da} (ha : mL J0 a i) (hw : wD f a) (h3 : a.1 ≠ 103) (hl : l.length ≤ 4000) :
    EE (d + 3) 207 0 [some (.ref 76), some (vi i)] [] (SH L) (shL J0 l) K R = ok none (SH L) (shL J0 (l ++ leafL f a)) K R := by
  have hR := h.1.1
  have s76 : (SH L)[76]? = some (11, 58) := rfl; have r76_0 : R 76 0 = some 77 := rr_lk hR rfl; have r76_3 : R 76 3 = some 78 := rr_lk hR rfl; have r76_4 : R 76 4 = some 79 := rr_lk hR rfl; have r76_6 : R 76 6 = some 80 := rr_lk hR rfl; have r76_7 : R 76 7 = some 81 := rr_lk hR rfl; have r76_9 : R 76 9 = some 82 := rr_lk hR rfl; have r76_10 : R 76 10 = some 83 := rr_lk hR rfl; have r76_12 : R 76 12 = some 84 := rr_lk hR rfl; have r76_13 : R 76 13 = some 85 := rr_lk hR rfl; have r76_19 : R 76 19 = some 86 := rr_lk hR rfl; have r76_20 : R 76 20 = some 87 := rr_lk hR rfl; have r76_21 : R 76 21 = some 88 := rr_lk hR rfl; have r76_22 : R 76 22 = some 89 := rr_lk hR rfl; have r76_24 : R 76 24 = some 90 := rr_lk hR rfl; have r76_25 : R 76 25 = some 91 := rr_lk hR rfl; have r76_26 : R 76 26 = some 92 := rr_lk hR rfl; have r76_28 : R 76 28 = some 93 := rr_lk hR rfl; have r76_29 : R 76 29 = some 94 := rr_lk hR rfl; have r76_30 : R 76 30 = some 95 := rr_lk hR rfl; have r76_31 : R 76 31 = some 96 := rr_lk hR rfl; have r76_32 : R 76 32 = some 97 := rr_lk hR rfl; have r76_36 : R 76 36 = some 98 := rr_lk hR rfl; have r76_38 : R 76 38 = some 99 := rr_lk hR rfl; have r76_39 : R 76 39 = some 100 := rr_lk hR rfl; have r76_40 : R 76 40 = some 101 := rr_lk hR rfl; have r76_41 : R 76 41 = some 102 := rr_lk hR rfl; have r76_42 : R 76 42 = some 103 := rr_lk hR rfl; have r76_47 : R 76 47 = some 104 := rr_lk hR rfl; have r76_53 : R 76 53 = some 105 := rr_lk hR rfl; have r76_54 : R 76 54 = some 106 := rr_lk hR rfl; have r76_55 : R 76 55 = some 107 := rr_lk hR rfl; have r76_56 : R 76 56 = some 108 := rr_lk hR rfl; have r76_57 : R 76 57 = some 109 := rr_lk hR rfl; have s86 : (SH L)[86]? = some (20, 60) := rfl; have s87 : (SH L)[87]? = some (20, 60) := rfl
  have e86 : ∀ l, shL J0 l 86 = J0 86 := fun l => shL_a (by decide)
  have e87 : ∀ l, shL J0 l 87 = J0 87 := fun l => shL_a (by decide)
  have ha' := ha
  obtain ⟨a1, a2, a3⟩ := ha
  unfold leafL
  rcases hw with ⟨w1, w2, w3⟩ | ⟨w1, w2, w3, w4, w5, w6⟩ | w1
  · rw [if_pos w1]
    have hnu := ms_number (L := L) (d := d + 1) (K := K) (v := a.2.1) h (l := l) ⟨w2, w3⟩ (by omega)
    simp (disch := first | assumption | omega | exact bi_lo | exact bi_hi | exact bi_01 | exact jcmp_lo | exact jcmp_hi | exact (jor_r _ _).1 | exact (jor_r _ _).2 | exact (jand_r _ _).1 | exact (jand_r _ _).2) only [x207_0, x207_1, x207_4, x207_5, x207_6, x207_8, x207_11, x207_12, x207_13, x207_16, x207_17, x207_18, x207_19, x207_22, x207_25, x207_26, x207_29, x207_30, x207_31, x207_33, x207_36, x207_37, x207_38, x207_41, x207_44, x207_45, x207_46, x207_49, kb_some, kb_none, clr_vi, clr_ref, clr_null, clr_none, va_rf_some, va_rf_none, ↓bi_ite_t, ↓bi_ite_f, ↓jc_lt_t, ↓jc_lt_f, ↓jc_gt_t, ↓jc_gt_f, ↓jc_le_t, ↓jc_le_f, ↓jc_ge_t, ↓jc_ge_f, ↓jc_eq_t, ↓jc_eq_f, ↓if_pos, ↓if_neg, e86, e87, Int.toNat_natCast, a1, a2, w1, hnu]
  · rw [if_neg (by omega)]
    rcases w1 with w1' | w1'
    · rw [if_pos w1']
      have hap := ms_shows (L := L) (d := d + 1) (K := K) (y := 34) h (l := l) (by omega)
      have hlp := ml_words (L := L) (d := d + 1) (K := K) h hi ha' w3 w6 w4 a.2.1.toNat 0 (l ++ [34]) (by omega) (by omega) (by simp; omega)
      have go : EE (d + 2) 205 0 [some (.ref 76), some (vi i), none] [] (SH L) (shL J0 l) K R = ok none (SH L) (shL J0 (l ++ (34 :: rowL f a.2.1.toNat a.2.2 ++ [34]))) K R := by
        simp (disch := first | assumption | omega | exact bi_lo | exact bi_hi | exact bi_01 | exact jcmp_lo | exact jcmp_hi | exact (jor_r _ _).1 | exact (jor_r _ _).2 | exact (jand_r _ _).1 | exact (jand_r _ _).2) only [x205_0, x205_1, x205_3, x205_6, x205_7, kb_some, kb_none, clr_vi, clr_ref, clr_null, clr_none, va_rf_some, va_rf_none, hap]
        rw [hlp, Int.add_zero]
        simp
      simp (disch := first | assumption | omega | exact bi_lo | exact bi_hi | exact bi_01 | exact jcmp_lo | exact jcmp_hi | exact (jor_r _ _).1 | exact (jor_r _ _).2 | exact (jand_r _ _).1 | exact (jand_r _ _).2) only [x207_0, x207_1, x207_4, x207_5, x207_6, x207_8, x207_11, x207_12, x207_13, x207_16, x207_17, x207_18, x207_19, x207_22, x207_25, x207_26, x207_29, x207_30, x207_31, x207_33, x207_36, x207_37, x207_38, x207_41, x207_44, x207_45, x207_46, x207_49, kb_some, kb_none, clr_vi, clr_ref, clr_null, clr_none, va_rf_some, va_rf_none, ↓bi_ite_t, ↓bi_ite_f, ↓jc_lt_t, ↓jc_lt_f, ↓jc_gt_t, ↓jc_gt_f, ↓jc_le_t, ↓jc_le_f, ↓jc_ge_t, ↓jc_ge_f, ↓jc_eq_t, ↓jc_eq_f, ↓if_pos, ↓if_neg, e86, Int.toNat_natCast, a1, w1', go]
    · rw [if_neg (by omega)]
      have hap := ms_shows (L := L) (d := d + 1) (K := K) (y := 60) h (l := l) (by omega)
      have hlp := ml_raw (L := L) (d := d) (K := K) h hi ha' w3 w6 w4 a.2.1.toNat 0 (l ++ [60]) (by omega) (by omega) (by simp; omega)
      have go : EE (d + 2) 206 0 [some (.ref 76), some (vi i), none] [] (SH L) (shL J0 l) K R = ok none (SH L) (shL J0 (l ++ (60 :: (rawL f a.2.1.toNat a.2.2).drop 1 ++ [62]))) K R := by
        simp (disch := first | assumption | omega | exact bi_lo | exact bi_hi | exact bi_01 | exact jcmp_lo | exact jcmp_hi | exact (jor_r _ _).1 | exact (jor_r _ _).2 | exact (jand_r _ _).1 | exact (jand_r _ _).2) only [x206_0, x206_1, x206_3, x206_6, x206_7, kb_some, kb_none, clr_vi, clr_ref, clr_null, clr_none, va_rf_some, va_rf_none, hap]
        rw [hlp, Int.add_zero, if_pos rfl]
        simp
      simp (disch := first | assumption | omega | exact bi_lo | exact bi_hi | exact bi_01 | exact jcmp_lo | exact jcmp_hi | exact (jor_r _ _).1 | exact (jor_r _ _).2 | exact (jand_r _ _).1 | exact (jand_r _ _).2) only [x207_0, x207_1, x207_4, x207_5, x207_6, x207_8, x207_11, x207_12, x207_13, x207_16, x207_17, x207_18, x207_19, x207_22, x207_25, x207_26, x207_29, x207_30, x207_31, x207_33, x207_36, x207_37, x207_38, x207_41, x207_44, x207_45, x207_46, x207_49, kb_some, kb_none, clr_vi, clr_ref, clr_null, clr_none, va_rf_some, va_rf_none, ↓bi_ite_t, ↓bi_ite_f, ↓jc_lt_t, ↓jc_lt_f, ↓jc_gt_t, ↓jc_gt_f, ↓jc_le_t, ↓jc_le_f, ↓jc_ge_t, ↓jc_ge_f, ↓jc_eq_t, ↓jc_eq_f, ↓if_pos, ↓if_neg, e86, Int.toNat_natCast, a1, w1', go]
  · exact absurd w1 h3
end
