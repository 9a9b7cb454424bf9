/-! the reference reads a text: the loop -/
section
variable {L d : Nat} {t : Int → Int} {J K : mJ} {R : mm_R} {p x y b : Int}
theorem mx_bytes (h : MT t J R) (hp : 0 ≤ p ∧ p ≤ J 76 43) (h18 : 1 ≤ J 76 18 ∧ J 76 18 ≤ 60) (h46 : 0 ≤ J 76 46 ∧ J 76 46 ≤ p) (h87 : J 87 (J 76 18 - 1).toNat = 0) :
    if isD (t p) then match rwF t 19 p with
      | .error e => ∃ l', EE (d + 3) 183 0 [some (.ref 76)] [] (SH L) (st J 0 p) K R = ok none (SH L) (st (tML J l') 1 e) K R
      | .ok s => EE (d + 3) 183 0 [some (.ref 76)] [] (SH L) (st J 0 p) K R = ok none (SH L) (st (tML J s.1) 0 s.2) K R
    else EE (d + 3) 183 0 [some (.ref 76)] [] (SH L) (st J 0 p) K R = ok none (SH L) (st J 0 p) K R := by
  have s76 : (SH L)[76]? = some (11, 58) := rfl
  have hh := fun d => mx_here (L := L) (d := d) (b := 0) (K := K) h hp
  have hr := MT_r (p := p) h
  have hin := fun d => m_in (d := d) (S := SH L) (J := st J 0 p) (K := K) (R := R) (x := t p) (y := 48) (z := 57) (by omega) (by omega) (by omega)
  by_cases c : isD (t p)
  · rw [if_pos c]
    simp only [bi_t (show 48 ≤ t p ∧ t p ≤ 57 from c)] at hin
    have hl := l_mbytes (L := L) (d := d) (K := K) h h18 h46.1 h87 19 p [] rfl hp.1 hp.2 (by simp; omega)
    have e0 : tML J [] = J := rfl
    rw [e0] at hl
    have go : ∀ X, EE (d + 3) 183 25 [some (.ref 76)] [] (SH L) (st J 0 p) K R = X → EE (d + 3) 183 0 [some (.ref 76)] [] (SH L) (st J 0 p) K R = X := by
      intro X hX
      simp (disch := first | assumption | omega | exact bi_lo | exact bi_hi | exact bi_01 | exact jcmp_lo | exact jcmp_hi | exact (jor_r _ _).1 | exact (jor_r _ _).2 | exact (jand_r _ _).1 | exact (jand_r _ _).2) only [x183_0, x183_1, x183_4, x183_7, x183_8, x183_11, x183_12, x183_15, x183_18, x183_21, kb_some, kb_none, clr_vi, clr_ref, clr_null, clr_none, va_rf_some, va_rf_none, ↓bi_ite_t, ↓bi_ite_f, ↓jc_lt_t, ↓jc_lt_f, ↓jc_gt_t, ↓jc_gt_f, ↓jc_le_t, ↓jc_le_f, ↓jc_ge_t, ↓jc_ge_f, ↓jc_eq_t, ↓jc_eq_f, ↓if_pos, ↓if_neg, st_45, hh, hin]
      exact hX
    cases hs : rwF t 19 p with
    | error e => rw [hs] at hl; obtain ⟨l', j1⟩ := hl; exact ⟨l', go _ j1⟩
    | ok s => rw [hs] at hl; exact go _ hl
  · rw [if_neg c]
    simp only [bi_f (show ¬ (48 ≤ t p ∧ t p ≤ 57) from c)] at hin
    simp (disch := first | assumption | omega | exact bi_lo | exact bi_hi | exact bi_01 | exact jcmp_lo | exact jcmp_hi | exact (jor_r _ _).1 | exact (jor_r _ _).2 | exact (jand_r _ _).1 | exact (jand_r _ _).2) only [x183_0, x183_1, x183_4, x183_7, x183_8, x183_11, x183_12, x183_15, x183_18, x183_21, x183_24, kb_some, kb_none, clr_vi, clr_ref, clr_null, clr_none, va_rf_some, va_rf_none, ↓bi_ite_t, ↓bi_ite_f, ↓jc_lt_t, ↓jc_lt_f, ↓jc_gt_t, ↓jc_gt_f, ↓jc_le_t, ↓jc_le_f, ↓jc_ge_t, ↓jc_ge_f, ↓jc_eq_t, ↓jc_eq_f, ↓if_pos, ↓if_neg, st_45, hh, hin]
theorem mx_bytes1 : EE (d + 3) 183 0 [some (.ref 76)] [] (SH L) (st J 1 p) K R = ok none (SH L) (st J 1 p) K R := by
  have s76 : (SH L)[76]? = some (11, 58) := rfl
  simp (disch := first | assumption | omega | exact bi_lo | exact bi_hi | exact bi_01 | exact jcmp_lo | exact jcmp_hi | exact (jor_r _ _).1 | exact (jor_r _ _).2 | exact (jand_r _ _).1 | exact (jand_r _ _).2) only [x183_0, x183_1, x183_4, x183_7, x183_8, x183_11, x183_12, x183_15, x183_18, x183_21, x183_24, kb_some, kb_none, clr_vi, clr_ref, clr_null, clr_none, va_rf_some, va_rf_none, ↓bi_ite_t, ↓bi_ite_f, ↓jc_lt_t, ↓jc_lt_f, ↓jc_gt_t, ↓jc_gt_f, ↓jc_le_t, ↓jc_le_f, ↓jc_ge_t, ↓jc_ge_f, ↓jc_eq_t, ↓jc_eq_f, ↓if_pos, ↓if_neg, st_45]
noncomputable def RTx (L d : Nat) (K : mJ) (R : mm_R) (J : mJ) (p : Int) : Option mm_O := EE (d + 5) 186 32 [some (.ref 76), some (vi 1)] [] (SH L) (st J 0 p) K R
noncomputable def GOe (L d : Nat) (K : mJ) (R : mm_R) (J : mJ) (p : Int) : Option mm_O := kb (EE (d + 4) 185 0 [some (.ref 76), none] [] (SH L) (st J 0 p) K R) (d + 4) 186 63 [some (.ref 76), some (vi 0)] []
def RE (L : Nat) (K : mJ) (R : mm_R) (J : mJ) (p : Int) : Option mm_O := ok none (SH L) (st J 1 p) K R
theorem RTx_e {J1 : mJ} {p1 v : Int} (h : EE (d + 4) 184 0 [some (.ref 76), none, none] [] (SH L) (st J 0 p) K R = ok (some (vi v)) (SH L) (st J1 1 p1) K R) : RTx L d K R J p = RE L K R J1 p1 := by
  have s76 : (SH L)[76]? = some (11, 58) := rfl
  unfold RTx RE
  simp (disch := first | assumption | omega | exact bi_lo | exact bi_hi | exact bi_01 | exact jcmp_lo | exact jcmp_hi | exact (jor_r _ _).1 | exact (jor_r _ _).2 | exact (jand_r _ _).1 | exact (jand_r _ _).2) only [x186_32, x186_33, x186_36, x186_37, x186_40, x186_43, x186_44, x186_47, x186_48, x186_49, x186_52, x186_70, x186_71, x186_72, x186_75, kb_some, kb_none, clr_vi, clr_ref, clr_null, clr_none, va_rf_some, va_rf_none, ↓bi_ite_t, ↓bi_ite_f, ↓jc_lt_t, ↓jc_lt_f, ↓jc_gt_t, ↓jc_gt_f, ↓jc_le_t, ↓jc_le_f, ↓jc_ge_t, ↓jc_ge_f, ↓jc_eq_t, ↓jc_eq_f, ↓if_pos, ↓if_neg, st_45, h]
theorem RTx_1 {J1 : mJ} {p1 : Int} (h : EE (d + 4) 184 0 [some (.ref 76), none, none] [] (SH L) (st J 0 p) K R = ok (some (vi 1)) (SH L) (st J1 0 p1) K R) : RTx L d K R J p = RTx L d K R J1 p1 := by
  have s76 : (SH L)[76]? = some (11, 58) := rfl
  have go : ∀ X, RTx L d K R J1 p1 = X → RTx L d K R J p = X := by
    intro X hX
    unfold RTx at hX ⊢
    simp (disch := first | assumption | omega | exact bi_lo | exact bi_hi | exact bi_01 | exact jcmp_lo | exact jcmp_hi | exact (jor_r _ _).1 | exact (jor_r _ _).2 | exact (jand_r _ _).1 | exact (jand_r _ _).2) only [x186_32, x186_33, x186_36, x186_37, x186_40, kb_some, kb_none, clr_vi, clr_ref, clr_null, clr_none, va_rf_some, va_rf_none, ↓bi_ite_t, ↓bi_ite_f, ↓jc_lt_t, ↓jc_lt_f, ↓jc_gt_t, ↓jc_gt_f, ↓jc_le_t, ↓jc_le_f, ↓jc_ge_t, ↓jc_ge_f, ↓jc_eq_t, ↓jc_eq_f, ↓if_pos, ↓if_neg, st_45]
    simp (disch := first | assumption | omega | exact bi_lo | exact bi_hi | exact bi_01 | exact jcmp_lo | exact jcmp_hi | exact (jor_r _ _).1 | exact (jor_r _ _).2 | exact (jand_r _ _).1 | exact (jand_r _ _).2) only [x186_43, x186_44, kb_some, kb_none, clr_vi, clr_ref, clr_null, clr_none, va_rf_some, va_rf_none, h]
    simp (disch := first | assumption | omega | exact bi_lo | exact bi_hi | exact bi_01 | exact jcmp_lo | exact jcmp_hi | exact (jor_r _ _).1 | exact (jor_r _ _).2 | exact (jand_r _ _).1 | exact (jand_r _ _).2) only [x186_47, x186_48, x186_49, x186_52, x186_55, x186_56, x186_59, x186_60, x186_63, x186_66, x186_67, x186_70, x186_71, x186_72, kb_some, kb_none, clr_vi, clr_ref, clr_null, clr_none, va_rf_some, va_rf_none, ↓bi_ite_t, ↓bi_ite_f, ↓jc_lt_t, ↓jc_lt_f, ↓jc_gt_t, ↓jc_gt_f, ↓jc_le_t, ↓jc_le_f, ↓jc_ge_t, ↓jc_ge_f, ↓jc_eq_t, ↓jc_eq_f, ↓if_pos, ↓if_neg, st_45]
    exact hX
  exact go _ rfl
theorem RTx_0 {J1 : mJ} {p1 : Int} (h : EE (d + 4) 184 0 [some (.ref 76), none, none] [] (SH L) (st J 0 p) K R = ok (some (vi 0)) (SH L) (st J1 0 p1) K R) : RTx L d K R J p = GOe L d K R J1 p1 := by
  have s76 : (SH L)[76]? = some (11, 58) := rfl
  unfold RTx GOe
  simp (disch := first | assumption | omega | exact bi_lo | exact bi_hi | exact bi_01 | exact jcmp_lo | exact jcmp_hi | exact (jor_r _ _).1 | exact (jor_r _ _).2 | exact (jand_r _ _).1 | exact (jand_r _ _).2) only [x186_32, x186_33, x186_36, x186_37, x186_40, kb_some, kb_none, clr_vi, clr_ref, clr_null, clr_none, va_rf_some, va_rf_none, ↓bi_ite_t, ↓bi_ite_f, ↓jc_lt_t, ↓jc_lt_f, ↓jc_gt_t, ↓jc_gt_f, ↓jc_le_t, ↓jc_le_f, ↓jc_ge_t, ↓jc_ge_f, ↓jc_eq_t, ↓jc_eq_f, ↓if_pos, ↓if_neg, st_45]
  simp (disch := first | assumption | omega | exact bi_lo | exact bi_hi | exact bi_01 | exact jcmp_lo | exact jcmp_hi | exact (jor_r _ _).1 | exact (jor_r _ _).2 | exact (jand_r _ _).1 | exact (jand_r _ _).2) only [x186_43, x186_44, kb_some, kb_none, clr_vi, clr_ref, clr_null, clr_none, va_rf_some, va_rf_none, h]
  simp (disch := first | assumption | omega | exact bi_lo | exact bi_hi | exact bi_01 | exact jcmp_lo | exact jcmp_hi | exact (jor_r _ _).1 | exact (jor_r _ _).2 | exact (jand_r _ _).1 | exact (jand_r _ _).2) only [x186_47, x186_48, x186_49, x186_52, x186_55, x186_56, x186_59, x186_60, kb_some, kb_none, clr_vi, clr_ref, clr_null, clr_none, va_rf_some, va_rf_none, ↓bi_ite_t, ↓bi_ite_f, ↓jc_lt_t, ↓jc_lt_f, ↓jc_gt_t, ↓jc_gt_f, ↓jc_le_t, ↓jc_le_f, ↓jc_ge_t, ↓jc_ge_f, ↓jc_eq_t, ↓jc_eq_f, ↓if_pos, ↓if_neg, st_45]
theorem GO_pop (h : MT t J R) (hp : 0 ≤ p ∧ p ≤ J 76 43) (h48 : 0 < J 76 48 ∧ J 76 48 ≤ 3) (c : t p = 41) : GOe L d K R J p = GOe L d K R (mm_up J 76 48 (J 76 48 - 1)) (p + 1) := by
  have s76 : (SH L)[76]? = some (11, 58) := rfl
  have hh := mx_here (L := L) (d := d + 3) (b := 0) (K := K) h hp
  have q48 : st J 0 p 76 48 = J 76 48 := st_o (by decide)
  have e : ∀ v, mm_up (st J 0 p) 76 48 v = st (mm_up J 76 48 v) 0 p := fun v => st_up (by decide)
  unfold GOe
  have go : ∀ X, EE (d + 4) 185 0 [some (.ref 76), none] [] (SH L) (st (mm_up J 76 48 (J 76 48 - 1)) 0 (p + 1)) K R = X → EE (d + 4) 185 0 [some (.ref 76), none] [] (SH L) (st J 0 p) K R = X := by
    intro X hX
    simp (disch := first | assumption | omega | exact bi_lo | exact bi_hi | exact bi_01 | exact jcmp_lo | exact jcmp_hi | exact (jor_r _ _).1 | exact (jor_r _ _).2 | exact (jand_r _ _).1 | exact (jand_r _ _).2) only [x185_0, x185_1, x185_4, kb_some, kb_none, clr_vi, clr_ref, clr_null, clr_none, va_rf_some, va_rf_none, ↓bi_ite_t, ↓bi_ite_f, ↓jc_lt_t, ↓jc_lt_f, ↓jc_gt_t, ↓jc_gt_f, ↓jc_le_t, ↓jc_le_f, ↓jc_ge_t, ↓jc_ge_f, ↓jc_eq_t, ↓jc_eq_f, ↓if_pos, ↓if_neg, q48]
    simp (disch := first | assumption | omega | exact bi_lo | exact bi_hi | exact bi_01 | exact jcmp_lo | exact jcmp_hi | exact (jor_r _ _).1 | exact (jor_r _ _).2 | exact (jand_r _ _).1 | exact (jand_r _ _).2) only [x185_7, x185_8, x185_11, x185_13, x185_16, x185_17, x185_18, x185_21, x185_22, x185_23, x185_26, x185_27, x185_28, x185_31, x185_32, x185_33, x185_36, kb_some, kb_none, clr_vi, clr_ref, clr_null, clr_none, va_rf_some, va_rf_none, ↓bi_ite_t, ↓bi_ite_f, ↓jc_lt_t, ↓jc_lt_f, ↓jc_gt_t, ↓jc_gt_f, ↓jc_le_t, ↓jc_le_f, ↓jc_ge_t, ↓jc_ge_f, ↓jc_eq_t, ↓jc_eq_f, ↓if_pos, ↓if_neg, hh, q48, e, st_44, st_p]
    exact hX
  rw [go _ rfl]
/-- how many there are in the group that is open -/
def mny (J : mJ) : Int := if J 76 48 = 0 then J 76 49 else J 87 (parM J).toNat
theorem GO_many (h : PC t J R p) {q : Int} (hq : 0 ≤ q ∧ q ≤ J 76 43) (h69 : 0 ≤ mny J ∧ mny J ≤ 6) (c1 : J 76 48 = 0 ∨ t q ≠ 41) : (t q = 59 → mny J < 6 → GOe L d K R J q = RTx L d K R J (q + 1)) ∧ ((t q ≠ 59 ∨ 6 ≤ mny J) → (0 < J 76 48 ∨ q < J 76 43) → GOe L d K R J q = RE L K R J q) ∧ (J 76 48 = 0 → t q ≠ 59 → J 76 43 ≤ q → GOe L d K R J q = ok none (SH L) (st J 0 q) K R) := by
  obtain ⟨hM, hp, hc, hk, hpq⟩ := h
  have hR := hM.1
  have hn := hM.2.1
  have s76 : (SH L)[76]? = some (11, 58) := rfl; have r76_0 : R 76 0 = some 77 := rr_lk hR rfl; have r76_3 : R 76 3 = some 78 := rr_lk hR rfl; have r76_4 : R 76 4 = some 79 := rr_lk hR rfl; have r76_6 : R 76 6 = some 80 := rr_lk hR rfl; have r76_7 : R 76 7 = some 81 := rr_lk hR rfl; have r76_9 : R 76 9 = some 82 := rr_lk hR rfl; have r76_10 : R 76 10 = some 83 := rr_lk hR rfl; have r76_12 : R 76 12 = some 84 := rr_lk hR rfl; have r76_13 : R 76 13 = some 85 := rr_lk hR rfl; have r76_19 : R 76 19 = some 86 := rr_lk hR rfl; have r76_20 : R 76 20 = some 87 := rr_lk hR rfl; have r76_21 : R 76 21 = some 88 := rr_lk hR rfl; have r76_22 : R 76 22 = some 89 := rr_lk hR rfl; have r76_24 : R 76 24 = some 90 := rr_lk hR rfl; have r76_25 : R 76 25 = some 91 := rr_lk hR rfl; have r76_26 : R 76 26 = some 92 := rr_lk hR rfl; have r76_28 : R 76 28 = some 93 := rr_lk hR rfl; have r76_29 : R 76 29 = some 94 := rr_lk hR rfl; have r76_30 : R 76 30 = some 95 := rr_lk hR rfl; have r76_31 : R 76 31 = some 96 := rr_lk hR rfl; have r76_32 : R 76 32 = some 97 := rr_lk hR rfl; have r76_36 : R 76 36 = some 98 := rr_lk hR rfl; have r76_38 : R 76 38 = some 99 := rr_lk hR rfl; have r76_39 : R 76 39 = some 100 := rr_lk hR rfl; have r76_40 : R 76 40 = some 101 := rr_lk hR rfl; have r76_41 : R 76 41 = some 102 := rr_lk hR rfl; have r76_42 : R 76 42 = some 103 := rr_lk hR rfl; have r76_47 : R 76 47 = some 104 := rr_lk hR rfl; have r76_53 : R 76 53 = some 105 := rr_lk hR rfl; have r76_54 : R 76 54 = some 106 := rr_lk hR rfl; have r76_55 : R 76 55 = some 107 := rr_lk hR rfl; have r76_56 : R 76 56 = some 108 := rr_lk hR rfl; have r76_57 : R 76 57 = some 109 := rr_lk hR rfl; have s87 : (SH L)[87]? = some (20, 60) := rfl; have s104 : (SH L)[104]? = some (20, 3) := rfl
  have hh := fun d => mx_here (L := L) (d := d) (b := 0) (K := K) hM hq
  have hr := MT_r (p := q) hM
  have q48 : st J 0 q 76 48 = J 76 48 := st_o (by decide)
  have q49 : st J 0 q 76 49 = J 76 49 := st_o (by decide)
  have q43 : st J 0 q 76 43 = J 76 43 := st_o (by decide)
  have q104 : st J 0 q 104 = J 104 := st_a (by decide)
  have q87 : st J 0 q 87 = J 87 := st_a (by decide)
  -- to the count
  have cnt : EE (d + 4) 185 0 [some (.ref 76), none] [] (SH L) (st J 0 q) K R = EE (d + 4) 185 70 [some (.ref 76), some (vi (mny J))] [] (SH L) (st J 0 q) K R := by
    have sk : EE (d + 4) 185 0 [some (.ref 76), none] [] (SH L) (st J 0 q) K R = EE (d + 4) 185 39 [some (.ref 76), none] [] (SH L) (st J 0 q) K R := by
      by_cases c0 : J 76 48 = 0
      · simp (disch := first | assumption | omega | exact bi_lo | exact bi_hi | exact bi_01 | exact jcmp_lo | exact jcmp_hi | exact (jor_r _ _).1 | exact (jor_r _ _).2 | exact (jand_r _ _).1 | exact (jand_r _ _).2) only [x185_0, x185_1, x185_4, kb_some, kb_none, clr_vi, clr_ref, clr_null, clr_none, va_rf_some, va_rf_none, ↓bi_ite_t, ↓bi_ite_f, ↓jc_lt_t, ↓jc_lt_f, ↓jc_gt_t, ↓jc_gt_f, ↓jc_le_t, ↓jc_le_f, ↓jc_ge_t, ↓jc_ge_f, ↓jc_eq_t, ↓jc_eq_f, ↓if_pos, ↓if_neg, q48]
      · have c2 : t q ≠ 41 := by
          rcases c1 with c1 | c1
          · exact absurd c1 c0
          · exact c1
        simp (disch := first | assumption | omega | exact bi_lo | exact bi_hi | exact bi_01 | exact jcmp_lo | exact jcmp_hi | exact (jor_r _ _).1 | exact (jor_r _ _).2 | exact (jand_r _ _).1 | exact (jand_r _ _).2) only [x185_0, x185_1, x185_4, x185_7, x185_8, x185_11, x185_13, kb_some, kb_none, clr_vi, clr_ref, clr_null, clr_none, va_rf_some, va_rf_none, ↓bi_ite_t, ↓bi_ite_f, ↓jc_lt_t, ↓jc_lt_f, ↓jc_gt_t, ↓jc_gt_f, ↓jc_le_t, ↓jc_le_f, ↓jc_ge_t, ↓jc_ge_f, ↓jc_eq_t, ↓jc_eq_f, ↓if_pos, ↓if_neg, q48, hh]
    rw [sk]
    unfold mny
    by_cases c0 : J 76 48 = 0
    · rw [if_pos c0]
      simp (disch := first | assumption | omega | exact bi_lo | exact bi_hi | exact bi_01 | exact jcmp_lo | exact jcmp_hi | exact (jor_r _ _).1 | exact (jor_r _ _).2 | exact (jand_r _ _).1 | exact (jand_r _ _).2) only [x185_39, x185_40, x185_43, x185_46, x185_47, x185_50, x185_69, kb_some, kb_none, clr_vi, clr_ref, clr_null, clr_none, va_rf_some, va_rf_none, ↓bi_ite_t, ↓bi_ite_f, ↓jc_lt_t, ↓jc_lt_f, ↓jc_gt_t, ↓jc_gt_f, ↓jc_le_t, ↓jc_le_f, ↓jc_ge_t, ↓jc_ge_f, ↓jc_eq_t, ↓jc_eq_f, ↓if_pos, ↓if_neg, q48, q49]
    · rw [if_neg c0]
      have hpm : parM J = J 104 (J 76 48 - 1).toNat := if_neg c0
      have hb := hpq (by omega)
      rw [hpm] at hb ⊢
      simp (disch := first | assumption | omega | exact bi_lo | exact bi_hi | exact bi_01 | exact jcmp_lo | exact jcmp_hi | exact (jor_r _ _).1 | exact (jor_r _ _).2 | exact (jand_r _ _).1 | exact (jand_r _ _).2) only [x185_39, x185_40, x185_43, x185_46, x185_47, x185_50, x185_53, x185_54, x185_57, x185_58, x185_61, x185_62, x185_65, x185_66, x185_67, x185_68, x185_69, kb_some, kb_none, clr_vi, clr_ref, clr_null, clr_none, va_rf_some, va_rf_none, ↓bi_ite_t, ↓bi_ite_f, ↓jc_lt_t, ↓jc_lt_f, ↓jc_gt_t, ↓jc_gt_f, ↓jc_le_t, ↓jc_le_f, ↓jc_ge_t, ↓jc_ge_f, ↓jc_eq_t, ↓jc_eq_f, ↓if_pos, ↓if_neg, q48, q104, q87]
  unfold GOe RTx RE
  rw [cnt]
  generalize mny J = m at *
  refine ⟨fun c3 c4 => ?_, fun c3 c4 => ?_, fun c3 c4 c5 => ?_⟩
  · have go : ∀ X, EE (d + 5) 186 32 [some (.ref 76), some (vi 1)] [] (SH L) (st J 0 (q + 1)) K R = X → kb (EE (d + 4) 185 70 [some (.ref 76), some (vi m)] [] (SH L) (st J 0 q) K R) (d + 4) 186 63 [some (.ref 76), some (vi 0)] [] = X := by
      intro X hX
      simp (disch := first | assumption | omega | exact bi_lo | exact bi_hi | exact bi_01 | exact jcmp_lo | exact jcmp_hi | exact (jor_r _ _).1 | exact (jor_r _ _).2 | exact (jand_r _ _).1 | exact (jand_r _ _).2) only [x185_70, x185_71, x185_74, x185_76, x185_79, x185_80, x185_82, x185_85, x185_86, x185_87, x185_90, x185_91, x185_92, x185_95, x185_96, kb_some, kb_none, clr_vi, clr_ref, clr_null, clr_none, va_rf_some, va_rf_none, ↓bi_ite_t, ↓bi_ite_f, ↓jc_lt_t, ↓jc_lt_f, ↓jc_gt_t, ↓jc_gt_f, ↓jc_le_t, ↓jc_le_f, ↓jc_ge_t, ↓jc_ge_f, ↓jc_eq_t, ↓jc_eq_f, ↓if_pos, ↓if_neg, hh, st_44, st_p]
      simp (disch := first | assumption | omega | exact bi_lo | exact bi_hi | exact bi_01 | exact jcmp_lo | exact jcmp_hi | exact (jor_r _ _).1 | exact (jor_r _ _).2 | exact (jand_r _ _).1 | exact (jand_r _ _).2) only [x186_63, x186_66, x186_67, x186_70, x186_71, x186_72, kb_some, kb_none, clr_vi, clr_ref, clr_null, clr_none, va_rf_some, va_rf_none]
      simp (disch := first | assumption | omega | exact bi_lo | exact bi_hi | exact bi_01 | exact jcmp_lo | exact jcmp_hi | exact (jor_r _ _).1 | exact (jor_r _ _).2 | exact (jand_r _ _).1 | exact (jand_r _ _).2) only [x186_63, x186_66, x186_67, x186_70, x186_71, x186_72, kb_some, kb_none, clr_vi, clr_ref, clr_null, clr_none, va_rf_some, va_rf_none, ↓bi_ite_t, ↓bi_ite_f, ↓jc_lt_t, ↓jc_lt_f, ↓jc_gt_t, ↓jc_gt_f, ↓jc_le_t, ↓jc_le_f, ↓jc_ge_t, ↓jc_ge_f, ↓jc_eq_t, ↓jc_eq_f, ↓if_pos, ↓if_neg]
      exact hX
    exact go _ rfl
  · have e1 : EE (d + 4) 185 70 [some (.ref 76), some (vi m)] [] (SH L) (st J 0 q) K R = ok (some (vi 0)) (SH L) (st J 1 q) K R := by
      have fin : EE (d + 4) 185 97 [some (.ref 76), some (vi m)] [] (SH L) (st J 0 q) K R = ok (some (vi 0)) (SH L) (st J 1 q) K R := by
        by_cases c5 : 0 < J 76 48
        · simp (disch := first | assumption | omega | exact bi_lo | exact bi_hi | exact bi_01 | exact jcmp_lo | exact jcmp_hi | exact (jor_r _ _).1 | exact (jor_r _ _).2 | exact (jand_r _ _).1 | exact (jand_r _ _).2) only [x185_97, x185_98, x185_99, x185_102, x185_105, x185_106, x185_109, x185_110, x185_113, x185_116, x185_117, x185_120, x185_121, x185_124, x185_125, kb_some, kb_none, clr_vi, clr_ref, clr_null, clr_none, va_rf_some, va_rf_none, ↓bi_ite_t, ↓bi_ite_f, ↓jc_lt_t, ↓jc_lt_f, ↓jc_gt_t, ↓jc_gt_f, ↓jc_le_t, ↓jc_le_f, ↓jc_ge_t, ↓jc_ge_f, ↓jc_eq_t, ↓jc_eq_f, ↓if_pos, ↓if_neg, q48, st_b]
        · simp (disch := first | assumption | omega | exact bi_lo | exact bi_hi | exact bi_01 | exact jcmp_lo | exact jcmp_hi | exact (jor_r _ _).1 | exact (jor_r _ _).2 | exact (jand_r _ _).1 | exact (jand_r _ _).2) only [x185_97, x185_98, x185_99, x185_102, x185_105, x185_106, x185_109, x185_110, x185_113, x185_116, x185_117, x185_120, x185_121, x185_124, x185_125, kb_some, kb_none, clr_vi, clr_ref, clr_null, clr_none, va_rf_some, va_rf_none, ↓bi_ite_t, ↓bi_ite_f, ↓jc_lt_t, ↓jc_lt_f, ↓jc_gt_t, ↓jc_gt_f, ↓jc_le_t, ↓jc_le_f, ↓jc_ge_t, ↓jc_ge_f, ↓jc_eq_t, ↓jc_eq_f, ↓if_pos, ↓if_neg, q48, q43, st_44, st_b]
      by_cases c5 : t q = 59
      · simp (disch := first | assumption | omega | exact bi_lo | exact bi_hi | exact bi_01 | exact jcmp_lo | exact jcmp_hi | exact (jor_r _ _).1 | exact (jor_r _ _).2 | exact (jand_r _ _).1 | exact (jand_r _ _).2) only [x185_70, x185_71, x185_74, x185_76, x185_79, x185_80, x185_82, kb_some, kb_none, clr_vi, clr_ref, clr_null, clr_none, va_rf_some, va_rf_none, ↓bi_ite_t, ↓bi_ite_f, ↓jc_lt_t, ↓jc_lt_f, ↓jc_gt_t, ↓jc_gt_f, ↓jc_le_t, ↓jc_le_f, ↓jc_ge_t, ↓jc_ge_f, ↓jc_eq_t, ↓jc_eq_f, ↓if_pos, ↓if_neg, hh]
        exact fin
      · simp (disch := first | assumption | omega | exact bi_lo | exact bi_hi | exact bi_01 | exact jcmp_lo | exact jcmp_hi | exact (jor_r _ _).1 | exact (jor_r _ _).2 | exact (jand_r _ _).1 | exact (jand_r _ _).2) only [x185_70, x185_71, x185_74, x185_76, kb_some, kb_none, clr_vi, clr_ref, clr_null, clr_none, va_rf_some, va_rf_none, ↓bi_ite_t, ↓bi_ite_f, ↓jc_lt_t, ↓jc_lt_f, ↓jc_gt_t, ↓jc_gt_f, ↓jc_le_t, ↓jc_le_f, ↓jc_ge_t, ↓jc_ge_f, ↓jc_eq_t, ↓jc_eq_f, ↓if_pos, ↓if_neg, hh]
        exact fin
    rw [e1]
    simp (disch := first | assumption | omega | exact bi_lo | exact bi_hi | exact bi_01 | exact jcmp_lo | exact jcmp_hi | exact (jor_r _ _).1 | exact (jor_r _ _).2 | exact (jand_r _ _).1 | exact (jand_r _ _).2) only [x186_63, x186_66, x186_67, x186_70, x186_71, x186_72, x186_75, kb_some, kb_none, clr_vi, clr_ref, clr_null, clr_none, va_rf_some, va_rf_none, ↓bi_ite_t, ↓bi_ite_f, ↓jc_lt_t, ↓jc_lt_f, ↓jc_gt_t, ↓jc_gt_f, ↓jc_le_t, ↓jc_le_f, ↓jc_ge_t, ↓jc_ge_f, ↓jc_eq_t, ↓jc_eq_f, ↓if_pos, ↓if_neg, st_45]
    simp (disch := first | assumption | omega | exact bi_lo | exact bi_hi | exact bi_01 | exact jcmp_lo | exact jcmp_hi | exact (jor_r _ _).1 | exact (jor_r _ _).2 | exact (jand_r _ _).1 | exact (jand_r _ _).2) only [x186_32, x186_33, x186_63, x186_66, x186_67, x186_70, x186_71, x186_72, x186_75, kb_some, kb_none, clr_vi, clr_ref, clr_null, clr_none, va_rf_some, va_rf_none, ↓bi_ite_t, ↓bi_ite_f, ↓jc_lt_t, ↓jc_lt_f, ↓jc_gt_t, ↓jc_gt_f, ↓jc_le_t, ↓jc_le_f, ↓jc_ge_t, ↓jc_ge_f, ↓jc_eq_t, ↓jc_eq_f, ↓if_pos, ↓if_neg, st_45]
  · have e1 : EE (d + 4) 185 70 [some (.ref 76), some (vi m)] [] (SH L) (st J 0 q) K R = ok (some (vi 0)) (SH L) (st J 0 q) K R := by
      simp (disch := first | assumption | omega | exact bi_lo | exact bi_hi | exact bi_01 | exact jcmp_lo | exact jcmp_hi | exact (jor_r _ _).1 | exact (jor_r _ _).2 | exact (jand_r _ _).1 | exact (jand_r _ _).2) only [x185_70, x185_71, x185_74, x185_76, x185_97, x185_98, x185_99, x185_102, x185_105, x185_106, x185_109, x185_110, x185_113, x185_116, x185_117, x185_120, x185_121, x185_124, x185_125, kb_some, kb_none, clr_vi, clr_ref, clr_null, clr_none, va_rf_some, va_rf_none, ↓bi_ite_t, ↓bi_ite_f, ↓jc_lt_t, ↓jc_lt_f, ↓jc_gt_t, ↓jc_gt_f, ↓jc_le_t, ↓jc_le_f, ↓jc_ge_t, ↓jc_ge_f, ↓jc_eq_t, ↓jc_eq_f, ↓if_pos, ↓if_neg, hh, q48, q43, st_44, st_b]
    rw [e1]
    simp (disch := first | assumption | omega | exact bi_lo | exact bi_hi | exact bi_01 | exact jcmp_lo | exact jcmp_hi | exact (jor_r _ _).1 | exact (jor_r _ _).2 | exact (jand_r _ _).1 | exact (jand_r _ _).2) only [x186_32, x186_33, x186_63, x186_66, x186_67, x186_70, x186_71, x186_72, x186_75, kb_some, kb_none, clr_vi, clr_ref, clr_null, clr_none, va_rf_some, va_rf_none, ↓bi_ite_t, ↓bi_ite_f, ↓jc_lt_t, ↓jc_lt_f, ↓jc_gt_t, ↓jc_gt_f, ↓jc_le_t, ↓jc_le_f, ↓jc_ge_t, ↓jc_ge_f, ↓jc_eq_t, ↓jc_eq_f, ↓if_pos, ↓if_neg, st_45]
end
