/-! the reference lays lengths and places -/
def lF (g : Int → Int) (v : Int) (ln : Nat → Int) : (d : Nat) → Fo d → Nat → Prop
  | 0, _, _ => True
  | d + 1, F, i => List.foldr (fun (x : Da × Fo d) (P : Nat → Prop) (i : Nat) => ln i = ((payT g v d x).length : Nat) ∧ lF g v ln d x.2 (i + 1) ∧ P (i + 1 + fsz d x.2)) (fun _ => True) F i
def pF (g : Int → Int) (v : Int) (pl : Nat → Int) : (d : Nat) → Fo d → Nat → Nat → Prop
  | 0, _, _, _ => True
  | d + 1, F, i, s => List.foldr (fun (x : Da × Fo d) (P : Nat → Nat → Prop) (i s : Nat) => pl i = ((s + 2 : Nat) : Int) ∧ pF g v pl d x.2 (i + 1) (s + 2) ∧ P (i + 1 + fsz d x.2) (s + (3 + (payT g v d x).length))) (fun _ _ => True) F i s
def pT (g : Int → Int) (v : Int) (pl : Nat → Int) : List (Nd 3) → Nat → Nat → Prop
  | [], _, _ => True
  | x :: F, i, s => pl i = (s : Int) ∧ pF g v pl 3 x.2 (i + 1) s ∧ pT g v pl F (i + 1 + fsz 3 x.2) (s + ((payT g v 3 x).length + 1))
section
variable {g : Int → Int} {v : Int} {d i s : Nat} {ln pl ln' pl' : Nat → Int}
theorem lF_cons {x : Nd d} {F : List (Nd d)} : lF g v ln (d + 1) (x :: F : List (Nd d)) i = (ln i = ((payT g v d x).length : Nat) ∧ lF g v ln d x.2 (i + 1) ∧ lF g v ln (d + 1) (F : List (Nd d)) (i + 1 + fsz d x.2)) := rfl
theorem pF_cons {x : Nd d} {F : List (Nd d)} : pF g v pl (d + 1) (x :: F : List (Nd d)) i s = (pl i = ((s + 2 : Nat) : Int) ∧ pF g v pl d x.2 (i + 1) (s + 2) ∧ pF g v pl (d + 1) (F : List (Nd d)) (i + 1 + fsz d x.2) (s + (3 + (payT g v d x).length))) := rfl
theorem lF_congr : ∀ (d : Nat) (F : Fo d) (i : Nat), lF g v ln d F i → (∀ j, i ≤ j → j < i + fsz d F → ln' j = ln j) → lF g v ln' d F i := by
  intro d
  induction d with
  | zero => intro F i h h1; trivial
  | succ d ih =>
    intro F
    induction (F : List (Nd d)) with
    | nil => intro i h h1; trivial
    | cons x F ihF =>
      intro i h h1
      rw [lF_cons] at h ⊢
      rw [fsz_cons] at h1
      exact ⟨(h1 i (by omega) (by omega)).trans h.1, ih _ _ h.2.1 (fun j q1 q2 => h1 j (by omega) (by omega)), ihF _ h.2.2 (fun j q1 q2 => h1 j (by omega) (by omega))⟩
theorem pF_congr : ∀ (d : Nat) (F : Fo d) (i s : Nat), pF g v pl d F i s → (∀ j, i ≤ j → j < i + fsz d F → pl' j = pl j) → pF g v pl' d F i s := by
  intro d
  induction d with
  | zero => intro F i s h h1; trivial
  | succ d ih =>
    intro F
    induction (F : List (Nd d)) with
    | nil => intro i s h h1; trivial
    | cons x F ihF =>
      intro i s h h1
      rw [pF_cons] at h ⊢
      rw [fsz_cons] at h1
      exact ⟨(h1 i (by omega) (by omega)).trans h.1, ih _ _ _ h.2.1 (fun j q1 q2 => h1 j (by omega) (by omega)), ihF _ _ h.2.2 (fun j q1 q2 => h1 j (by omega) (by omega))⟩
end
def bs (ty w : Int) : Int := if ty = 110 then (lenN w : Nat) else if ty = 103 then 0 else w
theorem bs_pay {g : Int → Int} {v : Int} {d : Nat} {x : Nd d} (hw : wD g x.1) (h3 : x.1.1 ≠ 103 → x.2 = fo0 d) : bs x.1.1 x.1.2.1 + (wrF g v d x.2).length = ((payT g v d x).length : Nat) := by
  unfold bs payT
  by_cases c : x.1.1 = 103
  · rw [if_neg (by omega), if_pos c, if_pos c]; omega
  · rw [if_neg c, if_neg c, h3 c, wrF_0, leafB_len]
    unfold wD at hw
    split
    · simp
    · simp; omega
section
variable {L d : Nat} {J K : mJ} {R : mm_R} {g : Int → Int} {v w : Int} {n : Nat}
theorem m_lengthOf {S : mm_S} (hw : -2147483648 ≤ w ∧ w ≤ 2147483647) : EE (d + 1) 165 0 [some (vi w)] [] S J K R = ok (some (vi (lenN w : Nat))) S J K R := by
  have hin := fun x y z => m_in (d := d) (S := S) (J := J) (K := K) (R := R) (x := x) (y := y) (z := z)
  unfold lenN
  by_cases c1 : -128 ≤ w ∧ w ≤ 127
  · rw [if_pos c1]
    simp (disch := first | assumption | omega | exact bi_lo | exact bi_hi | exact bi_01 | exact jcmp_lo | exact jcmp_hi | exact (jor_r _ _).1 | exact (jor_r _ _).2 | exact (jand_r _ _).1 | exact (jand_r _ _).2) only [x165_0, x165_1, x165_2, x165_5, x165_8, x165_11, x165_14, x165_15, x165_18, x165_19, x165_20, x165_23, x165_26, x165_29, x165_32, x165_33, x165_36, x165_37, x165_38, x165_41, x165_44, x165_47, x165_50, x165_51, x165_54, x165_55, kb_some, kb_none, clr_vi, clr_ref, clr_null, clr_none, va_rf_some, va_rf_none, ↓bi_ite_t, ↓bi_ite_f, ↓jc_lt_t, ↓jc_lt_f, ↓jc_gt_t, ↓jc_gt_f, ↓jc_le_t, ↓jc_le_f, ↓jc_ge_t, ↓jc_ge_f, ↓jc_eq_t, ↓jc_eq_f, ↓if_pos, ↓if_neg, hin]
    rfl
  rw [if_neg c1]
  by_cases c2 : -32768 ≤ w ∧ w ≤ 32767
  · rw [if_pos c2]
    simp (disch := first | assumption | omega | exact bi_lo | exact bi_hi | exact bi_01 | exact jcmp_lo | exact jcmp_hi | exact (jor_r _ _).1 | exact (jor_r _ _).2 | exact (jand_r _ _).1 | exact (jand_r _ _).2) only [x165_0, x165_1, x165_2, x165_5, x165_8, x165_11, x165_14, x165_15, x165_18, x165_19, x165_20, x165_23, x165_26, x165_29, x165_32, x165_33, x165_36, x165_37, x165_38, x165_41, x165_44, x165_47, x165_50, x165_51, x165_54, x165_55, kb_some, kb_none, clr_vi, clr_ref, clr_null, clr_none, va_rf_some, va_rf_none, ↓bi_ite_t, ↓bi_ite_f, ↓jc_lt_t, ↓jc_lt_f, ↓jc_gt_t, ↓jc_gt_f, ↓jc_le_t, ↓jc_le_f, ↓jc_ge_t, ↓jc_ge_f, ↓jc_eq_t, ↓jc_eq_f, ↓if_pos, ↓if_neg, hin]
    rfl
  rw [if_neg c2]
  by_cases c3 : -8388608 ≤ w ∧ w ≤ 8388607
  · rw [if_pos c3]
    simp (disch := first | assumption | omega | exact bi_lo | exact bi_hi | exact bi_01 | exact jcmp_lo | exact jcmp_hi | exact (jor_r _ _).1 | exact (jor_r _ _).2 | exact (jand_r _ _).1 | exact (jand_r _ _).2) only [x165_0, x165_1, x165_2, x165_5, x165_8, x165_11, x165_14, x165_15, x165_18, x165_19, x165_20, x165_23, x165_26, x165_29, x165_32, x165_33, x165_36, x165_37, x165_38, x165_41, x165_44, x165_47, x165_50, x165_51, x165_54, x165_55, kb_some, kb_none, clr_vi, clr_ref, clr_null, clr_none, va_rf_some, va_rf_none, ↓bi_ite_t, ↓bi_ite_f, ↓jc_lt_t, ↓jc_lt_f, ↓jc_gt_t, ↓jc_gt_f, ↓jc_le_t, ↓jc_le_f, ↓jc_ge_t, ↓jc_ge_f, ↓jc_eq_t, ↓jc_eq_f, ↓if_pos, ↓if_neg, hin]
    rfl
  rw [if_neg c3]
  simp (disch := first | assumption | omega | exact bi_lo | exact bi_hi | exact bi_01 | exact jcmp_lo | exact jcmp_hi | exact (jor_r _ _).1 | exact (jor_r _ _).2 | exact (jand_r _ _).1 | exact (jand_r _ _).2) only [x165_0, x165_1, x165_2, x165_5, x165_8, x165_11, x165_14, x165_15, x165_18, x165_19, x165_20, x165_23, x165_26, x165_29, x165_32, x165_33, x165_36, x165_37, x165_38, x165_41, x165_44, x165_47, x165_50, x165_51, x165_54, x165_55, kb_some, kb_none, clr_vi, clr_ref, clr_null, clr_none, va_rf_some, va_rf_none, ↓bi_ite_t, ↓bi_ite_f, ↓jc_lt_t, ↓jc_lt_f, ↓jc_gt_t, ↓jc_gt_f, ↓jc_le_t, ↓jc_le_f, ↓jc_ge_t, ↓jc_ge_f, ↓jc_eq_t, ↓jc_eq_f, ↓if_pos, ↓if_neg, hin]
  rfl
theorem l_ll1 (hR : wfR R) (h60 : n ≤ 60) : ∀ (m t : Nat) (J : mJ), t + m = n → J 76 18 = n → (∀ j : Nat, j < n → 103 ≤ J 86 j ∧ J 86 j ≤ 115) → (∀ j : Nat, j < n → -2147483648 ≤ J 87 j ∧ J 87 j ≤ 2147483647) →
    ∃ J', EE (d + 2) 167 2 [some (.ref 76), some (vi t)] [] (SH L) J K R = EE (d + 2) 167 66 [some (.ref 76), some (vi n)] [] (SH L) J' K R ∧ (∀ a j, ¬ (a = 99 ∧ t ≤ j ∧ j < n) → J' a j = J a j) ∧ ∀ j, t ≤ j → j < n → J' 99 j = bs (J 86 j) (J 87 j) := by
  have s76 : (SH L)[76]? = some (11, 58) := rfl; have r76_0 : R 76 0 = some 77 := rr_lk hR rfl; have r76_3 : R 76 3 = some 78 := rr_lk hR rfl; have r76_4 : R 76 4 = some 79 := rr_lk hR rfl; have r76_6 : R 76 6 = some 80 := rr_lk hR rfl; have r76_7 : R 76 7 = some 81 := rr_lk hR rfl; have r76_9 : R 76 9 = some 82 := rr_lk hR rfl; have r76_10 : R 76 10 = some 83 := rr_lk hR rfl; have r76_12 : R 76 12 = some 84 := rr_lk hR rfl; have r76_13 : R 76 13 = some 85 := rr_lk hR rfl; have r76_19 : R 76 19 = some 86 := rr_lk hR rfl; have r76_20 : R 76 20 = some 87 := rr_lk hR rfl; have r76_21 : R 76 21 = some 88 := rr_lk hR rfl; have r76_22 : R 76 22 = some 89 := rr_lk hR rfl; have r76_24 : R 76 24 = some 90 := rr_lk hR rfl; have r76_25 : R 76 25 = some 91 := rr_lk hR rfl; have r76_26 : R 76 26 = some 92 := rr_lk hR rfl; have r76_28 : R 76 28 = some 93 := rr_lk hR rfl; have r76_29 : R 76 29 = some 94 := rr_lk hR rfl; have r76_30 : R 76 30 = some 95 := rr_lk hR rfl; have r76_31 : R 76 31 = some 96 := rr_lk hR rfl; have r76_32 : R 76 32 = some 97 := rr_lk hR rfl; have r76_36 : R 76 36 = some 98 := rr_lk hR rfl; have r76_38 : R 76 38 = some 99 := rr_lk hR rfl; have r76_39 : R 76 39 = some 100 := rr_lk hR rfl; have r76_40 : R 76 40 = some 101 := rr_lk hR rfl; have r76_41 : R 76 41 = some 102 := rr_lk hR rfl; have r76_42 : R 76 42 = some 103 := rr_lk hR rfl; have r76_47 : R 76 47 = some 104 := rr_lk hR rfl; have r76_53 : R 76 53 = some 105 := rr_lk hR rfl; have r76_54 : R 76 54 = some 106 := rr_lk hR rfl; have r76_55 : R 76 55 = some 107 := rr_lk hR rfl; have r76_56 : R 76 56 = some 108 := rr_lk hR rfl; have r76_57 : R 76 57 = some 109 := rr_lk hR rfl; have s86 : (SH L)[86]? = some (20, 60) := rfl; have s87 : (SH L)[87]? = some (20, 60) := rfl; have s99 : (SH L)[99]? = some (20, 60) := rfl
  intro m
  induction m with
  | zero =>
    intro t J ht hn hty hwo
    have e : t = n := by omega
    subst e
    refine ⟨J, ?_, fun _ _ _ => rfl, fun j j1 j2 => by omega⟩
    simp (disch := first | assumption | omega | exact bi_lo | exact bi_hi | exact bi_01 | exact jcmp_lo | exact jcmp_hi | exact (jor_r _ _).1 | exact (jor_r _ _).2 | exact (jand_r _ _).1 | exact (jand_r _ _).2) only [x167_2, x167_3, x167_4, x167_7, kb_some, kb_none, clr_vi, clr_ref, clr_null, clr_none, va_rf_some, va_rf_none, ↓bi_ite_t, ↓bi_ite_f, ↓jc_lt_t, ↓jc_lt_f, ↓jc_gt_t, ↓jc_gt_f, ↓jc_le_t, ↓jc_le_f, ↓jc_ge_t, ↓jc_ge_f, ↓jc_eq_t, ↓jc_eq_f, ↓if_pos, ↓if_neg]
  | succ m ih =>
    intro t J ht hn hty hwo
    have hty0 := hty t (by omega)
    have hwo0 := hwo t (by omega)
    have hle := m_lengthOf (d := d) (J := J) (K := K) (R := R) (S := SH L) (w := J 87 t) hwo0
    obtain ⟨J', e1, e2, e3⟩ := ih (t + 1) (mm_up J 99 t (bs (J 86 t) (J 87 t))) (by omega) (by rw [up_ne (by decide)]; exact hn) (by rw [up_ne (by decide)]; exact hty) (by rw [up_ne (by decide)]; exact hwo)
    refine ⟨J', ?_, ?_, ?_⟩
    · rw [Int.natCast_succ] at e1
      have go : ∀ X, EE (d + 2) 167 2 [some (.ref 76), some (vi ((t : Int) + 1))] [] (SH L) (mm_up J 99 t (bs (J 86 t) (J 87 t))) K R = X → EE (d + 2) 167 2 [some (.ref 76), some (vi t)] [] (SH L) J K R = X := by
        intro X hX
        unfold bs at hX
        by_cases c1 : J 86 t = 110
        · rw [if_pos c1] at hX
          simp (disch := first | assumption | omega | exact bi_lo | exact bi_hi | exact bi_01 | exact jcmp_lo | exact jcmp_hi | exact (jor_r _ _).1 | exact (jor_r _ _).2 | exact (jand_r _ _).1 | exact (jand_r _ _).2) only [x167_2, x167_3, x167_4, x167_7, kb_some, kb_none, clr_vi, clr_ref, clr_null, clr_none, va_rf_some, va_rf_none, ↓bi_ite_t, ↓bi_ite_f, ↓jc_lt_t, ↓jc_lt_f, ↓jc_gt_t, ↓jc_gt_f, ↓jc_le_t, ↓jc_le_f, ↓jc_ge_t, ↓jc_ge_f, ↓jc_eq_t, ↓jc_eq_f, ↓if_pos, ↓if_neg]
          simp (disch := first | assumption | omega | exact bi_lo | exact bi_hi | exact bi_01 | exact jcmp_lo | exact jcmp_hi | exact (jor_r _ _).1 | exact (jor_r _ _).2 | exact (jand_r _ _).1 | exact (jand_r _ _).2) only [x167_10, x167_11, x167_14, x167_15, x167_16, x167_19, x167_20, x167_21, x167_23, x167_26, x167_27, x167_30, x167_31, x167_32, x167_35, x167_38, x167_39, x167_42, x167_43, x167_44, x167_46, x167_49, x167_50, x167_53, x167_54, x167_57, x167_58, x167_59, x167_60, x167_63, kb_some, kb_none, clr_vi, clr_ref, clr_null, clr_none, va_rf_some, va_rf_none, ↓bi_ite_t, ↓bi_ite_f, ↓jc_lt_t, ↓jc_lt_f, ↓jc_gt_t, ↓jc_gt_f, ↓jc_le_t, ↓jc_le_f, ↓jc_ge_t, ↓jc_ge_f, ↓jc_eq_t, ↓jc_eq_f, ↓if_pos, ↓if_neg, Int.toNat_natCast, hle, c1]
          exact hX
        · rw [if_neg c1] at hX
          by_cases c2 : J 86 t = 103
          · rw [if_pos c2] at hX
            simp (disch := first | assumption | omega | exact bi_lo | exact bi_hi | exact bi_01 | exact jcmp_lo | exact jcmp_hi | exact (jor_r _ _).1 | exact (jor_r _ _).2 | exact (jand_r _ _).1 | exact (jand_r _ _).2) only [x167_2, x167_3, x167_4, x167_7, kb_some, kb_none, clr_vi, clr_ref, clr_null, clr_none, va_rf_some, va_rf_none, ↓bi_ite_t, ↓bi_ite_f, ↓jc_lt_t, ↓jc_lt_f, ↓jc_gt_t, ↓jc_gt_f, ↓jc_le_t, ↓jc_le_f, ↓jc_ge_t, ↓jc_ge_f, ↓jc_eq_t, ↓jc_eq_f, ↓if_pos, ↓if_neg]
            simp (disch := first | assumption | omega | exact bi_lo | exact bi_hi | exact bi_01 | exact jcmp_lo | exact jcmp_hi | exact (jor_r _ _).1 | exact (jor_r _ _).2 | exact (jand_r _ _).1 | exact (jand_r _ _).2) only [x167_10, x167_11, x167_14, x167_15, x167_16, x167_19, x167_20, x167_21, x167_23, x167_26, x167_27, x167_30, x167_31, x167_32, x167_35, x167_38, x167_39, x167_42, x167_43, x167_44, x167_46, x167_49, x167_50, x167_53, x167_54, x167_57, x167_58, x167_59, x167_60, x167_63, kb_some, kb_none, clr_vi, clr_ref, clr_null, clr_none, va_rf_some, va_rf_none, ↓bi_ite_t, ↓bi_ite_f, ↓jc_lt_t, ↓jc_lt_f, ↓jc_gt_t, ↓jc_gt_f, ↓jc_le_t, ↓jc_le_f, ↓jc_ge_t, ↓jc_ge_f, ↓jc_eq_t, ↓jc_eq_f, ↓if_pos, ↓if_neg, Int.toNat_natCast, c2]
            exact hX
          · rw [if_neg c2] at hX
            simp (disch := first | assumption | omega | exact bi_lo | exact bi_hi | exact bi_01 | exact jcmp_lo | exact jcmp_hi | exact (jor_r _ _).1 | exact (jor_r _ _).2 | exact (jand_r _ _).1 | exact (jand_r _ _).2) only [x167_2, x167_3, x167_4, x167_7, kb_some, kb_none, clr_vi, clr_ref, clr_null, clr_none, va_rf_some, va_rf_none, ↓bi_ite_t, ↓bi_ite_f, ↓jc_lt_t, ↓jc_lt_f, ↓jc_gt_t, ↓jc_gt_f, ↓jc_le_t, ↓jc_le_f, ↓jc_ge_t, ↓jc_ge_f, ↓jc_eq_t, ↓jc_eq_f, ↓if_pos, ↓if_neg]
            simp (disch := first | assumption | omega | exact bi_lo | exact bi_hi | exact bi_01 | exact jcmp_lo | exact jcmp_hi | exact (jor_r _ _).1 | exact (jor_r _ _).2 | exact (jand_r _ _).1 | exact (jand_r _ _).2) only [x167_10, x167_11, x167_14, x167_15, x167_16, x167_19, x167_20, x167_21, x167_23, x167_26, x167_27, x167_30, x167_31, x167_32, x167_35, x167_38, x167_39, x167_42, x167_43, x167_44, x167_46, x167_49, x167_50, x167_53, x167_54, x167_57, x167_58, x167_59, x167_60, x167_63, kb_some, kb_none, clr_vi, clr_ref, clr_null, clr_none, va_rf_some, va_rf_none, ↓bi_ite_t, ↓bi_ite_f, ↓jc_lt_t, ↓jc_lt_f, ↓jc_gt_t, ↓jc_gt_f, ↓jc_le_t, ↓jc_le_f, ↓jc_ge_t, ↓jc_ge_f, ↓jc_eq_t, ↓jc_eq_f, ↓if_pos, ↓if_neg, Int.toNat_natCast]
            exact hX
      exact go _ e1
    · intro a j hj
      rw [e2 a j (by omega)]
      unfold mm_up
      rw [if_neg (by omega)]
    · intro j j1 j2
      by_cases c : j = t
      · subst c
        rw [e2 99 j (by omega), up_s]
      · rw [e3 j (by omega) j2, up_ne (by decide), up_ne (by decide)]
theorem l_ll2 (hR : wfR R) (h60 : n ≤ 60) : ∀ (D : Nat) (F : Fo D) (p : Int) (i : Nat) (J : mJ), wF g D F → mF (J 86) (J 87) (J 88) (J 89) D p F i → (∀ j, i ≤ j → j < i + fsz D F → J 99 j = bs (J 86 j) (J 87 j)) → i + fsz D F ≤ n → (p = -1 ∨ (0 ≤ p ∧ p < i)) →
    ∃ J', EE d 167 73 [some (.ref 76), some (vi ((i : Int) + fsz D F - 1))] [] (SH L) J K R = EE d 167 73 [some (.ref 76), some (vi ((i : Int) - 1))] [] (SH L) J' K R ∧ (∀ a j, ¬ (a = 99 ∧ ((i ≤ j ∧ j < i + fsz D F) ∨ (j : Int) = p)) → J' a j = J a j) ∧ lF g v (J' 99) D F i ∧ (0 ≤ p → J' 99 p.toNat = J 99 p.toNat + (wrF g v D F).length) := by
  have s76 : (SH L)[76]? = some (11, 58) := rfl; have r76_0 : R 76 0 = some 77 := rr_lk hR rfl; have r76_3 : R 76 3 = some 78 := rr_lk hR rfl; have r76_4 : R 76 4 = some 79 := rr_lk hR rfl; have r76_6 : R 76 6 = some 80 := rr_lk hR rfl; have r76_7 : R 76 7 = some 81 := rr_lk hR rfl; have r76_9 : R 76 9 = some 82 := rr_lk hR rfl; have r76_10 : R 76 10 = some 83 := rr_lk hR rfl; have r76_12 : R 76 12 = some 84 := rr_lk hR rfl; have r76_13 : R 76 13 = some 85 := rr_lk hR rfl; have r76_19 : R 76 19 = some 86 := rr_lk hR rfl; have r76_20 : R 76 20 = some 87 := rr_lk hR rfl; have r76_21 : R 76 21 = some 88 := rr_lk hR rfl; have r76_22 : R 76 22 = some 89 := rr_lk hR rfl; have r76_24 : R 76 24 = some 90 := rr_lk hR rfl; have r76_25 : R 76 25 = some 91 := rr_lk hR rfl; have r76_26 : R 76 26 = some 92 := rr_lk hR rfl; have r76_28 : R 76 28 = some 93 := rr_lk hR rfl; have r76_29 : R 76 29 = some 94 := rr_lk hR rfl; have r76_30 : R 76 30 = some 95 := rr_lk hR rfl; have r76_31 : R 76 31 = some 96 := rr_lk hR rfl; have r76_32 : R 76 32 = some 97 := rr_lk hR rfl; have r76_36 : R 76 36 = some 98 := rr_lk hR rfl; have r76_38 : R 76 38 = some 99 := rr_lk hR rfl; have r76_39 : R 76 39 = some 100 := rr_lk hR rfl; have r76_40 : R 76 40 = some 101 := rr_lk hR rfl; have r76_41 : R 76 41 = some 102 := rr_lk hR rfl; have r76_42 : R 76 42 = some 103 := rr_lk hR rfl; have r76_47 : R 76 47 = some 104 := rr_lk hR rfl; have r76_53 : R 76 53 = some 105 := rr_lk hR rfl; have r76_54 : R 76 54 = some 106 := rr_lk hR rfl; have r76_55 : R 76 55 = some 107 := rr_lk hR rfl; have r76_56 : R 76 56 = some 108 := rr_lk hR rfl; have r76_57 : R 76 57 = some 109 := rr_lk hR rfl; have s89 : (SH L)[89]? = some (20, 60) := rfl; have s99 : (SH L)[99]? = some (20, 60) := rfl
  intro D
  induction D with
  | zero =>
    intro F p i J hw hm hb hi hp
    refine ⟨J, ?_, fun _ _ _ => rfl, trivial, fun _ => by show _ = _ + ((0 : Nat) : Int); omega⟩
    rw [show (i : Int) + (fsz 0 F : Nat) - 1 = (i : Int) - 1 by have : fsz 0 F = 0 := rfl; omega]
  | succ D ih =>
    intro F
    induction (F : List (Nd D)) with
    | nil =>
      intro p i J hw hm hb hi hp
      refine ⟨J, ?_, fun _ _ _ => rfl, trivial, fun _ => by show _ = _ + ((0 : Nat) : Int); omega⟩
      rw [fsz_nil, show (i : Int) + ((0 : Nat) : Int) - 1 = (i : Int) - 1 by omega]
    | cons x F ihF =>
      intro p i J hw hm hb hi hp
      rw [wF_cons] at hw
      rw [mF_cons] at hm
      rw [fsz_cons] at hb hi ⊢
      obtain ⟨⟨u1, u1b, u1c, u4⟩, u2, u3⟩ := hm
      obtain ⟨w1, w2, w3, w4⟩ := hw.1
      obtain ⟨J1, a1, a2, a3, a4⟩ := ihF p (i + 1 + fsz D x.2) J hw.2 u3 (fun j j1 j2 => hb j (by omega) (by omega)) (by omega) (by omega)
      have r86 : J1 86 = J 86 := by funext j; exact a2 86 j (by omega)
      have r87 : J1 87 = J 87 := by funext j; exact a2 87 j (by omega)
      have r88 : J1 88 = J 88 := by funext j; exact a2 88 j (by omega)
      have r89 : J1 89 = J 89 := by funext j; exact a2 89 j (by omega)
      obtain ⟨J2, b1, b2, b3, b4⟩ := ih x.2 i (i + 1) J1 w4 (by rw [r86, r87, r88, r89]; exact u2) (fun j j1 j2 => by rw [a2 99 j (by omega), r86, r87]; exact hb j (by omega) (by omega)) (by omega) (Or.inr ⟨by omega, by omega⟩)
      have b4' := b4 (by omega)
      rw [Int.toNat_natCast, a2 99 i (by omega), hb i (by omega) (by omega), u1, u1b, bs_pay w1 w3] at b4'
      have r89' : J2 89 i = p := by rw [b2 89 i (by omega), a2 89 i (by omega), u4]
      have st1 : EE d 167 73 [some (.ref 76), some (vi ((i : Int) + ((1 + fsz D x.2 + fsz (D + 1) F : Nat) : Int) - 1))] [] (SH L) J K R = EE d 167 73 [some (.ref 76), some (vi i)] [] (SH L) J2 K R := by
        rw [show (i : Int) + ((1 + fsz D x.2 + fsz (D + 1) F : Nat) : Int) - 1 = ((i + 1 + fsz D x.2 : Nat) : Int) + (fsz (D + 1) F : Nat) - 1 by omega, a1]
        rw [show ((i + 1 + fsz D x.2 : Nat) : Int) - 1 = ((i + 1 : Nat) : Int) + (fsz D x.2 : Nat) - 1 by omega, b1]
        rw [show ((i + 1 : Nat) : Int) - 1 = (i : Int) by omega]
      rw [st1]
      rcases hp with hp | hp
      · refine ⟨J2, ?_, ?_, ?_, fun q => by omega⟩
        · have go : ∀ X, EE d 167 73 [some (.ref 76), some (vi ((i : Int) + -1))] [] (SH L) J2 K R = X → EE d 167 73 [some (.ref 76), some (vi i)] [] (SH L) J2 K R = X := by
            intro X hX
            simp (disch := first | assumption | omega | exact bi_lo | exact bi_hi | exact bi_01 | exact jcmp_lo | exact jcmp_hi | exact (jor_r _ _).1 | exact (jor_r _ _).2 | exact (jand_r _ _).1 | exact (jand_r _ _).2) only [x167_73, x167_74, kb_some, kb_none, clr_vi, clr_ref, clr_null, clr_none, va_rf_some, va_rf_none, ↓bi_ite_t, ↓bi_ite_f, ↓jc_lt_t, ↓jc_lt_f, ↓jc_gt_t, ↓jc_gt_f, ↓jc_le_t, ↓jc_le_f, ↓jc_ge_t, ↓jc_ge_f, ↓jc_eq_t, ↓jc_eq_f, ↓if_pos, ↓if_neg]
            simp (disch := first | assumption | omega | exact bi_lo | exact bi_hi | exact bi_01 | exact jcmp_lo | exact jcmp_hi | exact (jor_r _ _).1 | exact (jor_r _ _).2 | exact (jand_r _ _).1 | exact (jand_r _ _).2) only [x167_77, x167_78, x167_81, x167_82, x167_83, x167_108, x167_111, kb_some, kb_none, clr_vi, clr_ref, clr_null, clr_none, va_rf_some, va_rf_none, ↓bi_ite_t, ↓bi_ite_f, ↓jc_lt_t, ↓jc_lt_f, ↓jc_gt_t, ↓jc_gt_f, ↓jc_le_t, ↓jc_le_f, ↓jc_ge_t, ↓jc_ge_f, ↓jc_eq_t, ↓jc_eq_f, ↓if_pos, ↓if_neg, Int.toNat_natCast, r89']
            exact hX
          rw [go _ rfl]; rfl
        · intro a j hj
          rw [b2 a j (by omega), a2 a j (by omega)]
        · rw [lF_cons]
          exact ⟨b4', b3, lF_congr _ _ _ a3 (fun j j1 j2 => b2 99 j (by omega))⟩
      · have rp : J2 99 p.toNat = J 99 p.toNat + (wrF g v (D + 1) F).length := by rw [b2 99 _ (by omega), a4 hp.1]
        refine ⟨mm_up J2 99 p.toNat (J2 99 p.toNat + (3 + J2 99 i)), ?_, ?_, ?_, ?_⟩
        · have go : ∀ X, EE d 167 73 [some (.ref 76), some (vi ((i : Int) + -1))] [] (SH L) (mm_up J2 99 p.toNat (J2 99 p.toNat + (3 + J2 99 i))) K R = X → EE d 167 73 [some (.ref 76), some (vi i)] [] (SH L) J2 K R = X := by
            intro X hX
            simp (disch := first | assumption | omega | exact bi_lo | exact bi_hi | exact bi_01 | exact jcmp_lo | exact jcmp_hi | exact (jor_r _ _).1 | exact (jor_r _ _).2 | exact (jand_r _ _).1 | exact (jand_r _ _).2) only [x167_73, x167_74, kb_some, kb_none, clr_vi, clr_ref, clr_null, clr_none, va_rf_some, va_rf_none, ↓bi_ite_t, ↓bi_ite_f, ↓jc_lt_t, ↓jc_lt_f, ↓jc_gt_t, ↓jc_gt_f, ↓jc_le_t, ↓jc_le_f, ↓jc_ge_t, ↓jc_ge_f, ↓jc_eq_t, ↓jc_eq_f, ↓if_pos, ↓if_neg]
            simp (disch := first | assumption | omega | exact bi_lo | exact bi_hi | exact bi_01 | exact jcmp_lo | exact jcmp_hi | exact (jor_r _ _).1 | exact (jor_r _ _).2 | exact (jand_r _ _).1 | exact (jand_r _ _).2) only [x167_77, x167_78, x167_81, x167_82, x167_83, x167_86, x167_87, x167_90, x167_91, x167_94, x167_95, x167_96, x167_97, x167_98, x167_99, x167_100, x167_103, x167_104, x167_105, x167_106, x167_107, x167_108, x167_111, kb_some, kb_none, clr_vi, clr_ref, clr_null, clr_none, va_rf_some, va_rf_none, ↓bi_ite_t, ↓bi_ite_f, ↓jc_lt_t, ↓jc_lt_f, ↓jc_gt_t, ↓jc_gt_f, ↓jc_le_t, ↓jc_le_f, ↓jc_ge_t, ↓jc_ge_f, ↓jc_eq_t, ↓jc_eq_f, ↓if_pos, ↓if_neg, Int.toNat_natCast, r89']
            exact hX
          rw [go _ rfl]; rfl
        · intro a j hj
          have : ¬ (a = 99 ∧ j = p.toNat) := by omega
          unfold mm_up
          rw [if_neg this, b2 a j (by omega), a2 a j (by omega)]
        · rw [lF_cons]
          refine ⟨?_, lF_congr _ _ _ b3 (fun j j1 j2 => up_j (by omega)), lF_congr _ _ _ a3 (fun j j1 j2 => ?_)⟩
          · rw [up_j (by omega)]; exact b4'
          · rw [up_j (by omega)]; exact b2 99 j (by omega)
        · intro _
          rw [up_s, rp, b4', wrF_len]; omega
end
