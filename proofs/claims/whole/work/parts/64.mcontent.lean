/-! the reference lays the bytes -/
def seg (m : Nat → Int) : Nat → List Int → Prop
  | _, [] => True
  | s, x :: l => m s = x ∧ seg m (s + 1) l
theorem seg_congr {m m' : Nat → Int} : ∀ (l : List Int) (s : Nat), seg m s l → (∀ j, s ≤ j → j < s + l.length → m' j = m j) → seg m' s l := by
  intro l
  induction l with
  | nil => intro s h h1; trivial
  | cons x l ih =>
    intro s h h1
    rw [List.length_cons] at h1
    exact ⟨(h1 s (by omega) (by omega)).trans h.1, ih _ h.2 (fun j j1 j2 => h1 j (by omega) (by omega))⟩
theorem seg_app {m : Nat → Int} : ∀ (l l' : List Int) (s : Nat), seg m s l → seg m (s + l.length) l' → seg m s (l ++ l') := by
  intro l
  induction l with
  | nil => intro l' s h h1; exact h1
  | cons x l ih =>
    intro l' s h h1
    rw [List.length_cons, show s + (l.length + 1) = s + 1 + l.length by omega] at h1
    exact ⟨h.1, ih _ _ h.2 h1⟩
theorem seg_at {m : Nat → Int} : ∀ (l : List Int) (s : Nat), seg m s l → ∀ (k : Nat) (h : k < l.length), m (s + k) = l[k] := by
  intro l
  induction l with
  | nil => intro s h k hk; simp at hk
  | cons x l ih =>
    intro s h k hk
    cases k with
    | zero => exact h.1
    | succ k =>
      have := ih (s + 1) h.2 k (by simpa using hk)
      rw [show s + (k + 1) = s + 1 + k by omega, this]; rfl
def byL (l : List Int) : Prop := ∀ b ∈ l, 0 ≤ b ∧ b ≤ 255
theorem byL_app {l l' : List Int} (h : byL l) (h' : byL l') : byL (l ++ l') := fun b hb => by
  rcases List.mem_append.mp hb with q | q
  · exact h b q
  · exact h' b q
theorem byL_one {x : Int} (h : 0 ≤ x ∧ x ≤ 255) : byL [x] := fun b hb => by
  rw [List.mem_singleton] at hb; subst hb; exact h
theorem byL_nb {v : Int} : ∀ k : Nat, byL (nbL v k) := by
  intro k
  induction k with
  | zero => intro b hb; cases hb
  | succ k ih =>
    intro b hb
    rcases List.mem_cons.mp hb with q | q
    · rw [q, jand_255]; omega
    · exact ih b q
theorem byL_row {g : Int → Int} : ∀ (m : Nat) (p : Int), (∀ k : Int, 0 ≤ k → k < m → 0 ≤ g (p + k) ∧ g (p + k) ≤ 255) → byL (rowL g m p) := by
  intro m
  induction m with
  | zero => intro p h b hb; cases hb
  | succ m ih =>
    intro p h b hb
    rcases List.mem_cons.mp hb with q | q
    · have := h 0 (by omega) (by omega)
      rw [Int.add_zero] at this
      rw [q]; exact this
    · exact ih (p + 1) (fun k k1 k2 => by have := h (k + 1) (by omega) (by omega); rw [show p + 1 + k = p + (k + 1) by omega]; exact this) b q
theorem byL_leaf {g : Int → Int} {a : Da} (h : wD g a) (h3 : a.1 ≠ 103) : byL (leafB g a) := by
  unfold leafB
  split
  · exact byL_nb _
  · unfold wD at h
    rcases h with h | h | h
    · omega
    · exact byL_row _ _ (fun k k1 k2 => h.2.2.2.2.2 k k1 (by omega))
    · omega
theorem ckL_r {v : Int} : ∀ (l : List Int) (c : Int), 0 ≤ c ∧ c ≤ 255 → 0 ≤ ckL v l c ∧ ckL v l c ≤ 255 := by
  intro l
  induction l with
  | nil => intro c h; exact h
  | cons x l ih => intro c h; exact ih _ (ckS_r h)
theorem byL_wrF {g : Int → Int} {v : Int} : ∀ (d : Nat) (F : Fo d), wF g d F → (wrF g v d F).length ≤ 255 → byL (wrF g v d F) := by
  intro d
  induction d with
  | zero => intro F h hl b hb; cases hb
  | succ d ih =>
    intro F
    induction (F : List (Nd d)) with
    | nil => intro h hl b hb; cases hb
    | cons x F ihF =>
      intro h hl
      rw [wF_cons] at h
      rw [wrF_len] at hl
      have hp : byL (payT g v d x) := by
        unfold payT at hl ⊢
        split
        · rename_i c; rw [if_pos c] at hl; exact ih _ h.1.2.2.2 (by omega)
        · exact byL_leaf h.1.1 (by assumption)
      have ht := wD_ty h.1.1
      rw [wrF_cons]
      refine byL_app (byL_app (byL_app ?_ hp) (byL_one (ckL_r _ _ (by omega)))) (ihF h.2 (by omega))
      intro b hb
      simp only [List.mem_cons, List.not_mem_nil, or_false] at hb
      rcases hb with q | q <;> omega
theorem byL_pay {g : Int → Int} {v : Int} {d : Nat} {x : Nd d} (h : wF g (d + 1) ([x] : List (Nd d))) (hl : (payT g v d x).length ≤ 255) : byL (payT g v d x) := by
  rw [wF_cons] at h
  unfold payT at hl ⊢
  split
  · rename_i c; rw [if_pos c] at hl; exact byL_wrF _ _ h.1.2.2.2 hl
  · exact byL_leaf h.1.1 (by assumption)
/-- what was spelled: the bytes of rows -/
def SP (g : Int → Int) (J : mJ) : Prop := ∀ p, 0 ≤ g p → 0 ≤ p ∧ p < 200 ∧ J 102 p.toNat = g p
section
variable {L d : Nat} {J K : mJ} {R : mm_R} {g : Int → Int} {v w : Int} {n : Nat}
theorem l_madeCheck (hR : wfR R) {s0 nn : Nat} (hv : -2147483648 ≤ v ∧ v ≤ 2147483647) (hs : s0 + nn ≤ 400) : ∀ (P : List Int) (k : Nat) (c : Int), seg (J 98) k P → byL P → s0 ≤ k → k + P.length = s0 + nn → 0 ≤ c ∧ c ≤ 255 →
    EE (d + 1) 169 6 [some (.ref 76), some (vi v), some (vi s0), some (vi nn), some (vi c), some (vi k)] [] (SH L) J K R = ok (some (vi (ckL v P c))) (SH L) J K R := by
  have s76 : (SH L)[76]? = some (11, 58) := rfl; have r76_0 : R 76 0 = some 77 := rr_lk hR rfl; have r76_3 : R 76 3 = some 78 := rr_lk hR rfl; have r76_4 : R 76 4 = some 79 := rr_lk hR rfl; have r76_6 : R 76 6 = some 80 := rr_lk hR rfl; have r76_7 : R 76 7 = some 81 := rr_lk hR rfl; have r76_9 : R 76 9 = some 82 := rr_lk hR rfl; have r76_10 : R 76 10 = some 83 := rr_lk hR rfl; have r76_12 : R 76 12 = some 84 := rr_lk hR rfl; have r76_13 : R 76 13 = some 85 := rr_lk hR rfl; have r76_19 : R 76 19 = some 86 := rr_lk hR rfl; have r76_20 : R 76 20 = some 87 := rr_lk hR rfl; have r76_21 : R 76 21 = some 88 := rr_lk hR rfl; have r76_22 : R 76 22 = some 89 := rr_lk hR rfl; have r76_24 : R 76 24 = some 90 := rr_lk hR rfl; have r76_25 : R 76 25 = some 91 := rr_lk hR rfl; have r76_26 : R 76 26 = some 92 := rr_lk hR rfl; have r76_28 : R 76 28 = some 93 := rr_lk hR rfl; have r76_29 : R 76 29 = some 94 := rr_lk hR rfl; have r76_30 : R 76 30 = some 95 := rr_lk hR rfl; have r76_31 : R 76 31 = some 96 := rr_lk hR rfl; have r76_32 : R 76 32 = some 97 := rr_lk hR rfl; have r76_36 : R 76 36 = some 98 := rr_lk hR rfl; have r76_38 : R 76 38 = some 99 := rr_lk hR rfl; have r76_39 : R 76 39 = some 100 := rr_lk hR rfl; have r76_40 : R 76 40 = some 101 := rr_lk hR rfl; have r76_41 : R 76 41 = some 102 := rr_lk hR rfl; have r76_42 : R 76 42 = some 103 := rr_lk hR rfl; have r76_47 : R 76 47 = some 104 := rr_lk hR rfl; have r76_53 : R 76 53 = some 105 := rr_lk hR rfl; have r76_54 : R 76 54 = some 106 := rr_lk hR rfl; have r76_55 : R 76 55 = some 107 := rr_lk hR rfl; have r76_56 : R 76 56 = some 108 := rr_lk hR rfl; have r76_57 : R 76 57 = some 109 := rr_lk hR rfl; have s98 : (SH L)[98]? = some (20, 400) := rfl
  intro P
  induction P with
  | nil =>
    intro k c hsg hb hk hkn hc
    rw [List.length_nil] at hkn
    simp (disch := first | assumption | omega | exact bi_lo | exact bi_hi | exact bi_01 | exact jcmp_lo | exact jcmp_hi | exact (jor_r _ _).1 | exact (jor_r _ _).2 | exact (jand_r _ _).1 | exact (jand_r _ _).2) only [x169_6, x169_8, x169_9, x169_10, x169_11, x169_35, x169_37, kb_some, kb_none, clr_vi, clr_ref, clr_null, clr_none, va_rf_some, va_rf_none, ↓bi_ite_t, ↓bi_ite_f, ↓jc_lt_t, ↓jc_lt_f, ↓jc_gt_t, ↓jc_gt_f, ↓jc_le_t, ↓jc_le_f, ↓jc_ge_t, ↓jc_ge_f, ↓jc_eq_t, ↓jc_eq_f, ↓if_pos, ↓if_neg]
    rfl
  | cons x P ih =>
    intro k c hsg hb hk hkn hc
    rw [List.length_cons] at hkn
    have hx := hb x (List.mem_cons_self)
    have hck := m_checked (d := d) (S := SH L) (J := J) (K := K) (R := R) (v := v) hv hc hx
    have ih' := ih (k + 1) (ckS v c x) hsg.2 (fun b hb' => hb b (List.mem_cons_of_mem _ hb')) (by omega) (by omega) (ckS_r hc)
    rw [Int.natCast_succ] at ih'
    simp (disch := first | assumption | omega | exact bi_lo | exact bi_hi | exact bi_01 | exact jcmp_lo | exact jcmp_hi | exact (jor_r _ _).1 | exact (jor_r _ _).2 | exact (jand_r _ _).1 | exact (jand_r _ _).2) only [x169_6, x169_8, x169_9, x169_10, x169_11, kb_some, kb_none, clr_vi, clr_ref, clr_null, clr_none, va_rf_some, va_rf_none, ↓bi_ite_t, ↓bi_ite_f, ↓jc_lt_t, ↓jc_lt_f, ↓jc_gt_t, ↓jc_gt_f, ↓jc_le_t, ↓jc_le_f, ↓jc_ge_t, ↓jc_ge_f, ↓jc_eq_t, ↓jc_eq_f, ↓if_pos, ↓if_neg]
    simp (disch := first | assumption | omega | exact bi_lo | exact bi_hi | exact bi_01 | exact jcmp_lo | exact jcmp_hi | exact (jor_r _ _).1 | exact (jor_r _ _).2 | exact (jand_r _ _).1 | exact (jand_r _ _).2) only [x169_14, x169_15, x169_17, x169_18, x169_21, x169_23, x169_24, x169_27, x169_29, x169_32, kb_some, kb_none, clr_vi, clr_ref, clr_null, clr_none, va_rf_some, va_rf_none, Int.toNat_natCast, hsg.1, hck]
    exact ih'
theorem m_madeCheck (hR : wfR R) {s0 : Nat} {P : List Int} (hv : -2147483648 ≤ v ∧ v ≤ 2147483647) (hs : s0 + P.length ≤ 400) (hsg : seg (J 98) s0 P) (hb : byL P) :
    EE (d + 1) 169 0 [some (.ref 76), some (vi v), some (vi s0), some (vi (P.length : Nat)), none, none] [] (SH L) J K R = ok (some (vi (ckL v P 0))) (SH L) J K R := by
  have hl := l_madeCheck (L := L) (d := d) (K := K) hR hv hs P s0 0 hsg hb (by omega) (by omega) (by omega)
  simp (disch := first | assumption | omega | exact bi_lo | exact bi_hi | exact bi_01 | exact jcmp_lo | exact jcmp_hi | exact (jor_r _ _).1 | exact (jor_r _ _).2 | exact (jand_r _ _).1 | exact (jand_r _ _).2) only [x169_0, x169_1, x169_3, x169_4, kb_some, kb_none, clr_vi, clr_ref, clr_null, clr_none, va_rf_some, va_rf_none]
  exact hl
/-- one thing's own bytes -/
theorem l_thing (hR : wfR R) {t pl : Nat} {a : Da} (ht : t < 60) (hs : pl + (leafB g a).length ≤ 400) (hw : wD g a) (h3 : a.1 ≠ 103) : ∀ (m k : Nat) (J : mJ), k + m = (leafB g a).length → J 86 t = a.1 → J 87 t = a.2.1 → J 88 t = a.2.2 → J 99 t = (leafB g a).length → J 100 t = pl → SP g J →
    ∃ J', EE d 170 2 [some (.ref 76), some (vi t), some (vi k)] [] (SH L) J K R = EE d 170 93 [some (.ref 76), some (vi t), some (vi (leafB g a).length)] [] (SH L) J' K R ∧ (∀ b j, ¬ (b = 98 ∧ pl + k ≤ j ∧ j < pl + (leafB g a).length) → J' b j = J b j) ∧ (∀ j, k ≤ j → (hj : j < (leafB g a).length) → J' 98 (pl + j) = (leafB g a)[j]) := by
  have s76 : (SH L)[76]? = some (11, 58) := rfl; have r76_0 : R 76 0 = some 77 := rr_lk hR rfl; have r76_3 : R 76 3 = some 78 := rr_lk hR rfl; have r76_4 : R 76 4 = some 79 := rr_lk hR rfl; have r76_6 : R 76 6 = some 80 := rr_lk hR rfl; have r76_7 : R 76 7 = some 81 := rr_lk hR rfl; have r76_9 : R 76 9 = some 82 := rr_lk hR rfl; have r76_10 : R 76 10 = some 83 := rr_lk hR rfl; have r76_12 : R 76 12 = some 84 := rr_lk hR rfl; have r76_13 : R 76 13 = some 85 := rr_lk hR rfl; have r76_19 : R 76 19 = some 86 := rr_lk hR rfl; have r76_20 : R 76 20 = some 87 := rr_lk hR rfl; have r76_21 : R 76 21 = some 88 := rr_lk hR rfl; have r76_22 : R 76 22 = some 89 := rr_lk hR rfl; have r76_24 : R 76 24 = some 90 := rr_lk hR rfl; have r76_25 : R 76 25 = some 91 := rr_lk hR rfl; have r76_26 : R 76 26 = some 92 := rr_lk hR rfl; have r76_28 : R 76 28 = some 93 := rr_lk hR rfl; have r76_29 : R 76 29 = some 94 := rr_lk hR rfl; have r76_30 : R 76 30 = some 95 := rr_lk hR rfl; have r76_31 : R 76 31 = some 96 := rr_lk hR rfl; have r76_32 : R 76 32 = some 97 := rr_lk hR rfl; have r76_36 : R 76 36 = some 98 := rr_lk hR rfl; have r76_38 : R 76 38 = some 99 := rr_lk hR rfl; have r76_39 : R 76 39 = some 100 := rr_lk hR rfl; have r76_40 : R 76 40 = some 101 := rr_lk hR rfl; have r76_41 : R 76 41 = some 102 := rr_lk hR rfl; have r76_42 : R 76 42 = some 103 := rr_lk hR rfl; have r76_47 : R 76 47 = some 104 := rr_lk hR rfl; have r76_53 : R 76 53 = some 105 := rr_lk hR rfl; have r76_54 : R 76 54 = some 106 := rr_lk hR rfl; have r76_55 : R 76 55 = some 107 := rr_lk hR rfl; have r76_56 : R 76 56 = some 108 := rr_lk hR rfl; have r76_57 : R 76 57 = some 109 := rr_lk hR rfl; have s86 : (SH L)[86]? = some (20, 60) := rfl; have s87 : (SH L)[87]? = some (20, 60) := rfl; have s88 : (SH L)[88]? = some (20, 60) := rfl; have s98 : (SH L)[98]? = some (20, 400) := rfl; have s99 : (SH L)[99]? = some (20, 60) := rfl; have s100 : (SH L)[100]? = some (20, 60) := rfl; have s102 : (SH L)[102]? = some (20, 200) := rfl
  have hty := wD_ty hw
  intro m
  induction m with
  | zero =>
    intro k J hk e86 e87 e88 e99 e100 hsp
    refine ⟨J, ?_, fun _ _ _ => rfl, fun j j1 j2 => by omega⟩
    rw [Nat.add_zero] at hk
    rw [← hk] at e99 ⊢
    simp (disch := first | assumption | omega | exact bi_lo | exact bi_hi | exact bi_01 | exact jcmp_lo | exact jcmp_hi | exact (jor_r _ _).1 | exact (jor_r _ _).2 | exact (jand_r _ _).1 | exact (jand_r _ _).2) only [x170_2, x170_3, x170_4, x170_7, x170_8, x170_9, kb_some, kb_none, clr_vi, clr_ref, clr_null, clr_none, va_rf_some, va_rf_none, ↓bi_ite_t, ↓bi_ite_f, ↓jc_lt_t, ↓jc_lt_f, ↓jc_gt_t, ↓jc_gt_f, ↓jc_le_t, ↓jc_le_f, ↓jc_ge_t, ↓jc_ge_f, ↓jc_eq_t, ↓jc_eq_f, ↓if_pos, ↓if_neg, Int.toNat_natCast, e99]
  | succ m ih =>
    intro k J hk e86 e87 e88 e99 e100 hsp
    have hkl : k < (leafB g a).length := by omega
    have step : ∀ X, EE d 170 2 [some (.ref 76), some (vi t), some (vi ((k : Int) + 1))] [] (SH L) (mm_up J 98 (pl + k) (leafB g a)[k]) K R = X → EE d 170 2 [some (.ref 76), some (vi t), some (vi k)] [] (SH L) J K R = X := by
      intro X hX
      have et : ((pl : Int) + (k : Int)).toNat = pl + k := by omega
      by_cases c : a.1 = 110
      · have el : leafB g a = nbL a.2.1 (lenN a.2.1) := if_pos c
        have key : ∀ (q k : Nat) (hk : k < (nbL a.2.1 q).length), (nbL a.2.1 q)[k] = jand (jshr a.2.1 (8 * ((q : Int) - 1 - k))) 255 := by
          intro q
          induction q with
          | zero => intro k hk; simp [nbL] at hk
          | succ q ih2 =>
            intro k hk
            cases k with
            | zero => show jand (jshr a.2.1 (8 * (q : Int))) 255 = _; congr 3; omega
            | succ k =>
              have hk' : k < (nbL a.2.1 q).length := by rw [nbL_len] at hk ⊢; omega
              show (nbL a.2.1 q)[k]'hk' = _
              rw [ih2 k]
              congr 3; omega
        have hv : (leafB g a)[k] = jand (jshr a.2.1 (8 * (((leafB g a).length : Int) - 1 - k))) 255 := by
          have := key (lenN a.2.1) k (by rw [← el]; exact hkl)
          rw [show ((leafB g a).length : Int) = lenN a.2.1 by rw [el, nbL_len]]
          rw [← this]
          congr 1
        rw [hv] at hX
        simp (disch := first | assumption | omega | exact bi_lo | exact bi_hi | exact bi_01 | exact jcmp_lo | exact jcmp_hi | exact (jor_r _ _).1 | exact (jor_r _ _).2 | exact (jand_r _ _).1 | exact (jand_r _ _).2) only [x170_2, x170_3, x170_4, x170_7, x170_8, x170_9, kb_some, kb_none, clr_vi, clr_ref, clr_null, clr_none, va_rf_some, va_rf_none, ↓bi_ite_t, ↓bi_ite_f, ↓jc_lt_t, ↓jc_lt_f, ↓jc_gt_t, ↓jc_gt_f, ↓jc_le_t, ↓jc_le_f, ↓jc_ge_t, ↓jc_ge_f, ↓jc_eq_t, ↓jc_eq_f, ↓if_pos, ↓if_neg, Int.toNat_natCast, e99]
        simp (disch := first | assumption | omega | exact bi_lo | exact bi_hi | exact bi_01 | exact jcmp_lo | exact jcmp_hi | exact (jor_r _ _).1 | exact (jor_r _ _).2 | exact (jand_r _ _).1 | exact (jand_r _ _).2) only [x170_12, x170_13, x170_16, x170_17, x170_18, x170_20, x170_23, x170_24, x170_27, x170_28, x170_31, x170_32, x170_33, x170_34, x170_35, x170_36, x170_39, x170_40, x170_41, x170_43, x170_46, x170_47, x170_50, x170_51, x170_52, x170_54, x170_55, x170_58, x170_59, x170_60, x170_61, x170_62, x170_63, x170_64, x170_65, x170_66, x170_69, x170_70, x170_73, x170_74, x170_77, x170_78, x170_81, x170_82, x170_83, x170_84, x170_85, x170_86, x170_87, x170_90, kb_some, kb_none, clr_vi, clr_ref, clr_null, clr_none, va_rf_some, va_rf_none, ↓bi_ite_t, ↓bi_ite_f, ↓jc_lt_t, ↓jc_lt_f, ↓jc_gt_t, ↓jc_gt_f, ↓jc_le_t, ↓jc_le_f, ↓jc_ge_t, ↓jc_ge_f, ↓jc_eq_t, ↓jc_eq_f, ↓if_pos, ↓if_neg, Int.toNat_natCast, e86, e87, e99, e100, et, c]
        exact hX
      · have el : leafB g a = rowL g a.2.1.toNat a.2.2 := if_neg c
        have key : ∀ (q k : Nat) (p : Int) (hk : k < (rowL g q p).length), (rowL g q p)[k] = g (p + k) := by
          intro q
          induction q with
          | zero => intro k p hk; simp [rowL] at hk
          | succ q ih2 =>
            intro k p hk
            cases k with
            | zero => show g p = _; congr 1; omega
            | succ k =>
              have hk' : k < (rowL g q (p + 1)).length := by rw [rowL_len] at hk ⊢; omega
              show (rowL g q (p + 1))[k]'hk' = _
              rw [ih2 k]
              congr 1; omega
        have hv : (leafB g a)[k] = g (a.2.2 + k) := by
          have := key a.2.1.toNat k a.2.2 (by rw [← el]; exact hkl)
          rw [← this]
          congr 1
        rw [hv] at hX
        have hkw : (k : Int) < a.2.1 := by rw [el, rowL_len] at hkl; omega
        have hg : 0 ≤ g (a.2.2 + k) := by
          unfold wD at hw
          rcases hw with q | q | q
          · omega
          · exact (q.2.2.2.2.2 k (by omega) hkw).1
          · omega
        obtain ⟨g1, g2, g3⟩ := hsp _ hg
        simp (disch := first | assumption | omega | exact bi_lo | exact bi_hi | exact bi_01 | exact jcmp_lo | exact jcmp_hi | exact (jor_r _ _).1 | exact (jor_r _ _).2 | exact (jand_r _ _).1 | exact (jand_r _ _).2) only [x170_2, x170_3, x170_4, x170_7, x170_8, x170_9, kb_some, kb_none, clr_vi, clr_ref, clr_null, clr_none, va_rf_some, va_rf_none, ↓bi_ite_t, ↓bi_ite_f, ↓jc_lt_t, ↓jc_lt_f, ↓jc_gt_t, ↓jc_gt_f, ↓jc_le_t, ↓jc_le_f, ↓jc_ge_t, ↓jc_ge_f, ↓jc_eq_t, ↓jc_eq_f, ↓if_pos, ↓if_neg, Int.toNat_natCast, e99]
        simp (disch := first | assumption | omega | exact bi_lo | exact bi_hi | exact bi_01 | exact jcmp_lo | exact jcmp_hi | exact (jor_r _ _).1 | exact (jor_r _ _).2 | exact (jand_r _ _).1 | exact (jand_r _ _).2) only [x170_12, x170_13, x170_16, x170_17, x170_18, x170_20, x170_23, x170_24, x170_27, x170_28, x170_31, x170_32, x170_33, x170_34, x170_35, x170_36, x170_39, x170_40, x170_41, x170_43, x170_46, x170_47, x170_50, x170_51, x170_52, x170_54, x170_55, x170_58, x170_59, x170_60, x170_61, x170_62, x170_63, x170_64, x170_65, x170_66, x170_69, x170_70, x170_73, x170_74, x170_77, x170_78, x170_81, x170_82, x170_83, x170_84, x170_85, x170_86, x170_87, x170_90, kb_some, kb_none, clr_vi, clr_ref, clr_null, clr_none, va_rf_some, va_rf_none, ↓bi_ite_t, ↓bi_ite_f, ↓jc_lt_t, ↓jc_lt_f, ↓jc_gt_t, ↓jc_gt_f, ↓jc_le_t, ↓jc_le_f, ↓jc_ge_t, ↓jc_ge_f, ↓jc_eq_t, ↓jc_eq_f, ↓if_pos, ↓if_neg, Int.toNat_natCast, e86, e88, e100, et, g3]
        exact hX
    obtain ⟨J', b1, b2, b3⟩ := ih (k + 1) (mm_up J 98 (pl + k) (leafB g a)[k]) (by omega) (by rw [up_ne (by decide)]; exact e86) (by rw [up_ne (by decide)]; exact e87) (by rw [up_ne (by decide)]; exact e88) (by rw [up_ne (by decide)]; exact e99) (by rw [up_ne (by decide)]; exact e100) (fun p hp => by rw [up_ne (by decide)]; exact hsp p hp)
    rw [Int.natCast_succ] at b1
    refine ⟨J', step _ b1, ?_, ?_⟩
    · intro b j hj
      rw [b2 b j (by omega)]
      unfold mm_up
      rw [if_neg (by omega)]
    · intro j j1 j2
      by_cases c : j = k
      · subst c
        rw [b2 98 (pl + j) (by omega), up_s]
      · exact b3 j (by omega) j2
theorem seg_of {m : Nat → Int} : ∀ (l : List Int) (s : Nat), (∀ (k : Nat) (h : k < l.length), m (s + k) = l[k]) → seg m s l := by
  intro l
  induction l with
  | nil => intro s h; trivial
  | cons x l ih =>
    intro s h
    refine ⟨h 0 (by simp), ih (s + 1) (fun k hk => ?_)⟩
    have := h (k + 1) (by simpa using hk)
    rw [show s + 1 + k = s + (k + 1) by omega, this]; rfl
theorem m_layThing (hR : wfR R) {t pl : Nat} {a : Da} {ln : Nat} (ht : t < 60) (hw : wD g a) (hln : a.1 ≠ 103 → ln = (leafB g a).length) (hs : pl + ln ≤ 400) (e86 : J 86 t = a.1) (e87 : J 87 t = a.2.1) (e88 : J 88 t = a.2.2) (e99 : J 99 t = ln) (e100 : J 100 t = pl) (hsp : SP g J) (hp : (J 89 t = -1) ∨ (0 ≤ J 89 t ∧ J 89 t ≤ 100 ∧ 2 ≤ pl)) :
    ∃ J', EE d 170 0 [some (.ref 76), some (vi t), none] [] (SH L) J K R = ok none (SH L) J' K R ∧ (∀ b j, ¬ (b = 98 ∧ ((a.1 ≠ 103 ∧ pl ≤ j ∧ j < pl + ln) ∨ (0 ≤ J 89 t ∧ (j + 2 = pl ∨ j + 1 = pl)))) → J' b j = J b j) ∧ (a.1 ≠ 103 → seg (J' 98) pl (leafB g a)) ∧ (0 ≤ J 89 t → J' 98 (pl - 2) = a.1 ∧ J' 98 (pl - 1) = ln) := by
  have s76 : (SH L)[76]? = some (11, 58) := rfl; have r76_0 : R 76 0 = some 77 := rr_lk hR rfl; have r76_3 : R 76 3 = some 78 := rr_lk hR rfl; have r76_4 : R 76 4 = some 79 := rr_lk hR rfl; have r76_6 : R 76 6 = some 80 := rr_lk hR rfl; have r76_7 : R 76 7 = some 81 := rr_lk hR rfl; have r76_9 : R 76 9 = some 82 := rr_lk hR rfl; have r76_10 : R 76 10 = some 83 := rr_lk hR rfl; have r76_12 : R 76 12 = some 84 := rr_lk hR rfl; have r76_13 : R 76 13 = some 85 := rr_lk hR rfl; have r76_19 : R 76 19 = some 86 := rr_lk hR rfl; have r76_20 : R 76 20 = some 87 := rr_lk hR rfl; have r76_21 : R 76 21 = some 88 := rr_lk hR rfl; have r76_22 : R 76 22 = some 89 := rr_lk hR rfl; have r76_24 : R 76 24 = some 90 := rr_lk hR rfl; have r76_25 : R 76 25 = some 91 := rr_lk hR rfl; have r76_26 : R 76 26 = some 92 := rr_lk hR rfl; have r76_28 : R 76 28 = some 93 := rr_lk hR rfl; have r76_29 : R 76 29 = some 94 := rr_lk hR rfl; have r76_30 : R 76 30 = some 95 := rr_lk hR rfl; have r76_31 : R 76 31 = some 96 := rr_lk hR rfl; have r76_32 : R 76 32 = some 97 := rr_lk hR rfl; have r76_36 : R 76 36 = some 98 := rr_lk hR rfl; have r76_38 : R 76 38 = some 99 := rr_lk hR rfl; have r76_39 : R 76 39 = some 100 := rr_lk hR rfl; have r76_40 : R 76 40 = some 101 := rr_lk hR rfl; have r76_41 : R 76 41 = some 102 := rr_lk hR rfl; have r76_42 : R 76 42 = some 103 := rr_lk hR rfl; have r76_47 : R 76 47 = some 104 := rr_lk hR rfl; have r76_53 : R 76 53 = some 105 := rr_lk hR rfl; have r76_54 : R 76 54 = some 106 := rr_lk hR rfl; have r76_55 : R 76 55 = some 107 := rr_lk hR rfl; have r76_56 : R 76 56 = some 108 := rr_lk hR rfl; have r76_57 : R 76 57 = some 109 := rr_lk hR rfl; have s86 : (SH L)[86]? = some (20, 60) := rfl; have s89 : (SH L)[89]? = some (20, 60) := rfl; have s98 : (SH L)[98]? = some (20, 400) := rfl; have s99 : (SH L)[99]? = some (20, 60) := rfl; have s100 : (SH L)[100]? = some (20, 60) := rfl
  have hty := wD_ty hw
  -- the bytes of its own
  have own : ∃ (J1 : mJ) (k : Int), EE d 170 0 [some (.ref 76), some (vi t), none] [] (SH L) J K R = EE d 170 93 [some (.ref 76), some (vi t), some (vi k)] [] (SH L) J1 K R ∧ (∀ b j, ¬ (b = 98 ∧ a.1 ≠ 103 ∧ pl ≤ j ∧ j < pl + ln) → J1 b j = J b j) ∧ (a.1 ≠ 103 → seg (J1 98) pl (leafB g a)) := by
    by_cases c : a.1 = 103
    · refine ⟨J, 0, ?_, fun _ _ _ => rfl, fun q => absurd c q⟩
      by_cases c2 : ln = 0
      · simp (disch := first | assumption | omega | exact bi_lo | exact bi_hi | exact bi_01 | exact jcmp_lo | exact jcmp_hi | exact (jor_r _ _).1 | exact (jor_r _ _).2 | exact (jand_r _ _).1 | exact (jand_r _ _).2) only [x170_0, x170_1, kb_some, kb_none, clr_vi, clr_ref, clr_null, clr_none, va_rf_some, va_rf_none]
        simp (disch := first | assumption | omega | exact bi_lo | exact bi_hi | exact bi_01 | exact jcmp_lo | exact jcmp_hi | exact (jor_r _ _).1 | exact (jor_r _ _).2 | exact (jand_r _ _).1 | exact (jand_r _ _).2) only [x170_2, x170_3, x170_4, x170_7, x170_8, x170_9, kb_some, kb_none, clr_vi, clr_ref, clr_null, clr_none, va_rf_some, va_rf_none, ↓bi_ite_t, ↓bi_ite_f, ↓jc_lt_t, ↓jc_lt_f, ↓jc_gt_t, ↓jc_gt_f, ↓jc_le_t, ↓jc_le_f, ↓jc_ge_t, ↓jc_ge_f, ↓jc_eq_t, ↓jc_eq_f, ↓if_pos, ↓if_neg, Int.toNat_natCast, e99]
      · simp (disch := first | assumption | omega | exact bi_lo | exact bi_hi | exact bi_01 | exact jcmp_lo | exact jcmp_hi | exact (jor_r _ _).1 | exact (jor_r _ _).2 | exact (jand_r _ _).1 | exact (jand_r _ _).2) only [x170_0, x170_1, kb_some, kb_none, clr_vi, clr_ref, clr_null, clr_none, va_rf_some, va_rf_none]
        simp (disch := first | assumption | omega | exact bi_lo | exact bi_hi | exact bi_01 | exact jcmp_lo | exact jcmp_hi | exact (jor_r _ _).1 | exact (jor_r _ _).2 | exact (jand_r _ _).1 | exact (jand_r _ _).2) only [x170_2, x170_3, x170_4, x170_7, x170_8, x170_9, x170_12, x170_13, x170_16, x170_17, x170_18, x170_20, kb_some, kb_none, clr_vi, clr_ref, clr_null, clr_none, va_rf_some, va_rf_none, ↓bi_ite_t, ↓bi_ite_f, ↓jc_lt_t, ↓jc_lt_f, ↓jc_gt_t, ↓jc_gt_f, ↓jc_le_t, ↓jc_le_f, ↓jc_ge_t, ↓jc_ge_f, ↓jc_eq_t, ↓jc_eq_f, ↓if_pos, ↓if_neg, Int.toNat_natCast, e99, e86, c]
    · have hl := hln c
      obtain ⟨J1, b1, b2, b3⟩ := l_thing (L := L) (d := d) (K := K) (g := g) hR (t := t) (pl := pl) (a := a) ht (by omega) hw c ln 0 J (by omega) e86 e87 e88 (by rw [e99, hl]) e100 hsp
      refine ⟨J1, ((leafB g a).length : Nat), ?_, fun b j hj => b2 b j (by omega), fun _ => seg_of _ _ (fun k hk => b3 k (by omega) hk)⟩
      rw [← b1]
      simp (disch := first | assumption | omega | exact bi_lo | exact bi_hi | exact bi_01 | exact jcmp_lo | exact jcmp_hi | exact (jor_r _ _).1 | exact (jor_r _ _).2 | exact (jand_r _ _).1 | exact (jand_r _ _).2) only [x170_0, x170_1, kb_some, kb_none, clr_vi, clr_ref, clr_null, clr_none, va_rf_some, va_rf_none]
      rfl
  obtain ⟨J1, k, o1, o2, o3⟩ := own
  have f86 : J1 86 t = a.1 := by rw [o2 86 t (by omega)]; exact e86
  have f89 : J1 89 t = J 89 t := o2 89 t (by omega)
  have f99 : J1 99 t = ln := by rw [o2 99 t (by omega)]; exact e99
  have f100 : J1 100 t = pl := by rw [o2 100 t (by omega)]; exact e100
  rcases hp with hp | ⟨hp, hp1, hp2⟩
  · refine ⟨J1, ?_, fun b j hj => o2 b j (by omega), o3, fun q => by omega⟩
    rw [o1]
    rw [hp] at f89
    simp (disch := first | assumption | omega | exact bi_lo | exact bi_hi | exact bi_01 | exact jcmp_lo | exact jcmp_hi | exact (jor_r _ _).1 | exact (jor_r _ _).2 | exact (jand_r _ _).1 | exact (jand_r _ _).2) only [x170_93, x170_94, x170_97, x170_98, x170_99, x170_140, kb_some, kb_none, clr_vi, clr_ref, clr_null, clr_none, va_rf_some, va_rf_none, ↓bi_ite_t, ↓bi_ite_f, ↓jc_lt_t, ↓jc_lt_f, ↓jc_gt_t, ↓jc_gt_f, ↓jc_le_t, ↓jc_le_f, ↓jc_ge_t, ↓jc_ge_f, ↓jc_eq_t, ↓jc_eq_f, ↓if_pos, ↓if_neg, Int.toNat_natCast, f89]
  · refine ⟨mm_up (mm_up J1 98 (pl - 2) a.1) 98 (pl - 1) ln, ?_, ?_, ?_, ?_⟩
    · rw [o1]
      have t1 : ((pl : Int) - 2).toNat = pl - 2 := by omega
      have t2 : ((pl : Int) - 1).toNat = pl - 1 := by omega
      simp (disch := first | assumption | omega | exact bi_lo | exact bi_hi | exact bi_01 | exact jcmp_lo | exact jcmp_hi | exact (jor_r _ _).1 | exact (jor_r _ _).2 | exact (jand_r _ _).1 | exact (jand_r _ _).2) only [x170_93, x170_94, x170_97, x170_98, x170_99, x170_102, x170_103, x170_106, x170_107, x170_110, x170_111, x170_112, x170_113, x170_114, x170_115, x170_118, x170_119, x170_120, x170_121, x170_122, x170_125, x170_126, x170_129, x170_130, x170_131, x170_132, x170_133, x170_134, x170_137, x170_138, x170_139, x170_140, kb_some, kb_none, clr_vi, clr_ref, clr_null, clr_none, va_rf_some, va_rf_none, ↓bi_ite_t, ↓bi_ite_f, ↓jc_lt_t, ↓jc_lt_f, ↓jc_gt_t, ↓jc_gt_f, ↓jc_le_t, ↓jc_le_f, ↓jc_ge_t, ↓jc_ge_f, ↓jc_eq_t, ↓jc_eq_f, ↓if_pos, ↓if_neg, Int.toNat_natCast, f89, f86, f99, f100, t1, t2, up_a]
    · intro b j hj
      unfold mm_up
      rw [if_neg (by omega), if_neg (by omega)]
      exact o2 b j (by omega)
    · intro q
      refine seg_congr _ _ (o3 q) (fun j j1 j2 => ?_)
      unfold mm_up
      rw [if_neg (by omega), if_neg (by omega)]
    · intro _
      refine ⟨?_, up_s⟩
      rw [up_j (by omega), up_s]
end
