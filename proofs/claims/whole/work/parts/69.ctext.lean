/-! the class reads a text: small steps -/
theorem isT_47 {L : Nat} {R : mm_R} (h : wfR R) : isT (SH L) R 47 48 49 50 51 52 53 54 :=
  ⟨rfl, ⟨rr_lk h rfl, rr_lk h rfl, rr_lk h rfl, rr_lk h rfl, rr_lk h rfl, rr_lk h rfl⟩, ⟨rfl, rfl, rfl, rfl, rfl⟩, ⟨rfl, rr_lk h rfl, rfl, by decide, by decide, by decide⟩, by decide, by decide, by decide, by decide⟩
/-- the text stands, the reader at p -/
def TX (t : Int → Int) (J : mJ) (R : mm_R) : Prop := wfR R ∧ R 46 1 = some 27 ∧ (0 ≤ J 27 1 ∧ J 27 1 ≤ 100) ∧ (∀ i, i < 100 → 0 ≤ J 28 i ∧ J 28 i ≤ 127) ∧ bA J 27 28 = t
def gt (t : Int → Int) (J : mJ) (p : Int) : mJ := mm_up (mm_up J 46 2 p) 46 3 (t p)
section
variable {t : Int → Int} {J : mJ} {R : mm_R} {p p' x : Int}
theorem gt_gt : gt t (gt t J p) p' = gt t J p' := by
  funext a j
  unfold gt mm_up
  repeat' split
  all_goals rfl
theorem gt_o {a : Nat} (h : a ≠ 46) : gt t J p a = J a := by unfold gt; rw [up_ne h, up_ne h]
theorem gt_2 : gt t J p 46 2 = p := by simp [gt, mm_up]
theorem gt_3 : gt t J p 46 3 = t p := by simp [gt, mm_up]
theorem TX_o {J' : mJ} (h : TX t J R) (h1 : J' 27 1 = J 27 1) (h2 : J' 28 = J 28) : TX t J' R := by
  obtain ⟨u1, u2, u3, u4, u5⟩ := h
  refine ⟨u1, u2, by rw [h1]; exact u3, by rw [h2]; exact u4, ?_⟩
  rw [← u5]; unfold bA; rw [h1, h2]
theorem TX_gt (h : TX t J R) : TX t (gt t J p) R := TX_o h (by rw [gt_o (by decide)]) (gt_o (by decide))
theorem TX_r (h : TX t J R) : -1 ≤ t p ∧ t p ≤ 127 := by
  obtain ⟨u1, u2, u3, u4, u5⟩ := h
  rw [← u5]; unfold bA
  split
  · have := u4 p.toNat (by omega); omega
  · omega
theorem TX_N (h : TX t J R) : TN t (J 27 1) := by
  intro p hp
  rw [← h.2.2.2.2]; unfold bA
  rw [if_neg (by omega)]
end
/-- so far letters go on -/
def we (t : Int → Int) : Nat → Int → Int
  | 0, p => p
  | k + 1, p => if isL (t p) then we t k (p + 1) else p
theorem we_le {t : Int → Int} : ∀ (k : Nat) (p : Int), p ≤ we t k p := by
  intro k
  induction k with
  | zero => intro p; exact Int.le_refl p
  | succ k ih => intro p; unfold we; split; (have := ih (p + 1); omega); exact Int.le_refl p
theorem we_wd {t : Int → Int} {p a b c : Int} (ha : isL a) (hb : isL b) (hc : isL c) : (we t 100 p = p + 3 ∧ t p = a ∧ t (p + 1) = b ∧ t (p + 2) = c) ↔ wd3 t p a b c := by
  have e1 : ∀ (k : Nat) (q : Int), we t (k + 1) q = if isL (t q) then we t k (q + 1) else q := fun _ _ => rfl
  constructor
  · rintro ⟨h1, rfl, h3, h4⟩
    refine ⟨rfl, h3, h4, fun hL => ?_⟩
    rw [e1 99, if_pos ha, e1 98, if_pos (by rw [h3]; exact hb), e1 97, show p + 1 + 1 = p + 2 by omega, if_pos (by rw [h4]; exact hc), e1 96, show p + 2 + 1 = p + 3 by omega, if_pos hL] at h1
    have := we_le (t := t) 96 (p + 3 + 1)
    omega
  · rintro ⟨rfl, h3, h4, h5⟩
    refine ⟨?_, rfl, h3, h4⟩
    rw [e1 99, if_pos ha, e1 98, if_pos (by rw [h3]; exact hb), e1 97, show p + 1 + 1 = p + 2 by omega, if_pos (by rw [h4]; exact hc), e1 96, show p + 2 + 1 = p + 3 by omega, if_neg h5]
theorem we_n {t : Int → Int} {n : Int} (hn : TN t n) : ∀ (k : Nat) (p : Int), p ≤ n → we t k p ≤ n := by
  intro k
  induction k with
  | zero => intro p h; exact h
  | succ k ih =>
    intro p h
    unfold we
    split
    · rename_i c
      have : p < n := by
        by_cases c2 : n ≤ p
        · have := hn p c2; omega
        · omega
      exact ih _ (by omega)
    · exact h
section
variable {L d : Nat} {t : Int → Int} {J K : mJ} {R : mm_R} {p x y : Int}
theorem tx_at (h : TX t J R) (hp : -2147483648 ≤ p ∧ p ≤ 2147483647) : EE d 3 0 [some (.ref 27), some (vi p)] [] (SH L) J K R = ok (some (vi (t p))) (SH L) J K R := by
  have hB : isB (SH L) R 27 28 100 := ⟨rfl, rr_lk h.1 rfl, rfl, by decide, by decide, by decide⟩
  rw [← h.2.2.2.2]
  exact c_at hB hp h.2.2.1
theorem tx_goTo (h : TX t J R) (hp : -2147483648 ≤ p ∧ p ≤ 2147483647) : EE (d + 1) 71 0 [some (.ref 46), some (vi p)] [] (SH L) J K R = ok none (SH L) (gt t J p) K R := by
  have s46 : (SH L)[46]? = some (8, 5) := rfl
  have s27 : (SH L)[27]? = some (0, 2) := rfl
  have r1 := h.2.1
  have ha := tx_at (L := L) (d := d) (J := mm_up J 46 2 p) (K := K) (TX_o h (by rw [up_ne (by decide)]) (up_ne (by decide))) hp
  simp (disch := first | assumption | omega | exact bi_lo | exact bi_hi | exact bi_01 | exact jcmp_lo | exact jcmp_hi | exact (jor_r _ _).1 | exact (jor_r _ _).2 | exact (jand_r _ _).1 | exact (jand_r _ _).2) only [x71_0, x71_1, x71_2, x71_5, x71_6, x71_7, x71_10, x71_11, x71_14, x71_17, kb_some, kb_none, clr_vi, clr_ref, clr_null, clr_none, va_rf_some, va_rf_none, ha]
  rfl
theorem tx_over (h : TX t J R) (hp : 0 ≤ J 46 2 ∧ J 46 2 ≤ 100) (hs : J 46 3 = t (J 46 2)) (hy : 0 ≤ y ∧ y ≤ 127) : EE (d + 2) 72 0 [some (.ref 46), some (vi y)] [] (SH L) J K R = if t (J 46 2) = y then ok (some (vi 1)) (SH L) (gt t J (J 46 2 + 1)) K R else ok (some (vi 0)) (SH L) J K R := by
  have s46 : (SH L)[46]? = some (8, 5) := rfl
  have hg := tx_goTo (L := L) (d := d) (K := K) h (p := J 46 2 + 1) (by omega)
  have hr := TX_r (p := J 46 2) h
  by_cases c : t (J 46 2) = y
  · rw [if_pos c]
    simp (disch := first | assumption | omega | exact bi_lo | exact bi_hi | exact bi_01 | exact jcmp_lo | exact jcmp_hi | exact (jor_r _ _).1 | exact (jor_r _ _).2 | exact (jand_r _ _).1 | exact (jand_r _ _).2) only [x72_0, x72_1, x72_4, x72_5, x72_8, x72_9, x72_10, x72_11, x72_12, x72_15, x72_16, x72_17, x72_20, x72_21, kb_some, kb_none, clr_vi, clr_ref, clr_null, clr_none, va_rf_some, va_rf_none, ↓bi_ite_t, ↓bi_ite_f, ↓jc_lt_t, ↓jc_lt_f, ↓jc_gt_t, ↓jc_gt_f, ↓jc_le_t, ↓jc_le_f, ↓jc_ge_t, ↓jc_ge_f, ↓jc_eq_t, ↓jc_eq_f, ↓if_pos, ↓if_neg, hs, hg]
  · rw [if_neg c]
    simp (disch := first | assumption | omega | exact bi_lo | exact bi_hi | exact bi_01 | exact jcmp_lo | exact jcmp_hi | exact (jor_r _ _).1 | exact (jor_r _ _).2 | exact (jand_r _ _).1 | exact (jand_r _ _).2) only [x72_0, x72_1, x72_4, x72_5, x72_8, x72_9, x72_10, x72_11, x72_12, x72_15, x72_16, x72_17, x72_20, x72_21, kb_some, kb_none, clr_vi, clr_ref, clr_null, clr_none, va_rf_some, va_rf_none, ↓bi_ite_t, ↓bi_ite_f, ↓jc_lt_t, ↓jc_lt_f, ↓jc_gt_t, ↓jc_gt_f, ↓jc_le_t, ↓jc_le_f, ↓jc_ge_t, ↓jc_ge_f, ↓jc_eq_t, ↓jc_eq_f, ↓if_pos, ↓if_neg, hs]
theorem tx_isL (h : TX t J R) (hs : J 46 3 = t p) : EE d 73 0 [some (.ref 46)] [] (SH L) J K R = ok (some (vi (bi (isL (t p))))) (SH L) J K R := by
  have s46 : (SH L)[46]? = some (8, 5) := rfl
  have hr := TX_r (p := p) h
  by_cases c : t p < 97
  · rw [bi_f (by omega)]
    simp (disch := first | assumption | omega | exact bi_lo | exact bi_hi | exact bi_01 | exact jcmp_lo | exact jcmp_hi | exact (jor_r _ _).1 | exact (jor_r _ _).2 | exact (jand_r _ _).1 | exact (jand_r _ _).2) only [x73_0, x73_1, x73_4, x73_6, x73_9, x73_10, x73_13, x73_15, x73_18, x73_19, x73_22, x73_23, kb_some, kb_none, clr_vi, clr_ref, clr_null, clr_none, va_rf_some, va_rf_none, ↓bi_ite_t, ↓bi_ite_f, ↓jc_lt_t, ↓jc_lt_f, ↓jc_gt_t, ↓jc_gt_f, ↓jc_le_t, ↓jc_le_f, ↓jc_ge_t, ↓jc_ge_f, ↓jc_eq_t, ↓jc_eq_f, ↓if_pos, ↓if_neg, hs]
  · by_cases c2 : 122 < t p
    · rw [bi_f (by omega)]
      simp (disch := first | assumption | omega | exact bi_lo | exact bi_hi | exact bi_01 | exact jcmp_lo | exact jcmp_hi | exact (jor_r _ _).1 | exact (jor_r _ _).2 | exact (jand_r _ _).1 | exact (jand_r _ _).2) only [x73_0, x73_1, x73_4, x73_6, x73_9, x73_10, x73_13, x73_15, x73_18, x73_19, x73_22, x73_23, kb_some, kb_none, clr_vi, clr_ref, clr_null, clr_none, va_rf_some, va_rf_none, ↓bi_ite_t, ↓bi_ite_f, ↓jc_lt_t, ↓jc_lt_f, ↓jc_gt_t, ↓jc_gt_f, ↓jc_le_t, ↓jc_le_f, ↓jc_ge_t, ↓jc_ge_f, ↓jc_eq_t, ↓jc_eq_f, ↓if_pos, ↓if_neg, hs]
    · rw [bi_t (by omega)]
      simp (disch := first | assumption | omega | exact bi_lo | exact bi_hi | exact bi_01 | exact jcmp_lo | exact jcmp_hi | exact (jor_r _ _).1 | exact (jor_r _ _).2 | exact (jand_r _ _).1 | exact (jand_r _ _).2) only [x73_0, x73_1, x73_4, x73_6, x73_9, x73_10, x73_13, x73_15, x73_18, x73_19, x73_22, x73_23, kb_some, kb_none, clr_vi, clr_ref, clr_null, clr_none, va_rf_some, va_rf_none, ↓bi_ite_t, ↓bi_ite_f, ↓jc_lt_t, ↓jc_lt_f, ↓jc_gt_t, ↓jc_gt_f, ↓jc_le_t, ↓jc_le_f, ↓jc_ge_t, ↓jc_ge_f, ↓jc_eq_t, ↓jc_eq_f, ↓if_pos, ↓if_neg, hs]
theorem tx_isD (h : TX t J R) (hs : J 46 3 = t p) : EE d 74 0 [some (.ref 46)] [] (SH L) J K R = ok (some (vi (bi (isD (t p))))) (SH L) J K R := by
  have s46 : (SH L)[46]? = some (8, 5) := rfl
  have hr := TX_r (p := p) h
  by_cases c : t p < 48
  · rw [bi_f (by omega)]
    simp (disch := first | assumption | omega | exact bi_lo | exact bi_hi | exact bi_01 | exact jcmp_lo | exact jcmp_hi | exact (jor_r _ _).1 | exact (jor_r _ _).2 | exact (jand_r _ _).1 | exact (jand_r _ _).2) only [x74_0, x74_1, x74_4, x74_6, x74_9, x74_10, x74_13, x74_15, x74_18, x74_19, x74_22, x74_23, kb_some, kb_none, clr_vi, clr_ref, clr_null, clr_none, va_rf_some, va_rf_none, ↓bi_ite_t, ↓bi_ite_f, ↓jc_lt_t, ↓jc_lt_f, ↓jc_gt_t, ↓jc_gt_f, ↓jc_le_t, ↓jc_le_f, ↓jc_ge_t, ↓jc_ge_f, ↓jc_eq_t, ↓jc_eq_f, ↓if_pos, ↓if_neg, hs]
  · by_cases c2 : 57 < t p
    · rw [bi_f (by omega)]
      simp (disch := first | assumption | omega | exact bi_lo | exact bi_hi | exact bi_01 | exact jcmp_lo | exact jcmp_hi | exact (jor_r _ _).1 | exact (jor_r _ _).2 | exact (jand_r _ _).1 | exact (jand_r _ _).2) only [x74_0, x74_1, x74_4, x74_6, x74_9, x74_10, x74_13, x74_15, x74_18, x74_19, x74_22, x74_23, kb_some, kb_none, clr_vi, clr_ref, clr_null, clr_none, va_rf_some, va_rf_none, ↓bi_ite_t, ↓bi_ite_f, ↓jc_lt_t, ↓jc_lt_f, ↓jc_gt_t, ↓jc_gt_f, ↓jc_le_t, ↓jc_le_f, ↓jc_ge_t, ↓jc_ge_f, ↓jc_eq_t, ↓jc_eq_f, ↓if_pos, ↓if_neg, hs]
    · rw [bi_t (by omega)]
      simp (disch := first | assumption | omega | exact bi_lo | exact bi_hi | exact bi_01 | exact jcmp_lo | exact jcmp_hi | exact (jor_r _ _).1 | exact (jor_r _ _).2 | exact (jand_r _ _).1 | exact (jand_r _ _).2) only [x74_0, x74_1, x74_4, x74_6, x74_9, x74_10, x74_13, x74_15, x74_18, x74_19, x74_22, x74_23, kb_some, kb_none, clr_vi, clr_ref, clr_null, clr_none, va_rf_some, va_rf_none, ↓bi_ite_t, ↓bi_ite_f, ↓jc_lt_t, ↓jc_lt_f, ↓jc_gt_t, ↓jc_gt_f, ↓jc_le_t, ↓jc_le_f, ↓jc_ge_t, ↓jc_ge_f, ↓jc_eq_t, ↓jc_eq_f, ↓if_pos, ↓if_neg, hs]
theorem tx_faulty : EE d 70 0 [some (.ref 46), some (vi p)] [] (SH L) J K R = ok (some (vi 0)) (SH L) (mm_up J 46 4 p) K R := by
  have s46 : (SH L)[46]? = some (8, 5) := rfl
  simp (disch := first | assumption | omega | exact bi_lo | exact bi_hi | exact bi_01 | exact jcmp_lo | exact jcmp_hi | exact (jor_r _ _).1 | exact (jor_r _ _).2 | exact (jand_r _ _).1 | exact (jand_r _ _).2) only [x70_0, x70_1, x70_2, x70_5, x70_6, kb_some, kb_none, clr_vi, clr_ref, clr_null, clr_none, va_rf_some, va_rf_none]
theorem tx_isWord (h : TX t J R) {s a b c : Int} (hp : J 46 2 = p) (hpr : 0 ≤ p ∧ p ≤ 200) (hs : 0 ≤ s ∧ s ≤ 200) (hL : isL a ∧ isL b ∧ isL c) (he : p = we t 100 s) : EE (d + 1) 76 0 [some (.ref 46), some (vi s), some (vi a), some (vi b), some (vi c)] [] (SH L) J K R = ok (some (vi (bi (wd3 t s a b c)))) (SH L) J K R := by
  have s46 : (SH L)[46]? = some (8, 5) := rfl
  have s27 : (SH L)[27]? = some (0, 2) := rfl
  have r1 := h.2.1
  have ha := fun q hq => tx_at (L := L) (d := d) (K := K) (p := q) h hq
  have hr0 := TX_r (p := s) h
  have hr1 := TX_r (p := s + 1) h
  have hr2 := TX_r (p := s + 2) h
  obtain ⟨l1, l2, l3⟩ := hL
  have hw := we_wd (t := t) (p := s) l1 l2 l3
  rw [← he] at hw
  have a0 := ha s (by omega)
  have a1 := ha (s + 1) (by omega)
  have a2 := ha (s + 2) (by omega)
  by_cases c1 : p = s + 3
  · by_cases c2 : t s = a
    · by_cases c3 : t (s + 1) = b
      · by_cases c4 : t (s + 2) = c
        · rw [bi_t (hw.mp ⟨c1, c2, c3, c4⟩)]
          simp (disch := first | assumption | omega | exact bi_lo | exact bi_hi | exact bi_01 | exact jcmp_lo | exact jcmp_hi | exact (jor_r _ _).1 | exact (jor_r _ _).2 | exact (jand_r _ _).1 | exact (jand_r _ _).2) only [x76_0, x76_1, x76_4, x76_5, x76_6, x76_7, x76_10, x76_11, x76_14, x76_15, x76_18, x76_19, x76_22, x76_23, x76_26, x76_27, x76_28, x76_29, x76_32, x76_33, x76_36, x76_37, x76_40, x76_41, x76_42, x76_43, x76_46, x76_48, x76_51, x76_52, x76_55, x76_56, kb_some, kb_none, clr_vi, clr_ref, clr_null, clr_none, va_rf_some, va_rf_none, ↓bi_ite_t, ↓bi_ite_f, ↓jc_lt_t, ↓jc_lt_f, ↓jc_gt_t, ↓jc_gt_f, ↓jc_le_t, ↓jc_le_f, ↓jc_ge_t, ↓jc_ge_f, ↓jc_eq_t, ↓jc_eq_f, ↓if_pos, ↓if_neg, hp, a0, a1, a2]
        · rw [bi_f (fun q => c4 (hw.mpr q).2.2.2)]
          simp (disch := first | assumption | omega | exact bi_lo | exact bi_hi | exact bi_01 | exact jcmp_lo | exact jcmp_hi | exact (jor_r _ _).1 | exact (jor_r _ _).2 | exact (jand_r _ _).1 | exact (jand_r _ _).2) only [x76_0, x76_1, x76_4, x76_5, x76_6, x76_7, x76_10, x76_11, x76_14, x76_15, x76_18, x76_19, x76_22, x76_23, x76_26, x76_27, x76_28, x76_29, x76_32, x76_33, x76_36, x76_37, x76_40, x76_41, x76_42, x76_43, x76_46, x76_48, x76_51, x76_52, x76_55, x76_56, kb_some, kb_none, clr_vi, clr_ref, clr_null, clr_none, va_rf_some, va_rf_none, ↓bi_ite_t, ↓bi_ite_f, ↓jc_lt_t, ↓jc_lt_f, ↓jc_gt_t, ↓jc_gt_f, ↓jc_le_t, ↓jc_le_f, ↓jc_ge_t, ↓jc_ge_f, ↓jc_eq_t, ↓jc_eq_f, ↓if_pos, ↓if_neg, hp, a0, a1, a2]
      · rw [bi_f (fun q => c3 (hw.mpr q).2.2.1)]
        simp (disch := first | assumption | omega | exact bi_lo | exact bi_hi | exact bi_01 | exact jcmp_lo | exact jcmp_hi | exact (jor_r _ _).1 | exact (jor_r _ _).2 | exact (jand_r _ _).1 | exact (jand_r _ _).2) only [x76_0, x76_1, x76_4, x76_5, x76_6, x76_7, x76_10, x76_11, x76_14, x76_15, x76_18, x76_19, x76_22, x76_23, x76_26, x76_27, x76_28, x76_29, x76_32, x76_33, x76_36, x76_37, x76_40, x76_41, x76_42, x76_43, x76_46, x76_48, x76_51, x76_52, x76_55, x76_56, kb_some, kb_none, clr_vi, clr_ref, clr_null, clr_none, va_rf_some, va_rf_none, ↓bi_ite_t, ↓bi_ite_f, ↓jc_lt_t, ↓jc_lt_f, ↓jc_gt_t, ↓jc_gt_f, ↓jc_le_t, ↓jc_le_f, ↓jc_ge_t, ↓jc_ge_f, ↓jc_eq_t, ↓jc_eq_f, ↓if_pos, ↓if_neg, hp, a0, a1]
    · rw [bi_f (fun q => c2 (hw.mpr q).2.1)]
      simp (disch := first | assumption | omega | exact bi_lo | exact bi_hi | exact bi_01 | exact jcmp_lo | exact jcmp_hi | exact (jor_r _ _).1 | exact (jor_r _ _).2 | exact (jand_r _ _).1 | exact (jand_r _ _).2) only [x76_0, x76_1, x76_4, x76_5, x76_6, x76_7, x76_10, x76_11, x76_14, x76_15, x76_18, x76_19, x76_22, x76_23, x76_26, x76_27, x76_28, x76_29, x76_32, x76_33, x76_36, x76_37, x76_40, x76_41, x76_42, x76_43, x76_46, x76_48, x76_51, x76_52, x76_55, x76_56, kb_some, kb_none, clr_vi, clr_ref, clr_null, clr_none, va_rf_some, va_rf_none, ↓bi_ite_t, ↓bi_ite_f, ↓jc_lt_t, ↓jc_lt_f, ↓jc_gt_t, ↓jc_gt_f, ↓jc_le_t, ↓jc_le_f, ↓jc_ge_t, ↓jc_ge_f, ↓jc_eq_t, ↓jc_eq_f, ↓if_pos, ↓if_neg, hp, a0]
  · rw [bi_f (fun q => c1 (hw.mpr q).1)]
    simp (disch := first | assumption | omega | exact bi_lo | exact bi_hi | exact bi_01 | exact jcmp_lo | exact jcmp_hi | exact (jor_r _ _).1 | exact (jor_r _ _).2 | exact (jand_r _ _).1 | exact (jand_r _ _).2) only [x76_0, x76_1, x76_4, x76_5, x76_6, x76_7, x76_10, x76_11, x76_14, x76_15, x76_18, x76_19, x76_22, x76_23, x76_26, x76_27, x76_28, x76_29, x76_32, x76_33, x76_36, x76_37, x76_40, x76_41, x76_42, x76_43, x76_46, x76_48, x76_51, x76_52, x76_55, x76_56, kb_some, kb_none, clr_vi, clr_ref, clr_null, clr_none, va_rf_some, va_rf_none, ↓bi_ite_t, ↓bi_ite_f, ↓jc_lt_t, ↓jc_lt_f, ↓jc_gt_t, ↓jc_gt_f, ↓jc_le_t, ↓jc_le_f, ↓jc_ge_t, ↓jc_ge_f, ↓jc_eq_t, ↓jc_eq_f, ↓if_pos, ↓if_neg, hp]
theorem l_word (h : TX t J R) {x1 x2 : Int} : ∀ (m : Nat) (k p : Int), (100 - k).toNat = m → 0 ≤ k ∧ k ≤ 100 → 0 ≤ p → p ≤ J 27 1 →
    ∃ k', EE (d + 2) 75 7 [some (.ref 46), some (vi x1), some (vi x2), some (vi k)] [] (SH L) (gt t J p) K R = EE (d + 2) 75 36 [some (.ref 46), some (vi x1), some (vi x2), some (vi k')] [] (SH L) (gt t J (we t m p)) K R := by
  have s46 : (SH L)[46]? = some (8, 5) := rfl
  have hn := h.2.2.1
  intro m
  induction m with
  | zero =>
    intro k p hm hk hp0 hp
    refine ⟨k, ?_⟩
    simp (disch := first | assumption | omega | exact bi_lo | exact bi_hi | exact bi_01 | exact jcmp_lo | exact jcmp_hi | exact (jor_r _ _).1 | exact (jor_r _ _).2 | exact (jand_r _ _).1 | exact (jand_r _ _).2) only [x75_7, x75_8, x75_10, kb_some, kb_none, clr_vi, clr_ref, clr_null, clr_none, va_rf_some, va_rf_none, ↓bi_ite_t, ↓bi_ite_f, ↓jc_lt_t, ↓jc_lt_f, ↓jc_gt_t, ↓jc_gt_f, ↓jc_le_t, ↓jc_le_f, ↓jc_ge_t, ↓jc_ge_f, ↓jc_eq_t, ↓jc_eq_f, ↓if_pos, ↓if_neg]
    rfl
  | succ m ih =>
    intro k p hm hk hp0 hp
    have hl := fun d => tx_isL (L := L) (d := d) (K := K) (TX_gt (p := p) h) (p := p) gt_3
    unfold we
    by_cases c : isL (t p)
    · rw [if_pos c]
      rw [bi_t c] at hl
      have hpn : p < J 27 1 := by
        by_cases c2 : J 27 1 ≤ p
        · have := TX_N h p c2; omega
        · omega
      have hg := tx_goTo (L := L) (d := d) (K := K) (TX_gt (p := p) h) (p := p + 1) (by omega)
      rw [gt_gt] at hg
      obtain ⟨k', e⟩ := ih (k + 1) (p + 1) (by omega) (by omega) (by omega) (by omega)
      refine ⟨k', ?_⟩
      rw [← e]
      have go : ∀ X, EE (d + 2) 75 7 [some (.ref 46), some (vi x1), some (vi x2), some (vi (k + 1))] [] (SH L) (gt t J (p + 1)) K R = X → EE (d + 2) 75 7 [some (.ref 46), some (vi x1), some (vi x2), some (vi k)] [] (SH L) (gt t J p) K R = X := by
        intro X hX
        simp (disch := first | assumption | omega | exact bi_lo | exact bi_hi | exact bi_01 | exact jcmp_lo | exact jcmp_hi | exact (jor_r _ _).1 | exact (jor_r _ _).2 | exact (jand_r _ _).1 | exact (jand_r _ _).2) only [x75_7, x75_8, x75_10, kb_some, kb_none, clr_vi, clr_ref, clr_null, clr_none, va_rf_some, va_rf_none, ↓bi_ite_t, ↓bi_ite_f, ↓jc_lt_t, ↓jc_lt_f, ↓jc_gt_t, ↓jc_gt_f, ↓jc_le_t, ↓jc_le_f, ↓jc_ge_t, ↓jc_ge_f, ↓jc_eq_t, ↓jc_eq_f, ↓if_pos, ↓if_neg]
        simp (disch := first | assumption | omega | exact bi_lo | exact bi_hi | exact bi_01 | exact jcmp_lo | exact jcmp_hi | exact (jor_r _ _).1 | exact (jor_r _ _).2 | exact (jand_r _ _).1 | exact (jand_r _ _).2) only [x75_13, x75_14, x75_17, x75_20, x75_21, x75_22, x75_25, x75_26, x75_27, x75_30, x75_33, kb_some, kb_none, clr_vi, clr_ref, clr_null, clr_none, va_rf_some, va_rf_none, ↓bi_ite_t, ↓bi_ite_f, ↓jc_lt_t, ↓jc_lt_f, ↓jc_gt_t, ↓jc_gt_f, ↓jc_le_t, ↓jc_le_f, ↓jc_ge_t, ↓jc_ge_f, ↓jc_eq_t, ↓jc_eq_f, ↓if_pos, ↓if_neg, hl, gt_2, hg]
        exact hX
      exact go _ rfl
    · rw [if_neg c]
      rw [bi_f c] at hl
      refine ⟨k, ?_⟩
      simp (disch := first | assumption | omega | exact bi_lo | exact bi_hi | exact bi_01 | exact jcmp_lo | exact jcmp_hi | exact (jor_r _ _).1 | exact (jor_r _ _).2 | exact (jand_r _ _).1 | exact (jand_r _ _).2) only [x75_7, x75_8, x75_10, kb_some, kb_none, clr_vi, clr_ref, clr_null, clr_none, va_rf_some, va_rf_none, ↓bi_ite_t, ↓bi_ite_f, ↓jc_lt_t, ↓jc_lt_f, ↓jc_gt_t, ↓jc_gt_f, ↓jc_le_t, ↓jc_le_f, ↓jc_ge_t, ↓jc_ge_f, ↓jc_eq_t, ↓jc_eq_f, ↓if_pos, ↓if_neg]
      simp (disch := first | assumption | omega | exact bi_lo | exact bi_hi | exact bi_01 | exact jcmp_lo | exact jcmp_hi | exact (jor_r _ _).1 | exact (jor_r _ _).2 | exact (jand_r _ _).1 | exact (jand_r _ _).2) only [x75_13, x75_14, x75_17, kb_some, kb_none, clr_vi, clr_ref, clr_null, clr_none, va_rf_some, va_rf_none, ↓bi_ite_t, ↓bi_ite_f, ↓jc_lt_t, ↓jc_lt_f, ↓jc_gt_t, ↓jc_gt_f, ↓jc_le_t, ↓jc_le_f, ↓jc_ge_t, ↓jc_ge_f, ↓jc_eq_t, ↓jc_eq_f, ↓if_pos, ↓if_neg, hl]
/-- digits of a number -/
theorem l_digits (h : TX t J R) {x1 x2 : Int} : ∀ (m : Nat) (k p v : Int), (9 - k).toNat = m → 0 ≤ k ∧ k ≤ 9 → 0 ≤ p → p ≤ J 27 1 →
    ∃ k', EE (d + 2) 77 46 [some (.ref 46), some (vi x1), some (vi x2), some (vi v), some (vi k)] [] (SH L) (gt t J p) K R = EE (d + 2) 77 89 [some (.ref 46), some (vi x1), some (vi x2), some (vi (dg t m p v).1), some (vi k')] [] (SH L) (gt t J (dg t m p v).2) K R := by
  have s46 : (SH L)[46]? = some (8, 5) := rfl
  have hn := h.2.2.1
  intro m
  induction m with
  | zero =>
    intro k p v hm hk hp0 hp
    refine ⟨k, ?_⟩
    simp (disch := first | assumption | omega | exact bi_lo | exact bi_hi | exact bi_01 | exact jcmp_lo | exact jcmp_hi | exact (jor_r _ _).1 | exact (jor_r _ _).2 | exact (jand_r _ _).1 | exact (jand_r _ _).2) only [x77_46, x77_48, x77_50, kb_some, kb_none, clr_vi, clr_ref, clr_null, clr_none, va_rf_some, va_rf_none, ↓bi_ite_t, ↓bi_ite_f, ↓jc_lt_t, ↓jc_lt_f, ↓jc_gt_t, ↓jc_gt_f, ↓jc_le_t, ↓jc_le_f, ↓jc_ge_t, ↓jc_ge_f, ↓jc_eq_t, ↓jc_eq_f, ↓if_pos, ↓if_neg]
    rfl
  | succ m ih =>
    intro k p v hm hk hp0 hp
    have hl := fun d => tx_isD (L := L) (d := d) (K := K) (TX_gt (p := p) h) (p := p) gt_3
    unfold dg
    by_cases c : isD (t p)
    · rw [if_pos c]
      rw [bi_t c] at hl
      have hpn : p < J 27 1 := by
        by_cases c2 : J 27 1 ≤ p
        · have := TX_N h p c2; omega
        · omega
      have hg := tx_goTo (L := L) (d := d) (K := K) (TX_gt (p := p) h) (p := p + 1) (by omega)
      rw [gt_gt] at hg
      obtain ⟨k', e⟩ := ih (k + 1) (p + 1) (v * 10 + t p - 48) (by omega) (by omega) (by omega) (by omega)
      refine ⟨k', ?_⟩
      rw [← e]
      have go : ∀ X, EE (d + 2) 77 46 [some (.ref 46), some (vi x1), some (vi x2), some (vi (v * 10 + t p - 48)), some (vi (k + 1))] [] (SH L) (gt t J (p + 1)) K R = X → EE (d + 2) 77 46 [some (.ref 46), some (vi x1), some (vi x2), some (vi v), some (vi k)] [] (SH L) (gt t J p) K R = X := by
        intro X hX
        simp (disch := first | assumption | omega | exact bi_lo | exact bi_hi | exact bi_01 | exact jcmp_lo | exact jcmp_hi | exact (jor_r _ _).1 | exact (jor_r _ _).2 | exact (jand_r _ _).1 | exact (jand_r _ _).2) only [x77_46, x77_48, x77_50, kb_some, kb_none, clr_vi, clr_ref, clr_null, clr_none, va_rf_some, va_rf_none, ↓bi_ite_t, ↓bi_ite_f, ↓jc_lt_t, ↓jc_lt_f, ↓jc_gt_t, ↓jc_gt_f, ↓jc_le_t, ↓jc_le_f, ↓jc_ge_t, ↓jc_ge_f, ↓jc_eq_t, ↓jc_eq_f, ↓if_pos, ↓if_neg]
        simp (disch := first | assumption | omega | exact bi_lo | exact bi_hi | exact bi_01 | exact jcmp_lo | exact jcmp_hi | exact (jor_r _ _).1 | exact (jor_r _ _).2 | exact (jand_r _ _).1 | exact (jand_r _ _).2) only [x77_53, x77_54, x77_57, x77_60, x77_61, x77_63, x77_64, x77_65, x77_68, x77_69, x77_71, x77_72, x77_73, x77_74, x77_75, x77_78, x77_79, x77_80, x77_83, x77_86, kb_some, kb_none, clr_vi, clr_ref, clr_null, clr_none, va_rf_some, va_rf_none, ↓bi_ite_t, ↓bi_ite_f, ↓jc_lt_t, ↓jc_lt_f, ↓jc_gt_t, ↓jc_gt_f, ↓jc_le_t, ↓jc_le_f, ↓jc_ge_t, ↓jc_ge_f, ↓jc_eq_t, ↓jc_eq_f, ↓if_pos, ↓if_neg, hl, gt_2, gt_3, hg]
        exact hX
      exact go _ rfl
    · rw [if_neg c]
      rw [bi_f c] at hl
      refine ⟨k, ?_⟩
      simp (disch := first | assumption | omega | exact bi_lo | exact bi_hi | exact bi_01 | exact jcmp_lo | exact jcmp_hi | exact (jor_r _ _).1 | exact (jor_r _ _).2 | exact (jand_r _ _).1 | exact (jand_r _ _).2) only [x77_46, x77_48, x77_50, kb_some, kb_none, clr_vi, clr_ref, clr_null, clr_none, va_rf_some, va_rf_none, ↓bi_ite_t, ↓bi_ite_f, ↓jc_lt_t, ↓jc_lt_f, ↓jc_gt_t, ↓jc_gt_f, ↓jc_le_t, ↓jc_le_f, ↓jc_ge_t, ↓jc_ge_f, ↓jc_eq_t, ↓jc_eq_f, ↓if_pos, ↓if_neg]
      simp (disch := first | assumption | omega | exact bi_lo | exact bi_hi | exact bi_01 | exact jcmp_lo | exact jcmp_hi | exact (jor_r _ _).1 | exact (jor_r _ _).2 | exact (jand_r _ _).1 | exact (jand_r _ _).2) only [x77_53, x77_54, x77_57, kb_some, kb_none, clr_vi, clr_ref, clr_null, clr_none, va_rf_some, va_rf_none, ↓bi_ite_t, ↓bi_ite_f, ↓jc_lt_t, ↓jc_lt_f, ↓jc_gt_t, ↓jc_gt_f, ↓jc_le_t, ↓jc_le_f, ↓jc_ge_t, ↓jc_ge_f, ↓jc_eq_t, ↓jc_eq_f, ↓if_pos, ↓if_neg, hl]
end
