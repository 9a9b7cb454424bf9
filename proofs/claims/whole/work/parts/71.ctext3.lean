/-! the class reads a text: raw -/
section
variable {L d : Nat} {t : Int → Int} {J K : mJ} {R : mm_R} {p x y lv : Int} {i : Nat}
theorem l_cbyte (h : TX t J R) (hi : (i : Int) < J 47 6 ∧ J 47 6 ≤ 40) (h53 : 0 ≤ J 53 1 ∧ J 53 1 < 120) : ∀ (m : Nat) (k p v : Int), (3 - k).toNat = m → 0 ≤ k ∧ k ≤ 3 → 0 ≤ p → p ≤ J 27 1 → 0 ≤ v ∧ v ≤ 255 → (m = 3 → v = 0) → (m = 2 → v ≤ 9) → (m = 1 → v ≤ 99) →
    EE (d + 2) 80 20 [some (.ref 46), some (vi i), some (vi v), some (vi k)] [] (SH L) (gt t J p) K R = if 255 < (dg t m p v).1 then ok (some (vi 0)) (SH L) (mm_up (gt t J ((dg t m p v).2 - 1)) 46 4 ((dg t m p v).2 - 1)) K R else ok (some (vi 1)) (SH L) (gt t (tk1 i J (dg t m p v).1) (dg t m p v).2) K R := by
  have hR := h.1
  have hn := h.2.2.1
  have s46 : (SH L)[46]? = some (8, 5) := rfl; have r46_0 : R 46 0 = some 47 := rr_lk hR rfl; have s47 : (SH L)[47]? = some (9, 7) := rfl; have r47_0 : R 47 0 = some 48 := rr_lk hR rfl; have r47_1 : R 47 1 = some 49 := rr_lk hR rfl; have r47_2 : R 47 2 = some 50 := rr_lk hR rfl; have r47_3 : R 47 3 = some 51 := rr_lk hR rfl; have r47_4 : R 47 4 = some 52 := rr_lk hR rfl; have r47_5 : R 47 5 = some 53 := rr_lk hR rfl
  have hfa := fun d J p => tx_faulty (L := L) (d := d) (J := J) (K := K) (R := R) (p := p)
  have htk := fun d p v => tx_take (L := L) (d := d) (t := t) (p := p) (x := v) (i := i) (J := J) (K := K) hR hi h53
  intro m
  induction m with
  | zero =>
    intro k p v hm hk hp0 hp hv h3 h2 h1
    have e : dg t 0 p v = (v, p) := rfl
    rw [e]
    rw [if_neg (show ¬ 255 < v by omega)]
    simp (disch := first | assumption | omega | exact bi_lo | exact bi_hi | exact bi_01 | exact jcmp_lo | exact jcmp_hi | exact (jor_r _ _).1 | exact (jor_r _ _).2 | exact (jand_r _ _).1 | exact (jand_r _ _).2) only [x80_20, x80_21, x80_22, x80_77, x80_78, x80_81, x80_82, x80_83, x80_86, x80_87, kb_some, kb_none, clr_vi, clr_ref, clr_null, clr_none, va_rf_some, va_rf_none, ↓bi_ite_t, ↓bi_ite_f, ↓jc_lt_t, ↓jc_lt_f, ↓jc_gt_t, ↓jc_gt_f, ↓jc_le_t, ↓jc_le_f, ↓jc_ge_t, ↓jc_ge_f, ↓jc_eq_t, ↓jc_eq_f, ↓if_pos, ↓if_neg, htk]
  | succ m ih =>
    intro k p v hm hk hp0 hp hv h3 h2 h1
    have hl := fun d => tx_isD (L := L) (d := d) (K := K) (TX_gt (p := p) h) (p := p) gt_3
    by_cases c : isD (t p)
    · rw [bi_t c] at hl
      have hpn : p < J 27 1 := by
        by_cases c2 : J 27 1 ≤ p
        · have := TX_N h p c2; omega
        · omega
      have e : dg t (m + 1) p v = dg t m (p + 1) (v * 10 + t p - 48) := by
        rw [show dg t (m + 1) p v = if isD (t p) then dg t m (p + 1) (v * 10 + t p - 48) else (v, p) from rfl, if_pos c]
      rw [e]
      by_cases c3 : 255 < v * 10 + t p - 48
      · have hm0 : m = 0 := by omega
        subst hm0
        have e2 : dg t 0 (p + 1) (v * 10 + t p - 48) = (v * 10 + t p - 48, p + 1) := rfl
        rw [e2]
        rw [if_pos (show 255 < v * 10 + t p - 48 from c3), show p + 1 - 1 = p by omega]
        simp (disch := first | assumption | omega | exact bi_lo | exact bi_hi | exact bi_01 | exact jcmp_lo | exact jcmp_hi | exact (jor_r _ _).1 | exact (jor_r _ _).2 | exact (jand_r _ _).1 | exact (jand_r _ _).2) only [x80_20, x80_21, x80_22, kb_some, kb_none, clr_vi, clr_ref, clr_null, clr_none, va_rf_some, va_rf_none, ↓bi_ite_t, ↓bi_ite_f, ↓jc_lt_t, ↓jc_lt_f, ↓jc_gt_t, ↓jc_gt_f, ↓jc_le_t, ↓jc_le_f, ↓jc_ge_t, ↓jc_ge_f, ↓jc_eq_t, ↓jc_eq_f, ↓if_pos, ↓if_neg]
        simp (disch := first | assumption | omega | exact bi_lo | exact bi_hi | exact bi_01 | exact jcmp_lo | exact jcmp_hi | exact (jor_r _ _).1 | exact (jor_r _ _).2 | exact (jand_r _ _).1 | exact (jand_r _ _).2) only [x80_25, x80_26, x80_29, x80_32, x80_33, x80_35, x80_36, x80_37, x80_40, x80_41, x80_43, x80_44, x80_45, x80_46, x80_49, x80_52, x80_53, x80_54, x80_57, x80_60, kb_some, kb_none, clr_vi, clr_ref, clr_null, clr_none, va_rf_some, va_rf_none, ↓bi_ite_t, ↓bi_ite_f, ↓jc_lt_t, ↓jc_lt_f, ↓jc_gt_t, ↓jc_gt_f, ↓jc_le_t, ↓jc_le_f, ↓jc_ge_t, ↓jc_ge_f, ↓jc_eq_t, ↓jc_eq_f, ↓if_pos, ↓if_neg, hl, gt_3, gt_2, hfa]
      · have hg := tx_goTo (L := L) (d := d) (K := K) (TX_gt (p := p) h) (p := p + 1) (by omega)
        rw [gt_gt] at hg
        have ih' := ih (k + 1) (p + 1) (v * 10 + t p - 48) (by omega) (by omega) (by omega) (by omega) (by omega) (by omega) (by omega) (by omega)
        rw [← ih']
        have go : ∀ X, EE (d + 2) 80 20 [some (.ref 46), some (vi i), some (vi (v * 10 + t p - 48)), some (vi (k + 1))] [] (SH L) (gt t J (p + 1)) K R = X → EE (d + 2) 80 20 [some (.ref 46), some (vi i), some (vi v), some (vi k)] [] (SH L) (gt t J p) K R = X := by
          intro X hX
          simp (disch := first | assumption | omega | exact bi_lo | exact bi_hi | exact bi_01 | exact jcmp_lo | exact jcmp_hi | exact (jor_r _ _).1 | exact (jor_r _ _).2 | exact (jand_r _ _).1 | exact (jand_r _ _).2) only [x80_20, x80_21, x80_22, kb_some, kb_none, clr_vi, clr_ref, clr_null, clr_none, va_rf_some, va_rf_none, ↓bi_ite_t, ↓bi_ite_f, ↓jc_lt_t, ↓jc_lt_f, ↓jc_gt_t, ↓jc_gt_f, ↓jc_le_t, ↓jc_le_f, ↓jc_ge_t, ↓jc_ge_f, ↓jc_eq_t, ↓jc_eq_f, ↓if_pos, ↓if_neg]
          simp (disch := first | assumption | omega | exact bi_lo | exact bi_hi | exact bi_01 | exact jcmp_lo | exact jcmp_hi | exact (jor_r _ _).1 | exact (jor_r _ _).2 | exact (jand_r _ _).1 | exact (jand_r _ _).2) only [x80_25, x80_26, x80_29, x80_32, x80_33, x80_35, x80_36, x80_37, x80_40, x80_41, x80_43, x80_44, x80_45, x80_46, x80_49, x80_61, x80_62, x80_63, x80_66, x80_67, x80_68, x80_71, x80_74, kb_some, kb_none, clr_vi, clr_ref, clr_null, clr_none, va_rf_some, va_rf_none, ↓bi_ite_t, ↓bi_ite_f, ↓jc_lt_t, ↓jc_lt_f, ↓jc_gt_t, ↓jc_gt_f, ↓jc_le_t, ↓jc_le_f, ↓jc_ge_t, ↓jc_ge_f, ↓jc_eq_t, ↓jc_eq_f, ↓if_pos, ↓if_neg, hl, gt_3, gt_2, hg]
          exact hX
        exact go _ rfl
    · rw [bi_f c] at hl
      have e : dg t (m + 1) p v = (v, p) := by
        rw [show dg t (m + 1) p v = if isD (t p) then dg t m (p + 1) (v * 10 + t p - 48) else (v, p) from rfl, if_neg c]
      rw [e]
      rw [if_neg (show ¬ 255 < v by omega)]
      simp (disch := first | assumption | omega | exact bi_lo | exact bi_hi | exact bi_01 | exact jcmp_lo | exact jcmp_hi | exact (jor_r _ _).1 | exact (jor_r _ _).2 | exact (jand_r _ _).1 | exact (jand_r _ _).2) only [x80_20, x80_21, x80_22, kb_some, kb_none, clr_vi, clr_ref, clr_null, clr_none, va_rf_some, va_rf_none, ↓bi_ite_t, ↓bi_ite_f, ↓jc_lt_t, ↓jc_lt_f, ↓jc_gt_t, ↓jc_gt_f, ↓jc_le_t, ↓jc_le_f, ↓jc_ge_t, ↓jc_ge_f, ↓jc_eq_t, ↓jc_eq_f, ↓if_pos, ↓if_neg]
      simp (disch := first | assumption | omega | exact bi_lo | exact bi_hi | exact bi_01 | exact jcmp_lo | exact jcmp_hi | exact (jor_r _ _).1 | exact (jor_r _ _).2 | exact (jand_r _ _).1 | exact (jand_r _ _).2) only [x80_25, x80_26, x80_29, x80_77, x80_78, x80_81, x80_82, x80_83, x80_86, x80_87, kb_some, kb_none, clr_vi, clr_ref, clr_null, clr_none, va_rf_some, va_rf_none, ↓bi_ite_t, ↓bi_ite_f, ↓jc_lt_t, ↓jc_lt_f, ↓jc_gt_t, ↓jc_gt_f, ↓jc_le_t, ↓jc_le_f, ↓jc_ge_t, ↓jc_ge_f, ↓jc_eq_t, ↓jc_eq_f, ↓if_pos, ↓if_neg, hl, htk]
theorem tx_byte (h : TX t J R) (hi : (i : Int) < J 47 6 ∧ J 47 6 ≤ 40) (h53 : 0 ≤ J 53 1 ∧ J 53 1 < 120) (hp : 0 ≤ p ∧ p ≤ J 27 1) :
    EE (d + 2) 80 0 [some (.ref 46), some (vi i), none, none] [] (SH L) (gt t J p) K R = match rbB t p with
      | .error e => ok (some (vi 0)) (SH L) (mm_up (gt t J e) 46 4 e) K R
      | .ok r => ok (some (vi 1)) (SH L) (gt t (tk1 i J r.1) r.2) K R := by
  have hR := h.1
  have s46 : (SH L)[46]? = some (8, 5) := rfl; have r46_0 : R 46 0 = some 47 := rr_lk hR rfl
  have hfa := fun d J p => tx_faulty (L := L) (d := d) (J := J) (K := K) (R := R) (p := p)
  have hl := fun d => tx_isD (L := L) (d := d) (K := K) (TX_gt (p := p) h) (p := p) gt_3
  unfold rbB
  by_cases c : isD (t p)
  · rw [if_pos c]
    rw [bi_t c] at hl
    have hlo := l_cbyte (L := L) (d := d) (K := K) h hi h53 3 0 p 0 (by omega) (by omega) hp.1 hp.2 (by omega) (fun _ => rfl) (by omega) (by omega)
    simp (disch := first | assumption | omega | exact bi_lo | exact bi_hi | exact bi_01 | exact jcmp_lo | exact jcmp_hi | exact (jor_r _ _).1 | exact (jor_r _ _).2 | exact (jand_r _ _).1 | exact (jand_r _ _).2) only [x80_0, x80_1, x80_4, x80_16, x80_17, x80_18, x80_19, kb_some, kb_none, clr_vi, clr_ref, clr_null, clr_none, va_rf_some, va_rf_none, ↓bi_ite_t, ↓bi_ite_f, ↓jc_lt_t, ↓jc_lt_f, ↓jc_gt_t, ↓jc_gt_f, ↓jc_le_t, ↓jc_le_f, ↓jc_ge_t, ↓jc_ge_f, ↓jc_eq_t, ↓jc_eq_f, ↓if_pos, ↓if_neg, hl]
    rw [hlo]
    by_cases c2 : 255 < (dg t 3 p 0).1
    · rw [if_pos c2, if_pos c2]
    · rw [if_neg c2, if_neg c2]
  · rw [if_neg c]
    rw [bi_f c] at hl
    simp (disch := first | assumption | omega | exact bi_lo | exact bi_hi | exact bi_01 | exact jcmp_lo | exact jcmp_hi | exact (jor_r _ _).1 | exact (jor_r _ _).2 | exact (jand_r _ _).1 | exact (jand_r _ _).2) only [x80_0, x80_1, x80_4, x80_7, x80_8, x80_9, x80_12, x80_15, kb_some, kb_none, clr_vi, clr_ref, clr_null, clr_none, va_rf_some, va_rf_none, ↓bi_ite_t, ↓bi_ite_f, ↓jc_lt_t, ↓jc_lt_f, ↓jc_gt_t, ↓jc_gt_f, ↓jc_le_t, ↓jc_le_f, ↓jc_ge_t, ↓jc_ge_f, ↓jc_eq_t, ↓jc_eq_f, ↓if_pos, ↓if_neg, hl, gt_2, hfa]
theorem l_craw (h : TX t J R) (hi : (i : Int) < J 47 6 ∧ J 47 6 ≤ 40) (h53 : 0 ≤ J 53 1) : ∀ (m : Nat) (k p : Int) (l : List Int), (20 - k).toNat = m → 1 ≤ k ∧ k ≤ 20 → 0 ≤ p → p ≤ J 27 1 → J 53 1 + l.length ≤ p →
    match rwF t m p with
    | .error e => ∃ J', EE (d + 3) 79 37 [some (.ref 46), some (vi lv), some (vi i), some (vi 1), some (vi k)] [] (SH L) (gt t (tkL i J l) p) K R = ok (some (vi 0)) (SH L) J' K R ∧ ER e J J'
    | .ok s => EE (d + 3) 79 37 [some (.ref 46), some (vi lv), some (vi i), some (vi 1), some (vi k)] [] (SH L) (gt t (tkL i J l) p) K R = ok (some (vi 1)) (SH L) (gt t (tkL i J (l ++ s.1)) s.2) K R := by
  have hR := h.1
  have hn := h.2.2.1
  have s46 : (SH L)[46]? = some (8, 5) := rfl; have r46_0 : R 46 0 = some 47 := rr_lk hR rfl; have s47 : (SH L)[47]? = some (9, 7) := rfl; have r47_0 : R 47 0 = some 48 := rr_lk hR rfl; have r47_1 : R 47 1 = some 49 := rr_lk hR rfl; have r47_2 : R 47 2 = some 50 := rr_lk hR rfl; have r47_3 : R 47 3 = some 51 := rr_lk hR rfl; have r47_4 : R 47 4 = some 52 := rr_lk hR rfl; have r47_5 : R 47 5 = some 53 := rr_lk hR rfl
  have hTX : ∀ l, TX t (tkL i J l) R := fun l => TX_o h (tkL_o h53 (by omega)) (by funext j; exact tkL_o h53 (by omega))
  have e47 : ∀ l, tkL i J l 47 6 = J 47 6 := fun l => tkL_o h53 (by omega)
  have hfr : ∀ l a, ¬ (46 ≤ a ∧ a ≤ 54) → tkL i J l a = J a := fun l a ha => by funext j; exact tkL_o h53 (by omega)
  intro m
  induction m with
  | zero =>
    intro k p l hm hk hp0 hp hc
    have hk20 : k = 20 := by omega
    have hb := tx_byte (L := L) (d := d) (K := K) (hTX l) (i := i) (p := p) (by rw [e47]; exact hi) (by rw [tkL_53]; omega) ⟨hp0, by rw [tkL_o h53 (by omega)]; exact hp⟩
    unfold rwF
    cases hr : rbB t p with
    | error e =>
      rw [hr] at hb
      simp only at hb ⊢
      refine ⟨_, ?_, ER_up (t := t) (J := tkL i J l) (p := e) (hfr l) (by rw [e47]; omega) (by rw [tkL_53]; omega)⟩
      simp (disch := first | assumption | omega | exact bi_lo | exact bi_hi | exact bi_01 | exact jcmp_lo | exact jcmp_hi | exact (jor_r _ _).1 | exact (jor_r _ _).2 | exact (jand_r _ _).1 | exact (jand_r _ _).2) only [x79_37, x79_39, x79_41, x79_44, x79_45, x79_48, x79_49, x79_50, x79_53, x79_56, x79_57, kb_some, kb_none, clr_vi, clr_ref, clr_null, clr_none, va_rf_some, va_rf_none, ↓bi_ite_t, ↓bi_ite_f, ↓jc_lt_t, ↓jc_lt_f, ↓jc_gt_t, ↓jc_gt_f, ↓jc_le_t, ↓jc_le_f, ↓jc_ge_t, ↓jc_ge_f, ↓jc_eq_t, ↓jc_eq_f, ↓if_pos, ↓if_neg, hb]
    | ok r =>
      rw [hr] at hb
      simp only at hb ⊢
      rw [tkL_snoc] at hb
      subst hk20
      simp (disch := first | assumption | omega | exact bi_lo | exact bi_hi | exact bi_01 | exact jcmp_lo | exact jcmp_hi | exact (jor_r _ _).1 | exact (jor_r _ _).2 | exact (jand_r _ _).1 | exact (jand_r _ _).2) only [x79_37, x79_39, x79_41, x79_44, x79_45, x79_48, x79_49, x79_50, x79_53, x79_58, x79_60, x79_62, x79_78, x79_79, x79_80, x79_83, kb_some, kb_none, clr_vi, clr_ref, clr_null, clr_none, va_rf_some, va_rf_none, ↓bi_ite_t, ↓bi_ite_f, ↓jc_lt_t, ↓jc_lt_f, ↓jc_gt_t, ↓jc_gt_f, ↓jc_le_t, ↓jc_le_f, ↓jc_ge_t, ↓jc_ge_f, ↓jc_eq_t, ↓jc_eq_f, ↓if_pos, ↓if_neg, hb]
      simp (disch := first | assumption | omega | exact bi_lo | exact bi_hi | exact bi_01 | exact jcmp_lo | exact jcmp_hi | exact (jor_r _ _).1 | exact (jor_r _ _).2 | exact (jand_r _ _).1 | exact (jand_r _ _).2) only [x79_37, x79_39, x79_41, x79_86, x79_87, kb_some, kb_none, clr_vi, clr_ref, clr_null, clr_none, va_rf_some, va_rf_none, ↓bi_ite_t, ↓bi_ite_f, ↓jc_lt_t, ↓jc_lt_f, ↓jc_gt_t, ↓jc_gt_f, ↓jc_le_t, ↓jc_le_f, ↓jc_ge_t, ↓jc_ge_f, ↓jc_eq_t, ↓jc_eq_f, ↓if_pos, ↓if_neg]
  | succ m ih =>
    intro k p l hm hk hp0 hp hc
    have hb := tx_byte (L := L) (d := d) (K := K) (hTX l) (i := i) (p := p) (by rw [e47]; exact hi) (by rw [tkL_53]; omega) ⟨hp0, by rw [tkL_o h53 (by omega)]; exact hp⟩
    unfold rwF
    cases hr : rbB t p with
    | error e =>
      rw [hr] at hb
      simp only at hb ⊢
      refine ⟨_, ?_, ER_up (t := t) (J := tkL i J l) (p := e) (hfr l) (by rw [e47]; omega) (by rw [tkL_53]; omega)⟩
      simp (disch := first | assumption | omega | exact bi_lo | exact bi_hi | exact bi_01 | exact jcmp_lo | exact jcmp_hi | exact (jor_r _ _).1 | exact (jor_r _ _).2 | exact (jand_r _ _).1 | exact (jand_r _ _).2) only [x79_37, x79_39, x79_41, x79_44, x79_45, x79_48, x79_49, x79_50, x79_53, x79_56, x79_57, kb_some, kb_none, clr_vi, clr_ref, clr_null, clr_none, va_rf_some, va_rf_none, ↓bi_ite_t, ↓bi_ite_f, ↓jc_lt_t, ↓jc_lt_f, ↓jc_gt_t, ↓jc_gt_f, ↓jc_le_t, ↓jc_le_f, ↓jc_ge_t, ↓jc_ge_f, ↓jc_eq_t, ↓jc_eq_f, ↓if_pos, ↓if_neg, hb]
    | ok r =>
      rw [hr] at hb
      have hrr := rbB_r (TX_N h) hp hr
      simp only at hb ⊢
      rw [tkL_snoc] at hb
      have ho := tx_over (L := L) (d := d) (K := K) (TX_gt (p := r.2) (hTX (l ++ [r.1]))) (y := 44) (by rw [gt_2]; omega) (by rw [gt_2, gt_3]) (by omega)
      rw [gt_2, gt_gt] at ho
      by_cases c : t r.2 = 44
      · rw [if_pos c] at ho ⊢
        have hlt := TN_lt (TX_N h) c (by omega)
        have ih' := ih (k + 1) (r.2 + 1) (l ++ [r.1]) (by omega) (by omega) (by omega) (by omega) (by simp; omega)
        have go : ∀ X, EE (d + 3) 79 37 [some (.ref 46), some (vi lv), some (vi i), some (vi 1), some (vi (k + 1))] [] (SH L) (gt t (tkL i J (l ++ [r.1])) (r.2 + 1)) K R = X → EE (d + 3) 79 37 [some (.ref 46), some (vi lv), some (vi i), some (vi 1), some (vi k)] [] (SH L) (gt t (tkL i J l) p) K R = X := by
          intro X hX
          simp (disch := first | assumption | omega | exact bi_lo | exact bi_hi | exact bi_01 | exact jcmp_lo | exact jcmp_hi | exact (jor_r _ _).1 | exact (jor_r _ _).2 | exact (jand_r _ _).1 | exact (jand_r _ _).2) only [x79_37, x79_39, x79_41, x79_44, x79_45, kb_some, kb_none, clr_vi, clr_ref, clr_null, clr_none, va_rf_some, va_rf_none, ↓bi_ite_t, ↓bi_ite_f, ↓jc_lt_t, ↓jc_lt_f, ↓jc_gt_t, ↓jc_gt_f, ↓jc_le_t, ↓jc_le_f, ↓jc_ge_t, ↓jc_ge_f, ↓jc_eq_t, ↓jc_eq_f, ↓if_pos, ↓if_neg]
          simp (disch := first | assumption | omega | exact bi_lo | exact bi_hi | exact bi_01 | exact jcmp_lo | exact jcmp_hi | exact (jor_r _ _).1 | exact (jor_r _ _).2 | exact (jand_r _ _).1 | exact (jand_r _ _).2) only [x79_48, x79_49, x79_50, x79_53, x79_58, x79_60, x79_62, x79_65, x79_66, x79_68, x79_71, x79_74, x79_75, x79_78, x79_79, x79_80, x79_83, kb_some, kb_none, clr_vi, clr_ref, clr_null, clr_none, va_rf_some, va_rf_none, ↓bi_ite_t, ↓bi_ite_f, ↓jc_lt_t, ↓jc_lt_f, ↓jc_gt_t, ↓jc_gt_f, ↓jc_le_t, ↓jc_le_f, ↓jc_ge_t, ↓jc_ge_f, ↓jc_eq_t, ↓jc_eq_f, ↓if_pos, ↓if_neg, hb, ho]
          exact hX
        cases hs : rwF t m (r.2 + 1) with
        | error e =>
          rw [hs] at ih'
          obtain ⟨J', j1, j2⟩ := ih'
          exact ⟨J', go _ j1, j2⟩
        | ok s =>
          rw [hs] at ih'
          simp only at ih' ⊢
          rw [go _ ih', List.append_assoc]; rfl
      · rw [if_neg c] at ho ⊢
        simp (disch := first | assumption | omega | exact bi_lo | exact bi_hi | exact bi_01 | exact jcmp_lo | exact jcmp_hi | exact (jor_r _ _).1 | exact (jor_r _ _).2 | exact (jand_r _ _).1 | exact (jand_r _ _).2) only [x79_37, x79_39, x79_41, x79_44, x79_45, kb_some, kb_none, clr_vi, clr_ref, clr_null, clr_none, va_rf_some, va_rf_none, ↓bi_ite_t, ↓bi_ite_f, ↓jc_lt_t, ↓jc_lt_f, ↓jc_gt_t, ↓jc_gt_f, ↓jc_le_t, ↓jc_le_f, ↓jc_ge_t, ↓jc_ge_f, ↓jc_eq_t, ↓jc_eq_f, ↓if_pos, ↓if_neg]
        simp (disch := first | assumption | omega | exact bi_lo | exact bi_hi | exact bi_01 | exact jcmp_lo | exact jcmp_hi | exact (jor_r _ _).1 | exact (jor_r _ _).2 | exact (jand_r _ _).1 | exact (jand_r _ _).2) only [x79_48, x79_49, x79_50, x79_53, x79_58, x79_60, x79_62, x79_65, x79_66, x79_68, x79_71, x79_74, x79_75, x79_78, x79_79, x79_80, x79_83, kb_some, kb_none, clr_vi, clr_ref, clr_null, clr_none, va_rf_some, va_rf_none, ↓bi_ite_t, ↓bi_ite_f, ↓jc_lt_t, ↓jc_lt_f, ↓jc_gt_t, ↓jc_gt_f, ↓jc_le_t, ↓jc_le_f, ↓jc_ge_t, ↓jc_ge_f, ↓jc_eq_t, ↓jc_eq_f, ↓if_pos, ↓if_neg, hb, ho]
        simp (disch := first | assumption | omega | exact bi_lo | exact bi_hi | exact bi_01 | exact jcmp_lo | exact jcmp_hi | exact (jor_r _ _).1 | exact (jor_r _ _).2 | exact (jand_r _ _).1 | exact (jand_r _ _).2) only [x79_37, x79_39, x79_41, x79_44, x79_45, x79_86, x79_87, kb_some, kb_none, clr_vi, clr_ref, clr_null, clr_none, va_rf_some, va_rf_none, ↓bi_ite_t, ↓bi_ite_f, ↓jc_lt_t, ↓jc_lt_f, ↓jc_gt_t, ↓jc_gt_f, ↓jc_le_t, ↓jc_le_f, ↓jc_ge_t, ↓jc_ge_f, ↓jc_eq_t, ↓jc_eq_f, ↓if_pos, ↓if_neg]
theorem tx_raw (h : TX t J R) (hp : 0 ≤ p ∧ p ≤ J 27 1) (h47 : 0 ≤ J 47 6 ∧ J 47 6 < 40) (h53 : 0 ≤ J 53 1 ∧ J 53 1 ≤ p) :
    if t p ≠ 32 then EE (d + 4) 79 0 [some (.ref 46), some (vi lv), none, none, none] [] (SH L) (gt t J p) K R = ok (some (vi 0)) (SH L) (mm_up (gt t J p) 46 4 p) K R
    else if isD (t (p + 1)) then match rwF t 19 (p + 1) with
      | .error e => ∃ J', EE (d + 4) 79 0 [some (.ref 46), some (vi lv), none, none, none] [] (SH L) (gt t J p) K R = ok (some (vi 0)) (SH L) J' K R ∧ ER e J J'
      | .ok s => EE (d + 4) 79 0 [some (.ref 46), some (vi lv), none, none, none] [] (SH L) (gt t J p) K R = ok (some (vi 1)) (SH L) (gt t (tkL (J 47 6).toNat (an J 114 lv) s.1) s.2) K R
    else EE (d + 4) 79 0 [some (.ref 46), some (vi lv), none, none, none] [] (SH L) (gt t J p) K R = ok (some (vi 1)) (SH L) (gt t (an J 114 lv) (p + 1)) K R := by
  have hR := h.1
  have hn := h.2.2.1
  have hN := TX_N h
  have s46 : (SH L)[46]? = some (8, 5) := rfl; have r46_0 : R 46 0 = some 47 := rr_lk hR rfl; have s47 : (SH L)[47]? = some (9, 7) := rfl; have r47_0 : R 47 0 = some 48 := rr_lk hR rfl; have r47_1 : R 47 1 = some 49 := rr_lk hR rfl; have r47_2 : R 47 2 = some 50 := rr_lk hR rfl; have r47_3 : R 47 3 = some 51 := rr_lk hR rfl; have r47_4 : R 47 4 = some 52 := rr_lk hR rfl; have r47_5 : R 47 5 = some 53 := rr_lk hR rfl
  have hfa := fun d J p => tx_faulty (L := L) (d := d) (J := J) (K := K) (R := R) (p := p)
  have ho1 := tx_over (L := L) (d := d + 1) (K := K) (TX_gt (p := p) h) (y := 32) (by rw [gt_2]; omega) (by rw [gt_2, gt_3]) (by omega)
  rw [gt_2, gt_gt] at ho1
  by_cases c1 : t p = 32
  · rw [if_neg (not_not_intro c1)]
    rw [if_pos c1] at ho1
    have hp1 := TN_lt hN c1 (by omega)
    have hap := tx_append (L := L) (d := d + 2) (t := t) (p := p + 1) (x := 114) (y := lv) (K := K) hR h47
    have hl := fun d => tx_isD (L := L) (d := d) (K := K) (TX_gt (p := p + 1) (TX_an (ty := 114) (lv := lv) h)) (p := p + 1) gt_3
    by_cases c : isD (t (p + 1))
    · rw [if_pos c]
      rw [bi_t c] at hl
      have hlo := l_craw (L := L) (d := d + 1) (K := K) (lv := lv) (i := (J 47 6).toNat) (TX_an (ty := 114) (lv := lv) h) (by rw [an_47]; omega) (by rw [an_o (by decide)]; omega) 19 1 (p + 1) [] (by omega) (by omega) (by omega) (by rw [an_o (by decide)]; omega) (by rw [an_o (by decide)]; simp; omega)
      rw [Int.toNat_of_nonneg h47.1] at hlo
      have e0 : tkL (J 47 6).toNat (an J 114 lv) [] = an J 114 lv := rfl
      rw [e0] at hlo
      have go : ∀ X, EE (d + 4) 79 37 [some (.ref 46), some (vi lv), some (vi (J 47 6)), some (vi 1), some (vi 1)] [] (SH L) (gt t (an J 114 lv) (p + 1)) K R = X → EE (d + 4) 79 0 [some (.ref 46), some (vi lv), none, none, none] [] (SH L) (gt t J p) K R = X := by
        intro X hX
        simp (disch := first | assumption | omega | exact bi_lo | exact bi_hi | exact bi_01 | exact jcmp_lo | exact jcmp_hi | exact (jor_r _ _).1 | exact (jor_r _ _).2 | exact (jand_r _ _).1 | exact (jand_r _ _).2) only [x79_0, x79_1, x79_3, x79_6, x79_18, x79_19, x79_22, x79_24, x79_25, x79_28, x79_29, x79_30, x79_33, x79_34, x79_35, kb_some, kb_none, clr_vi, clr_ref, clr_null, clr_none, va_rf_some, va_rf_none, ↓bi_ite_t, ↓bi_ite_f, ↓jc_lt_t, ↓jc_lt_f, ↓jc_gt_t, ↓jc_gt_f, ↓jc_le_t, ↓jc_le_f, ↓jc_ge_t, ↓jc_ge_f, ↓jc_eq_t, ↓jc_eq_f, ↓if_pos, ↓if_neg, ho1, hap, hl]
        exact hX
      cases hs : rwF t 19 (p + 1) with
      | error e =>
        rw [hs] at hlo
        obtain ⟨J', j1, j2⟩ := hlo
        refine ⟨J', go _ j1, ⟨fun a ha => ?_, j2.2⟩⟩
        rw [j2.1 a ha, an_o (by omega)]
      | ok s =>
        rw [hs] at hlo
        simp only at hlo ⊢
        rw [go _ hlo, List.nil_append]
    · rw [if_neg c]
      rw [bi_f c] at hl
      simp (disch := first | assumption | omega | exact bi_lo | exact bi_hi | exact bi_01 | exact jcmp_lo | exact jcmp_hi | exact (jor_r _ _).1 | exact (jor_r _ _).2 | exact (jand_r _ _).1 | exact (jand_r _ _).2) only [x79_0, x79_1, x79_3, x79_6, x79_18, x79_19, x79_22, x79_24, x79_25, x79_28, x79_29, x79_30, x79_33, x79_34, x79_35, x79_37, x79_39, x79_41, x79_44, x79_45, x79_86, x79_87, kb_some, kb_none, clr_vi, clr_ref, clr_null, clr_none, va_rf_some, va_rf_none, ↓bi_ite_t, ↓bi_ite_f, ↓jc_lt_t, ↓jc_lt_f, ↓jc_gt_t, ↓jc_gt_f, ↓jc_le_t, ↓jc_le_f, ↓jc_ge_t, ↓jc_ge_f, ↓jc_eq_t, ↓jc_eq_f, ↓if_pos, ↓if_neg, ho1, hap, hl]
  · rw [if_pos c1]
    rw [if_neg c1] at ho1
    simp (disch := first | assumption | omega | exact bi_lo | exact bi_hi | exact bi_01 | exact jcmp_lo | exact jcmp_hi | exact (jor_r _ _).1 | exact (jor_r _ _).2 | exact (jand_r _ _).1 | exact (jand_r _ _).2) only [x79_0, x79_1, x79_3, x79_6, x79_9, x79_10, x79_11, x79_14, x79_17, kb_some, kb_none, clr_vi, clr_ref, clr_null, clr_none, va_rf_some, va_rf_none, ↓bi_ite_t, ↓bi_ite_f, ↓jc_lt_t, ↓jc_lt_f, ↓jc_gt_t, ↓jc_gt_f, ↓jc_le_t, ↓jc_le_f, ↓jc_ge_t, ↓jc_ge_f, ↓jc_eq_t, ↓jc_eq_f, ↓if_pos, ↓if_neg, ho1, gt_2, hfa]
end
