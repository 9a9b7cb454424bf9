/-! the constructors whole; the law's start -/
section
variable {L d a k e x f : Nat} {J K J' : mJ} {R R' Q : mm_R}
theorem CS_arrX (h : CS a k e 0 J K R R') (h1 : a < k) (h2 : k ≤ e) : CS a k (e + 1) e J K R (mm_up R' a f (some e)) := by
  obtain ⟨c1, c2, c3⟩ := h
  refine ⟨fun c hc => ?_, fun b b1 b2 => ?_, fun b b1 b2 b3 => ?_⟩
  · have := c1 c (by omega)
    exact ⟨this.1, this.2.1, by rw [up_nR (by omega)]; exact this.2.2⟩
  · rw [up_nR b2]; exact c2 b b1 b2
  · by_cases q : b = 0
    · subst q; exact PR_n (fun _ => rfl)
    · exact PR_o (c3 b b1 (by omega) q) (up_nR (by omega))
theorem CS_tape {o : Nat} (h : CS a k e x J K R R') (w : IC e (e + 1) o J' K R' Q) (h1 : a < k) (h2 : k ≤ x) (h4 : x < e) (h3 : e + 1 ≤ o) : CS a k o x J' K R (mm_up Q x f (some e)) := by
  obtain ⟨c1, c2, c3⟩ := h
  obtain ⟨w1, w2, w3, w4⟩ := w
  refine ⟨fun c hc => ?_, fun b b1 b2 => ?_, fun b b1 b2 b3 => ?_⟩
  · have := w4 c (by omega)
    exact ⟨this.1, this.2.1, by rw [up_nR (by omega)]; exact this.2.2⟩
  · rw [up_nR (by omega), w1 b (by omega) (by omega)]; exact c2 b b1 b2
  · by_cases q : b = e
    · subst q; exact PR_o w2 (up_nR (by omega))
    · by_cases q2 : b < e
      · exact PR_o (c3 b b1 q2 b3) (by rw [up_nR b3, w1 b (by omega) q])
      · exact PR_o (w3 b (by omega) b2) (up_nR b3)
theorem CS_ICx (h : CS a k e x J K R R') (hp : PR a R') (hx : PR x R') : IC a k e J K R R' := by
  obtain ⟨c1, c2, c3⟩ := h
  refine ⟨c2, hp, fun b b1 b2 => ?_, c1⟩
  by_cases q : b = x
  · subst q; exact hx
  · exact c3 b b1 b2 q
theorem FRS_up {b j : Nat} {v : Int} (h : FRS k J K R) (hb : b < k) : FRS k (mm_up J b j v) K R := fun c hc => by
  have := h c hc
  exact ⟨by rw [up_nR (by omega)]; exact this.1, this.2⟩
theorem ct_0 (h : FRS 65 J K R) : ∃ R', EE d 56 0 [some (.ref 64)] [] (TS L 65) J K R = ok none (TS L 66) (mm_up J 64 1 (-1)) K R' ∧ IC 64 65 66 (mm_up J 64 1 (-1)) K R R' := by
  have c0 : CS 64 65 65 0 J K R R := CS_0 h
  have jf0 := (fr_rw0 c0.1).1
  have kf0 := (fr_rw0 c0.1).2.1
  have rf0 := (fr_rw0 c0.1).2.2
  have c1 := CS_arr (f := 0) c0 (by omega) (by omega) R0_65
  have s64 : (TS L 66)[64]? = some (7, 3) := rfl
  have hp : PR 64 (mm_up R 64 0 (some 65)) := by
    intro j q h
    match j, h with
    | 0, h => exact (up_s).trans h
    | 1, h => exact nomatch (show (none : Option Nat) = some q from h)
    | 2, h => exact nomatch (show (none : Option Nat) = some q from h)
    | j + 3, h => exact nomatch (show (none : Option Nat) = some q from h)
  have hi := CS_IC c1 hp
  refine ⟨mm_up R 64 0 (some 65), ?_, hi.1, hi.2.1, hi.2.2.1, FRS_up hi.2.2.2 (by omega)⟩
  simp (disch := first | assumption | omega | exact bi_lo | exact bi_hi | exact bi_01 | exact jcmp_lo | exact jcmp_hi | exact (jor_r _ _).1 | exact (jor_r _ _).2 | exact (jand_r _ _).1 | exact (jand_r _ _).2) only [x56_0, x56_1, x56_4, x56_5, x56_7, x56_9, x56_12, x56_13, x56_14, x56_17, kb_some, kb_none, clr_vi, clr_ref, clr_null, clr_none, va_rf_some, va_rf_none, ↓bi_ite_t, ↓bi_ite_f, ↓jc_lt_t, ↓jc_lt_f, ↓jc_gt_t, ↓jc_gt_f, ↓jc_le_t, ↓jc_le_f, ↓jc_ge_t, ↓jc_ge_f, ↓jc_eq_t, ↓jc_eq_f, ↓if_pos, ↓if_neg, Int.reduceToNat, tl_65, tk_65, jf0, kf0, rf0]
theorem ct_1 (h : FRS 67 J K R) : ∃ R', EE d 56 0 [some (.ref 66)] [] (TS L 67) J K R = ok none (TS L 68) (mm_up J 66 1 (-1)) K R' ∧ IC 66 67 68 (mm_up J 66 1 (-1)) K R R' := by
  have c0 : CS 66 67 67 0 J K R R := CS_0 h
  have jf0 := (fr_rw0 c0.1).1
  have kf0 := (fr_rw0 c0.1).2.1
  have rf0 := (fr_rw0 c0.1).2.2
  have c1 := CS_arr (f := 0) c0 (by omega) (by omega) R0_67
  have s66 : (TS L 68)[66]? = some (7, 3) := rfl
  have hp : PR 66 (mm_up R 66 0 (some 67)) := by
    intro j q h
    match j, h with
    | 0, h => exact (up_s).trans h
    | 1, h => exact nomatch (show (none : Option Nat) = some q from h)
    | 2, h => exact nomatch (show (none : Option Nat) = some q from h)
    | j + 3, h => exact nomatch (show (none : Option Nat) = some q from h)
  have hi := CS_IC c1 hp
  refine ⟨mm_up R 66 0 (some 67), ?_, hi.1, hi.2.1, hi.2.2.1, FRS_up hi.2.2.2 (by omega)⟩
  simp (disch := first | assumption | omega | exact bi_lo | exact bi_hi | exact bi_01 | exact jcmp_lo | exact jcmp_hi | exact (jor_r _ _).1 | exact (jor_r _ _).2 | exact (jand_r _ _).1 | exact (jand_r _ _).2) only [x56_0, x56_1, x56_4, x56_5, x56_7, x56_9, x56_12, x56_13, x56_14, x56_17, kb_some, kb_none, clr_vi, clr_ref, clr_null, clr_none, va_rf_some, va_rf_none, ↓bi_ite_t, ↓bi_ite_f, ↓jc_lt_t, ↓jc_lt_f, ↓jc_gt_t, ↓jc_gt_f, ↓jc_le_t, ↓jc_le_f, ↓jc_ge_t, ↓jc_ge_f, ↓jc_eq_t, ↓jc_eq_f, ↓if_pos, ↓if_neg, Int.reduceToNat, tl_67, tk_67, jf0, kf0, rf0]
theorem ct_2 (h : FRS 69 J K R) : ∃ R', EE d 56 0 [some (.ref 68)] [] (TS L 69) J K R = ok none (TS L 70) (mm_up J 68 1 (-1)) K R' ∧ IC 68 69 70 (mm_up J 68 1 (-1)) K R R' := by
  have c0 : CS 68 69 69 0 J K R R := CS_0 h
  have jf0 := (fr_rw0 c0.1).1
  have kf0 := (fr_rw0 c0.1).2.1
  have rf0 := (fr_rw0 c0.1).2.2
  have c1 := CS_arr (f := 0) c0 (by omega) (by omega) R0_69
  have s68 : (TS L 70)[68]? = some (7, 3) := rfl
  have hp : PR 68 (mm_up R 68 0 (some 69)) := by
    intro j q h
    match j, h with
    | 0, h => exact (up_s).trans h
    | 1, h => exact nomatch (show (none : Option Nat) = some q from h)
    | 2, h => exact nomatch (show (none : Option Nat) = some q from h)
    | j + 3, h => exact nomatch (show (none : Option Nat) = some q from h)
  have hi := CS_IC c1 hp
  refine ⟨mm_up R 68 0 (some 69), ?_, hi.1, hi.2.1, hi.2.2.1, FRS_up hi.2.2.2 (by omega)⟩
  simp (disch := first | assumption | omega | exact bi_lo | exact bi_hi | exact bi_01 | exact jcmp_lo | exact jcmp_hi | exact (jor_r _ _).1 | exact (jor_r _ _).2 | exact (jand_r _ _).1 | exact (jand_r _ _).2) only [x56_0, x56_1, x56_4, x56_5, x56_7, x56_9, x56_12, x56_13, x56_14, x56_17, kb_some, kb_none, clr_vi, clr_ref, clr_null, clr_none, va_rf_some, va_rf_none, ↓bi_ite_t, ↓bi_ite_f, ↓jc_lt_t, ↓jc_lt_f, ↓jc_gt_t, ↓jc_gt_f, ↓jc_le_t, ↓jc_le_f, ↓jc_ge_t, ↓jc_ge_f, ↓jc_eq_t, ↓jc_eq_f, ↓if_pos, ↓if_neg, Int.reduceToNat, tl_69, tk_69, jf0, kf0, rf0]
theorem ct_3 (h : FRS 71 J K R) : ∃ R', EE d 56 0 [some (.ref 70)] [] (TS L 71) J K R = ok none (TS L 72) (mm_up J 70 1 (-1)) K R' ∧ IC 70 71 72 (mm_up J 70 1 (-1)) K R R' := by
  have c0 : CS 70 71 71 0 J K R R := CS_0 h
  have jf0 := (fr_rw0 c0.1).1
  have kf0 := (fr_rw0 c0.1).2.1
  have rf0 := (fr_rw0 c0.1).2.2
  have c1 := CS_arr (f := 0) c0 (by omega) (by omega) R0_71
  have s70 : (TS L 72)[70]? = some (7, 3) := rfl
  have hp : PR 70 (mm_up R 70 0 (some 71)) := by
    intro j q h
    match j, h with
    | 0, h => exact (up_s).trans h
    | 1, h => exact nomatch (show (none : Option Nat) = some q from h)
    | 2, h => exact nomatch (show (none : Option Nat) = some q from h)
    | j + 3, h => exact nomatch (show (none : Option Nat) = some q from h)
  have hi := CS_IC c1 hp
  refine ⟨mm_up R 70 0 (some 71), ?_, hi.1, hi.2.1, hi.2.2.1, FRS_up hi.2.2.2 (by omega)⟩
  simp (disch := first | assumption | omega | exact bi_lo | exact bi_hi | exact bi_01 | exact jcmp_lo | exact jcmp_hi | exact (jor_r _ _).1 | exact (jor_r _ _).2 | exact (jand_r _ _).1 | exact (jand_r _ _).2) only [x56_0, x56_1, x56_4, x56_5, x56_7, x56_9, x56_12, x56_13, x56_14, x56_17, kb_some, kb_none, clr_vi, clr_ref, clr_null, clr_none, va_rf_some, va_rf_none, ↓bi_ite_t, ↓bi_ite_f, ↓jc_lt_t, ↓jc_lt_f, ↓jc_gt_t, ↓jc_gt_f, ↓jc_le_t, ↓jc_le_f, ↓jc_ge_t, ↓jc_ge_f, ↓jc_eq_t, ↓jc_eq_f, ↓if_pos, ↓if_neg, Int.reduceToNat, tl_71, tk_71, jf0, kf0, rf0]
theorem ct_4 (h : FRS 73 J K R) : ∃ R', EE d 56 0 [some (.ref 72)] [] (TS L 73) J K R = ok none (TS L 74) (mm_up J 72 1 (-1)) K R' ∧ IC 72 73 74 (mm_up J 72 1 (-1)) K R R' := by
  have c0 : CS 72 73 73 0 J K R R := CS_0 h
  have jf0 := (fr_rw0 c0.1).1
  have kf0 := (fr_rw0 c0.1).2.1
  have rf0 := (fr_rw0 c0.1).2.2
  have c1 := CS_arr (f := 0) c0 (by omega) (by omega) R0_73
  have s72 : (TS L 74)[72]? = some (7, 3) := rfl
  have hp : PR 72 (mm_up R 72 0 (some 73)) := by
    intro j q h
    match j, h with
    | 0, h => exact (up_s).trans h
    | 1, h => exact nomatch (show (none : Option Nat) = some q from h)
    | 2, h => exact nomatch (show (none : Option Nat) = some q from h)
    | j + 3, h => exact nomatch (show (none : Option Nat) = some q from h)
  have hi := CS_IC c1 hp
  refine ⟨mm_up R 72 0 (some 73), ?_, hi.1, hi.2.1, hi.2.2.1, FRS_up hi.2.2.2 (by omega)⟩
  simp (disch := first | assumption | omega | exact bi_lo | exact bi_hi | exact bi_01 | exact jcmp_lo | exact jcmp_hi | exact (jor_r _ _).1 | exact (jor_r _ _).2 | exact (jand_r _ _).1 | exact (jand_r _ _).2) only [x56_0, x56_1, x56_4, x56_5, x56_7, x56_9, x56_12, x56_13, x56_14, x56_17, kb_some, kb_none, clr_vi, clr_ref, clr_null, clr_none, va_rf_some, va_rf_none, ↓bi_ite_t, ↓bi_ite_f, ↓jc_lt_t, ↓jc_lt_f, ↓jc_gt_t, ↓jc_gt_f, ↓jc_le_t, ↓jc_le_f, ↓jc_ge_t, ↓jc_ge_f, ↓jc_eq_t, ↓jc_eq_f, ↓if_pos, ↓if_neg, Int.reduceToNat, tl_73, tk_73, jf0, kf0, rf0]
theorem ct_5 (h : FRS 75 J K R) : ∃ R', EE d 56 0 [some (.ref 74)] [] (TS L 75) J K R = ok none (TS L 76) (mm_up J 74 1 (-1)) K R' ∧ IC 74 75 76 (mm_up J 74 1 (-1)) K R R' := by
  have c0 : CS 74 75 75 0 J K R R := CS_0 h
  have jf0 := (fr_rw0 c0.1).1
  have kf0 := (fr_rw0 c0.1).2.1
  have rf0 := (fr_rw0 c0.1).2.2
  have c1 := CS_arr (f := 0) c0 (by omega) (by omega) R0_75
  have s74 : (TS L 76)[74]? = some (7, 3) := rfl
  have hp : PR 74 (mm_up R 74 0 (some 75)) := by
    intro j q h
    match j, h with
    | 0, h => exact (up_s).trans h
    | 1, h => exact nomatch (show (none : Option Nat) = some q from h)
    | 2, h => exact nomatch (show (none : Option Nat) = some q from h)
    | j + 3, h => exact nomatch (show (none : Option Nat) = some q from h)
  have hi := CS_IC c1 hp
  refine ⟨mm_up R 74 0 (some 75), ?_, hi.1, hi.2.1, hi.2.2.1, FRS_up hi.2.2.2 (by omega)⟩
  simp (disch := first | assumption | omega | exact bi_lo | exact bi_hi | exact bi_01 | exact jcmp_lo | exact jcmp_hi | exact (jor_r _ _).1 | exact (jor_r _ _).2 | exact (jand_r _ _).1 | exact (jand_r _ _).2) only [x56_0, x56_1, x56_4, x56_5, x56_7, x56_9, x56_12, x56_13, x56_14, x56_17, kb_some, kb_none, clr_vi, clr_ref, clr_null, clr_none, va_rf_some, va_rf_none, ↓bi_ite_t, ↓bi_ite_f, ↓jc_lt_t, ↓jc_lt_f, ↓jc_gt_t, ↓jc_gt_f, ↓jc_le_t, ↓jc_le_f, ↓jc_ge_t, ↓jc_ge_f, ↓jc_eq_t, ↓jc_eq_f, ↓if_pos, ↓if_neg, Int.reduceToNat, tl_75, tk_75, jf0, kf0, rf0]
theorem ci_class (h : FRS 3 J K R) : ∃ R', EE (d + 3) 97 0 [some (.ref 2), none] [] (TS L 3) J K R = ok none (TS L 76) (mm_up (mm_up (mm_up (mm_up (mm_up (mm_up J 64 1 (-1)) 66 1 (-1)) 68 1 (-1)) 70 1 (-1)) 72 1 (-1)) 74 1 (-1)) K R' ∧ IC 2 3 76 (mm_up (mm_up (mm_up (mm_up (mm_up (mm_up J 64 1 (-1)) 66 1 (-1)) 68 1 (-1)) 70 1 (-1)) 72 1 (-1)) 74 1 (-1)) K R R' := by
  have c0 : CS 2 3 3 0 J K R R := CS_0 h
  have jf0 := (fr_rw0 c0.1).1
  have kf0 := (fr_rw0 c0.1).2.1
  have rf0 := (fr_rw0 c0.1).2.2
  obtain ⟨Q0, q0, w0⟩ := ci_5 (L := L) (d := d + 1) (J := J) (K := K) (R := R) (FRS_1 c0.1)
  have c1 := CS_obj (f := 0) c0 w0 (by omega) (by omega) (by omega)
  have e0 : EE (d + 3) 97 4 [some (.ref 2), none] [] (TS L 3) J K R = EE (d + 3) 97 15 [some (.ref 2), none] [] (TS L 15) J K (mm_up Q0 2 0 (some 3)) := by
    have s2 : (TS L 15)[2]? = some (10, 10) := rfl
    have s3 : (TS L 4)[3]? = some (6, 4) := rfl
    simp (disch := first | assumption | omega | exact bi_lo | exact bi_hi | exact bi_01 | exact jcmp_lo | exact jcmp_hi | exact (jor_r _ _).1 | exact (jor_r _ _).2 | exact (jand_r _ _).1 | exact (jand_r _ _).2) only [x97_4, x97_5, x97_8, x97_9, x97_12, kb_some, kb_none, clr_vi, clr_ref, clr_null, clr_none, va_rf_some, va_rf_none, ↓bi_ite_t, ↓bi_ite_f, ↓jc_lt_t, ↓jc_lt_f, ↓jc_gt_t, ↓jc_gt_f, ↓jc_le_t, ↓jc_le_f, ↓jc_ge_t, ↓jc_ge_f, ↓jc_eq_t, ↓jc_eq_f, ↓if_pos, ↓if_neg, Int.reduceToNat, tl_3, tk_3, jf0, kf0, rf0, q0]
  obtain ⟨R1, hR1⟩ : ∃ X, X = mm_up Q0 2 0 (some 3) := ⟨_, rfl⟩
  rw [← hR1] at e0 c1
  have jf1 := (fr_rw0 c1.1).1
  have kf1 := (fr_rw0 c1.1).2.1
  have rf1 := (fr_rw0 c1.1).2.2
  obtain ⟨Q1, q1, w1⟩ := ci_10 (L := L) (d := d + 1) (J := J) (K := K) (R := R1) (FRS_1 c1.1)
  have c2 := CS_obj (f := 1) c1 w1 (by omega) (by omega) (by omega)
  have e1 : EE (d + 3) 97 15 [some (.ref 2), none] [] (TS L 15) J K R1 = EE (d + 3) 97 26 [some (.ref 2), none] [] (TS L 27) J K (mm_up Q1 2 1 (some 15)) := by
    have s2 : (TS L 27)[2]? = some (10, 10) := rfl
    have s15 : (TS L 16)[15]? = some (6, 4) := rfl
    simp (disch := first | assumption | omega | exact bi_lo | exact bi_hi | exact bi_01 | exact jcmp_lo | exact jcmp_hi | exact (jor_r _ _).1 | exact (jor_r _ _).2 | exact (jand_r _ _).1 | exact (jand_r _ _).2) only [x97_15, x97_16, x97_19, x97_20, x97_23, kb_some, kb_none, clr_vi, clr_ref, clr_null, clr_none, va_rf_some, va_rf_none, ↓bi_ite_t, ↓bi_ite_f, ↓jc_lt_t, ↓jc_lt_f, ↓jc_gt_t, ↓jc_gt_f, ↓jc_le_t, ↓jc_le_f, ↓jc_ge_t, ↓jc_ge_f, ↓jc_eq_t, ↓jc_eq_f, ↓if_pos, ↓if_neg, Int.reduceToNat, tl_15, tk_15, jf1, kf1, rf1, q1]
  obtain ⟨R2, hR2⟩ : ∃ X, X = mm_up Q1 2 1 (some 15) := ⟨_, rfl⟩
  rw [← hR2] at e1 c2
  have jf2 := (fr_rw0 c2.1).1
  have kf2 := (fr_rw0 c2.1).2.1
  have rf2 := (fr_rw0 c2.1).2.2
  obtain ⟨Q2, q2, w2⟩ := ci_11 (L := L) (d := d + 2) (J := J) (K := K) (R := R2) (FRS_1 c2.1)
  have c3 := CS_obj (f := 3) c2 w2 (by omega) (by omega) (by omega)
  have e2 : EE (d + 3) 97 26 [some (.ref 2), none] [] (TS L 27) J K R2 = EE (d + 3) 97 39 [some (.ref 2), none] [] (TS L 29) J K (mm_up Q2 2 3 (some 27)) := by
    have s2 : (TS L 29)[2]? = some (10, 10) := rfl
    have s27 : (TS L 28)[27]? = some (0, 2) := rfl
    simp (disch := first | assumption | omega | exact bi_lo | exact bi_hi | exact bi_01 | exact jcmp_lo | exact jcmp_hi | exact (jor_r _ _).1 | exact (jor_r _ _).2 | exact (jand_r _ _).1 | exact (jand_r _ _).2) only [x97_26, x97_27, x97_30, x97_31, x97_33, x97_36, kb_some, kb_none, clr_vi, clr_ref, clr_null, clr_none, va_rf_some, va_rf_none, ↓bi_ite_t, ↓bi_ite_f, ↓jc_lt_t, ↓jc_lt_f, ↓jc_gt_t, ↓jc_gt_f, ↓jc_le_t, ↓jc_le_f, ↓jc_ge_t, ↓jc_ge_f, ↓jc_eq_t, ↓jc_eq_f, ↓if_pos, ↓if_neg, Int.reduceToNat, tl_27, tk_27, jf2, kf2, rf2, q2]
  obtain ⟨R3, hR3⟩ : ∃ X, X = mm_up Q2 2 3 (some 27) := ⟨_, rfl⟩
  rw [← hR3] at e2 c3
  have jf3 := (fr_rw0 c3.1).1
  have kf3 := (fr_rw0 c3.1).2.1
  have rf3 := (fr_rw0 c3.1).2.2
  obtain ⟨Q3, q3, w3⟩ := ci_12 (L := L) (d := d + 2) (J := J) (K := K) (R := R3) (FRS_1 c3.1)
  have c4 := CS_obj (f := 4) c3 w3 (by omega) (by omega) (by omega)
  have e3 : EE (d + 3) 97 39 [some (.ref 2), none] [] (TS L 29) J K R3 = EE (d + 3) 97 52 [some (.ref 2), none] [] (TS L 31) J K (mm_up Q3 2 4 (some 29)) := by
    have s2 : (TS L 31)[2]? = some (10, 10) := rfl
    have s29 : (TS L 30)[29]? = some (0, 2) := rfl
    simp (disch := first | assumption | omega | exact bi_lo | exact bi_hi | exact bi_01 | exact jcmp_lo | exact jcmp_hi | exact (jor_r _ _).1 | exact (jor_r _ _).2 | exact (jand_r _ _).1 | exact (jand_r _ _).2) only [x97_39, x97_40, x97_43, x97_44, x97_46, x97_49, kb_some, kb_none, clr_vi, clr_ref, clr_null, clr_none, va_rf_some, va_rf_none, ↓bi_ite_t, ↓bi_ite_f, ↓jc_lt_t, ↓jc_lt_f, ↓jc_gt_t, ↓jc_gt_f, ↓jc_le_t, ↓jc_le_f, ↓jc_ge_t, ↓jc_ge_f, ↓jc_eq_t, ↓jc_eq_f, ↓if_pos, ↓if_neg, Int.reduceToNat, tl_29, tk_29, jf3, kf3, rf3, q3]
  obtain ⟨R4, hR4⟩ : ∃ X, X = mm_up Q3 2 4 (some 29) := ⟨_, rfl⟩
  rw [← hR4] at e3 c4
  have jf4 := (fr_rw0 c4.1).1
  have kf4 := (fr_rw0 c4.1).2.1
  have rf4 := (fr_rw0 c4.1).2.2
  obtain ⟨Q4, q4, w4⟩ := ci_17 (L := L) (d := d) (J := J) (K := K) (R := R4) (FRS_1 c4.1)
  have c5 := CS_obj (f := 5) c4 w4 (by omega) (by omega) (by omega)
  have e4 : EE (d + 3) 97 52 [some (.ref 2), none] [] (TS L 31) J K R4 = EE (d + 3) 97 63 [some (.ref 2), none] [] (TS L 46) J K (mm_up Q4 2 5 (some 31)) := by
    have s2 : (TS L 46)[2]? = some (10, 10) := rfl
    have s31 : (TS L 32)[31]? = some (2, 5) := rfl
    simp (disch := first | assumption | omega | exact bi_lo | exact bi_hi | exact bi_01 | exact jcmp_lo | exact jcmp_hi | exact (jor_r _ _).1 | exact (jor_r _ _).2 | exact (jand_r _ _).1 | exact (jand_r _ _).2) only [x97_52, x97_53, x97_56, x97_57, x97_60, kb_some, kb_none, clr_vi, clr_ref, clr_null, clr_none, va_rf_some, va_rf_none, ↓bi_ite_t, ↓bi_ite_f, ↓jc_lt_t, ↓jc_lt_f, ↓jc_gt_t, ↓jc_gt_f, ↓jc_le_t, ↓jc_le_f, ↓jc_ge_t, ↓jc_ge_f, ↓jc_eq_t, ↓jc_eq_f, ↓if_pos, ↓if_neg, Int.reduceToNat, tl_31, tk_31, jf4, kf4, rf4, q4]
  obtain ⟨R5, hR5⟩ : ∃ X, X = mm_up Q4 2 5 (some 31) := ⟨_, rfl⟩
  rw [← hR5] at e4 c5
  have jf5 := (fr_rw0 c5.1).1
  have kf5 := (fr_rw0 c5.1).2.1
  have rf5 := (fr_rw0 c5.1).2.2
  obtain ⟨Q5, q5, w5⟩ := ci_21 (L := L) (d := d) (J := J) (K := K) (R := R5) (FRS_1 c5.1)
  have c6 := CS_obj (f := 6) c5 w5 (by omega) (by omega) (by omega)
  have e5 : EE (d + 3) 97 63 [some (.ref 2), none] [] (TS L 46) J K R5 = EE (d + 3) 97 74 [some (.ref 2), none] [] (TS L 57) J K (mm_up Q5 2 6 (some 46)) := by
    have s2 : (TS L 57)[2]? = some (10, 10) := rfl
    have s46 : (TS L 47)[46]? = some (8, 5) := rfl
    simp (disch := first | assumption | omega | exact bi_lo | exact bi_hi | exact bi_01 | exact jcmp_lo | exact jcmp_hi | exact (jor_r _ _).1 | exact (jor_r _ _).2 | exact (jand_r _ _).1 | exact (jand_r _ _).2) only [x97_63, x97_64, x97_67, x97_68, x97_71, kb_some, kb_none, clr_vi, clr_ref, clr_null, clr_none, va_rf_some, va_rf_none, ↓bi_ite_t, ↓bi_ite_f, ↓jc_lt_t, ↓jc_lt_f, ↓jc_gt_t, ↓jc_gt_f, ↓jc_le_t, ↓jc_le_f, ↓jc_ge_t, ↓jc_ge_f, ↓jc_eq_t, ↓jc_eq_f, ↓if_pos, ↓if_neg, Int.reduceToNat, tl_46, tk_46, jf5, kf5, rf5, q5]
  obtain ⟨R6, hR6⟩ : ∃ X, X = mm_up Q5 2 6 (some 46) := ⟨_, rfl⟩
  rw [← hR6] at e5 c6
  have jf6 := (fr_rw0 c6.1).1
  have kf6 := (fr_rw0 c6.1).2.1
  have rf6 := (fr_rw0 c6.1).2.2
  obtain ⟨Q6, q6, w6⟩ := ci_23 (L := L) (d := d + 1) (J := J) (K := K) (R := R6) (FRS_1 c6.1)
  have c7 := CS_obj (f := 7) c6 w6 (by omega) (by omega) (by omega)
  have e6 : EE (d + 3) 97 74 [some (.ref 2), none] [] (TS L 57) J K R6 = EE (d + 3) 97 85 [some (.ref 2), none] [] (TS L 60) J K (mm_up Q6 2 7 (some 57)) := by
    have s2 : (TS L 60)[2]? = some (10, 10) := rfl
    have s57 : (TS L 58)[57]? = some (3, 2) := rfl
    simp (disch := first | assumption | omega | exact bi_lo | exact bi_hi | exact bi_01 | exact jcmp_lo | exact jcmp_hi | exact (jor_r _ _).1 | exact (jor_r _ _).2 | exact (jand_r _ _).1 | exact (jand_r _ _).2) only [x97_74, x97_75, x97_78, x97_79, x97_82, kb_some, kb_none, clr_vi, clr_ref, clr_null, clr_none, va_rf_some, va_rf_none, ↓bi_ite_t, ↓bi_ite_f, ↓jc_lt_t, ↓jc_lt_f, ↓jc_gt_t, ↓jc_gt_f, ↓jc_le_t, ↓jc_le_f, ↓jc_ge_t, ↓jc_ge_f, ↓jc_eq_t, ↓jc_eq_f, ↓if_pos, ↓if_neg, Int.reduceToNat, tl_57, tk_57, jf6, kf6, rf6, q6]
  obtain ⟨R7, hR7⟩ : ∃ X, X = mm_up Q6 2 7 (some 57) := ⟨_, rfl⟩
  rw [← hR7] at e6 c7
  have jf7 := (fr_rw0 c7.1).1
  have kf7 := (fr_rw0 c7.1).2.1
  have rf7 := (fr_rw0 c7.1).2.2
  obtain ⟨Q7, q7, w7⟩ := ci_25 (L := L) (d := d + 1) (J := J) (K := K) (R := R7) (FRS_1 c7.1)
  have c8 := CS_obj (f := 8) c7 w7 (by omega) (by omega) (by omega)
  have e7 : EE (d + 3) 97 85 [some (.ref 2), none] [] (TS L 60) J K R7 = EE (d + 3) 97 96 [some (.ref 2), none] [] (TS L 63) J K (mm_up Q7 2 8 (some 60)) := by
    have s2 : (TS L 63)[2]? = some (10, 10) := rfl
    have s60 : (TS L 61)[60]? = some (5, 1) := rfl
    simp (disch := first | assumption | omega | exact bi_lo | exact bi_hi | exact bi_01 | exact jcmp_lo | exact jcmp_hi | exact (jor_r _ _).1 | exact (jor_r _ _).2 | exact (jand_r _ _).1 | exact (jand_r _ _).2) only [x97_85, x97_86, x97_89, x97_90, x97_93, kb_some, kb_none, clr_vi, clr_ref, clr_null, clr_none, va_rf_some, va_rf_none, ↓bi_ite_t, ↓bi_ite_f, ↓jc_lt_t, ↓jc_lt_f, ↓jc_gt_t, ↓jc_gt_f, ↓jc_le_t, ↓jc_le_f, ↓jc_ge_t, ↓jc_ge_f, ↓jc_eq_t, ↓jc_eq_f, ↓if_pos, ↓if_neg, Int.reduceToNat, tl_60, tk_60, jf7, kf7, rf7, q7]
  obtain ⟨R8, hR8⟩ : ∃ X, X = mm_up Q7 2 8 (some 60) := ⟨_, rfl⟩
  rw [← hR8] at e7 c8
  have jf8 := (fr_rw0 c8.1).1
  have kf8 := (fr_rw0 c8.1).2.1
  have rf8 := (fr_rw0 c8.1).2.2
  have c9 := CS_arrX (f := 9) c8 (by omega) (by omega)
  have e8 : EE (d + 3) 97 96 [some (.ref 2), none] [] (TS L 63) J K R8 = EE (d + 3) 97 107 [some (.ref 2), some (vi 0)] [] (TS L 64) J K (mm_up R8 2 9 (some 63)) := by
    have s2 : (TS L 64)[2]? = some (10, 10) := rfl
    simp (disch := first | assumption | omega | exact bi_lo | exact bi_hi | exact bi_01 | exact jcmp_lo | exact jcmp_hi | exact (jor_r _ _).1 | exact (jor_r _ _).2 | exact (jand_r _ _).1 | exact (jand_r _ _).2) only [x97_96, x97_97, x97_99, x97_102, x97_105, x97_106, kb_some, kb_none, clr_vi, clr_ref, clr_null, clr_none, va_rf_some, va_rf_none, ↓bi_ite_t, ↓bi_ite_f, ↓jc_lt_t, ↓jc_lt_f, ↓jc_gt_t, ↓jc_gt_f, ↓jc_le_t, ↓jc_le_f, ↓jc_ge_t, ↓jc_ge_f, ↓jc_eq_t, ↓jc_eq_f, ↓if_pos, ↓if_neg, Int.reduceToNat, tl_63, tk_63, jf8, kf8, rf8]
  obtain ⟨R9, hR9⟩ : ∃ X, X = mm_up R8 2 9 (some 63) := ⟨_, rfl⟩
  rw [← hR9] at e8 c9
  have g9_0 : R9 2 0 = some 3 := (congrFun (congrFun hR9 2) _).trans ((up_j (by decide)).trans ((congrFun (congrFun hR8 2) _).trans ((up_j (by decide)).trans ((congrFun (w7.1 2 (by decide) (by decide)) _).trans ((congrFun (congrFun hR7 2) _).trans ((up_j (by decide)).trans ((congrFun (w6.1 2 (by decide) (by decide)) _).trans ((congrFun (congrFun hR6 2) _).trans ((up_j (by decide)).trans ((congrFun (w5.1 2 (by decide) (by decide)) _).trans ((congrFun (congrFun hR5 2) _).trans ((up_j (by decide)).trans ((congrFun (w4.1 2 (by decide) (by decide)) _).trans ((congrFun (congrFun hR4 2) _).trans ((up_j (by decide)).trans ((congrFun (w3.1 2 (by decide) (by decide)) _).trans ((congrFun (congrFun hR3 2) _).trans ((up_j (by decide)).trans ((congrFun (w2.1 2 (by decide) (by decide)) _).trans ((congrFun (congrFun hR2 2) _).trans ((up_j (by decide)).trans ((congrFun (w1.1 2 (by decide) (by decide)) _).trans ((congrFun (congrFun hR1 2) _).trans (up_s))))))))))))))))))))))))
  have g9_1 : R9 2 1 = some 15 := (congrFun (congrFun hR9 2) _).trans ((up_j (by decide)).trans ((congrFun (congrFun hR8 2) _).trans ((up_j (by decide)).trans ((congrFun (w7.1 2 (by decide) (by decide)) _).trans ((congrFun (congrFun hR7 2) _).trans ((up_j (by decide)).trans ((congrFun (w6.1 2 (by decide) (by decide)) _).trans ((congrFun (congrFun hR6 2) _).trans ((up_j (by decide)).trans ((congrFun (w5.1 2 (by decide) (by decide)) _).trans ((congrFun (congrFun hR5 2) _).trans ((up_j (by decide)).trans ((congrFun (w4.1 2 (by decide) (by decide)) _).trans ((congrFun (congrFun hR4 2) _).trans ((up_j (by decide)).trans ((congrFun (w3.1 2 (by decide) (by decide)) _).trans ((congrFun (congrFun hR3 2) _).trans ((up_j (by decide)).trans ((congrFun (w2.1 2 (by decide) (by decide)) _).trans ((congrFun (congrFun hR2 2) _).trans (up_s)))))))))))))))))))))
  have g9_3 : R9 2 3 = some 27 := (congrFun (congrFun hR9 2) _).trans ((up_j (by decide)).trans ((congrFun (congrFun hR8 2) _).trans ((up_j (by decide)).trans ((congrFun (w7.1 2 (by decide) (by decide)) _).trans ((congrFun (congrFun hR7 2) _).trans ((up_j (by decide)).trans ((congrFun (w6.1 2 (by decide) (by decide)) _).trans ((congrFun (congrFun hR6 2) _).trans ((up_j (by decide)).trans ((congrFun (w5.1 2 (by decide) (by decide)) _).trans ((congrFun (congrFun hR5 2) _).trans ((up_j (by decide)).trans ((congrFun (w4.1 2 (by decide) (by decide)) _).trans ((congrFun (congrFun hR4 2) _).trans ((up_j (by decide)).trans ((congrFun (w3.1 2 (by decide) (by decide)) _).trans ((congrFun (congrFun hR3 2) _).trans (up_s))))))))))))))))))
  have g9_4 : R9 2 4 = some 29 := (congrFun (congrFun hR9 2) _).trans ((up_j (by decide)).trans ((congrFun (congrFun hR8 2) _).trans ((up_j (by decide)).trans ((congrFun (w7.1 2 (by decide) (by decide)) _).trans ((congrFun (congrFun hR7 2) _).trans ((up_j (by decide)).trans ((congrFun (w6.1 2 (by decide) (by decide)) _).trans ((congrFun (congrFun hR6 2) _).trans ((up_j (by decide)).trans ((congrFun (w5.1 2 (by decide) (by decide)) _).trans ((congrFun (congrFun hR5 2) _).trans ((up_j (by decide)).trans ((congrFun (w4.1 2 (by decide) (by decide)) _).trans ((congrFun (congrFun hR4 2) _).trans (up_s)))))))))))))))
  have g9_5 : R9 2 5 = some 31 := (congrFun (congrFun hR9 2) _).trans ((up_j (by decide)).trans ((congrFun (congrFun hR8 2) _).trans ((up_j (by decide)).trans ((congrFun (w7.1 2 (by decide) (by decide)) _).trans ((congrFun (congrFun hR7 2) _).trans ((up_j (by decide)).trans ((congrFun (w6.1 2 (by decide) (by decide)) _).trans ((congrFun (congrFun hR6 2) _).trans ((up_j (by decide)).trans ((congrFun (w5.1 2 (by decide) (by decide)) _).trans ((congrFun (congrFun hR5 2) _).trans (up_s))))))))))))
  have g9_6 : R9 2 6 = some 46 := (congrFun (congrFun hR9 2) _).trans ((up_j (by decide)).trans ((congrFun (congrFun hR8 2) _).trans ((up_j (by decide)).trans ((congrFun (w7.1 2 (by decide) (by decide)) _).trans ((congrFun (congrFun hR7 2) _).trans ((up_j (by decide)).trans ((congrFun (w6.1 2 (by decide) (by decide)) _).trans ((congrFun (congrFun hR6 2) _).trans (up_s)))))))))
  have g9_7 : R9 2 7 = some 57 := (congrFun (congrFun hR9 2) _).trans ((up_j (by decide)).trans ((congrFun (congrFun hR8 2) _).trans ((up_j (by decide)).trans ((congrFun (w7.1 2 (by decide) (by decide)) _).trans ((congrFun (congrFun hR7 2) _).trans (up_s))))))
  have g9_8 : R9 2 8 = some 60 := (congrFun (congrFun hR9 2) _).trans ((up_j (by decide)).trans ((congrFun (congrFun hR8 2) _).trans (up_s)))
  have g9_9 : R9 2 9 = some 63 := (congrFun (congrFun hR9 2) _).trans up_s
  have jf9 := (fr_rw0 c9.1).1
  have kf9 := (fr_rw0 c9.1).2.1
  have rf9 := (fr_rw0 c9.1).2.2
  obtain ⟨Q9, q9, w9⟩ := ct_0 (L := L) (d := d + 2) (J := J) (K := K) (R := R9) (FRS_1 c9.1)
  have c10 := CS_tape (f := 0) c9 w9 (by omega) (by omega) (by omega) (by omega)
  have go9 : ∀ X, EE (d + 3) 97 107 [some (.ref 2), some (vi 1)] [] (TS L 66) (mm_up J 64 1 (-1)) K (mm_up Q9 63 0 (some 64)) = X → EE (d + 3) 97 107 [some (.ref 2), some (vi 0)] [] (TS L 64) (J) K R9 = X := by
    intro X hX
    have s2 : (TS L 64)[2]? = some (10, 10) := rfl
    have s63 : (TS L 64)[63]? = some (23, 6) := rfl
    have u64 : (TS L 65)[64]? = some (7, 3) := rfl
    have u63 : (TS L 66)[63]? = some (23, 6) := rfl
    have v64 : (TS L 66)[64]? = some (7, 3) := rfl
    simp (disch := first | assumption | omega | exact bi_lo | exact bi_hi | exact bi_01 | exact jcmp_lo | exact jcmp_hi | exact (jor_r _ _).1 | exact (jor_r _ _).2 | exact (jand_r _ _).1 | exact (jand_r _ _).2) only [x97_107, x97_108, x97_109, x97_112, x97_112l, x97_112a, x97_113, kb_some, kb_none, clr_vi, clr_ref, clr_null, clr_none, va_rf_some, va_rf_none, ↓bi_ite_t, ↓bi_ite_f, ↓jc_lt_t, ↓jc_lt_f, ↓jc_gt_t, ↓jc_gt_f, ↓jc_le_t, ↓jc_le_f, ↓jc_ge_t, ↓jc_ge_f, ↓jc_eq_t, ↓jc_eq_f, ↓if_pos, ↓if_neg, g9_9]
    simp (disch := first | assumption | omega | exact bi_lo | exact bi_hi | exact bi_01 | exact jcmp_lo | exact jcmp_hi | exact (jor_r _ _).1 | exact (jor_r _ _).2 | exact (jand_r _ _).1 | exact (jand_r _ _).2) only [x97_116, x97_117, x97_120, x97_121, x97_124, x97_125, x97_128, x97_129, x97_132, kb_some, kb_none, clr_vi, clr_ref, clr_null, clr_none, va_rf_some, va_rf_none, ↓bi_ite_t, ↓bi_ite_f, ↓jc_lt_t, ↓jc_lt_f, ↓jc_gt_t, ↓jc_gt_f, ↓jc_le_t, ↓jc_le_f, ↓jc_ge_t, ↓jc_ge_f, ↓jc_eq_t, ↓jc_eq_f, ↓if_pos, ↓if_neg, g9_9, Int.reduceToNat, Int.reduceAdd, tl_64, tk_64, jf9, kf9, rf9, q9]
    exact hX
  have e9 : EE (d + 3) 97 107 [some (.ref 2), some (vi 0)] [] (TS L 64) (J) K R9 = EE (d + 3) 97 107 [some (.ref 2), some (vi 1)] [] (TS L 66) (mm_up J 64 1 (-1)) K (mm_up Q9 63 0 (some 64)) := go9 _ rfl
  obtain ⟨R10, hR10⟩ : ∃ X, X = mm_up Q9 63 0 (some 64) := ⟨_, rfl⟩
  rw [← hR10] at e9 c10
  have g10_0 : R10 2 0 = some 3 := (congrFun (congrFun hR10 2) _).trans ((congrFun (up_nR (by decide)) _).trans ((congrFun (w9.1 2 (by decide) (by decide)) _).trans g9_0))
  have g10_1 : R10 2 1 = some 15 := (congrFun (congrFun hR10 2) _).trans ((congrFun (up_nR (by decide)) _).trans ((congrFun (w9.1 2 (by decide) (by decide)) _).trans g9_1))
  have g10_3 : R10 2 3 = some 27 := (congrFun (congrFun hR10 2) _).trans ((congrFun (up_nR (by decide)) _).trans ((congrFun (w9.1 2 (by decide) (by decide)) _).trans g9_3))
  have g10_4 : R10 2 4 = some 29 := (congrFun (congrFun hR10 2) _).trans ((congrFun (up_nR (by decide)) _).trans ((congrFun (w9.1 2 (by decide) (by decide)) _).trans g9_4))
  have g10_5 : R10 2 5 = some 31 := (congrFun (congrFun hR10 2) _).trans ((congrFun (up_nR (by decide)) _).trans ((congrFun (w9.1 2 (by decide) (by decide)) _).trans g9_5))
  have g10_6 : R10 2 6 = some 46 := (congrFun (congrFun hR10 2) _).trans ((congrFun (up_nR (by decide)) _).trans ((congrFun (w9.1 2 (by decide) (by decide)) _).trans g9_6))
  have g10_7 : R10 2 7 = some 57 := (congrFun (congrFun hR10 2) _).trans ((congrFun (up_nR (by decide)) _).trans ((congrFun (w9.1 2 (by decide) (by decide)) _).trans g9_7))
  have g10_8 : R10 2 8 = some 60 := (congrFun (congrFun hR10 2) _).trans ((congrFun (up_nR (by decide)) _).trans ((congrFun (w9.1 2 (by decide) (by decide)) _).trans g9_8))
  have g10_9 : R10 2 9 = some 63 := (congrFun (congrFun hR10 2) _).trans ((congrFun (up_nR (by decide)) _).trans ((congrFun (w9.1 2 (by decide) (by decide)) _).trans g9_9))
  have p10_0 : R10 63 0 = some 64 := (congrFun (congrFun hR10 63) _).trans up_s
  have jf10 := (fr_rw0 c10.1).1
  have kf10 := (fr_rw0 c10.1).2.1
  have rf10 := (fr_rw0 c10.1).2.2
  obtain ⟨Q10, q10, w10⟩ := ct_1 (L := L) (d := d + 2) (J := mm_up J 64 1 (-1)) (K := K) (R := R10) (FRS_1 c10.1)
  have c11 := CS_tape (f := 1) c10 w10 (by omega) (by omega) (by omega) (by omega)
  have go10 : ∀ X, EE (d + 3) 97 107 [some (.ref 2), some (vi 2)] [] (TS L 68) (mm_up (mm_up J 64 1 (-1)) 66 1 (-1)) K (mm_up Q10 63 1 (some 66)) = X → EE (d + 3) 97 107 [some (.ref 2), some (vi 1)] [] (TS L 66) (mm_up J 64 1 (-1)) K R10 = X := by
    intro X hX
    have s2 : (TS L 66)[2]? = some (10, 10) := rfl
    have s63 : (TS L 66)[63]? = some (23, 6) := rfl
    have u66 : (TS L 67)[66]? = some (7, 3) := rfl
    have u63 : (TS L 68)[63]? = some (23, 6) := rfl
    have v66 : (TS L 68)[66]? = some (7, 3) := rfl
    simp (disch := first | assumption | omega | exact bi_lo | exact bi_hi | exact bi_01 | exact jcmp_lo | exact jcmp_hi | exact (jor_r _ _).1 | exact (jor_r _ _).2 | exact (jand_r _ _).1 | exact (jand_r _ _).2) only [x97_107, x97_108, x97_109, x97_112, x97_112l, x97_112a, x97_113, kb_some, kb_none, clr_vi, clr_ref, clr_null, clr_none, va_rf_some, va_rf_none, ↓bi_ite_t, ↓bi_ite_f, ↓jc_lt_t, ↓jc_lt_f, ↓jc_gt_t, ↓jc_gt_f, ↓jc_le_t, ↓jc_le_f, ↓jc_ge_t, ↓jc_ge_f, ↓jc_eq_t, ↓jc_eq_f, ↓if_pos, ↓if_neg, g10_9]
    simp (disch := first | assumption | omega | exact bi_lo | exact bi_hi | exact bi_01 | exact jcmp_lo | exact jcmp_hi | exact (jor_r _ _).1 | exact (jor_r _ _).2 | exact (jand_r _ _).1 | exact (jand_r _ _).2) only [x97_116, x97_117, x97_120, x97_121, x97_124, x97_125, x97_128, x97_129, x97_132, kb_some, kb_none, clr_vi, clr_ref, clr_null, clr_none, va_rf_some, va_rf_none, ↓bi_ite_t, ↓bi_ite_f, ↓jc_lt_t, ↓jc_lt_f, ↓jc_gt_t, ↓jc_gt_f, ↓jc_le_t, ↓jc_le_f, ↓jc_ge_t, ↓jc_ge_f, ↓jc_eq_t, ↓jc_eq_f, ↓if_pos, ↓if_neg, g10_9, Int.reduceToNat, Int.reduceAdd, tl_66, tk_66, jf10, kf10, rf10, q10]
    exact hX
  have e10 : EE (d + 3) 97 107 [some (.ref 2), some (vi 1)] [] (TS L 66) (mm_up J 64 1 (-1)) K R10 = EE (d + 3) 97 107 [some (.ref 2), some (vi 2)] [] (TS L 68) (mm_up (mm_up J 64 1 (-1)) 66 1 (-1)) K (mm_up Q10 63 1 (some 66)) := go10 _ rfl
  obtain ⟨R11, hR11⟩ : ∃ X, X = mm_up Q10 63 1 (some 66) := ⟨_, rfl⟩
  rw [← hR11] at e10 c11
  have g11_0 : R11 2 0 = some 3 := (congrFun (congrFun hR11 2) _).trans ((congrFun (up_nR (by decide)) _).trans ((congrFun (w10.1 2 (by decide) (by decide)) _).trans g10_0))
  have g11_1 : R11 2 1 = some 15 := (congrFun (congrFun hR11 2) _).trans ((congrFun (up_nR (by decide)) _).trans ((congrFun (w10.1 2 (by decide) (by decide)) _).trans g10_1))
  have g11_3 : R11 2 3 = some 27 := (congrFun (congrFun hR11 2) _).trans ((congrFun (up_nR (by decide)) _).trans ((congrFun (w10.1 2 (by decide) (by decide)) _).trans g10_3))
  have g11_4 : R11 2 4 = some 29 := (congrFun (congrFun hR11 2) _).trans ((congrFun (up_nR (by decide)) _).trans ((congrFun (w10.1 2 (by decide) (by decide)) _).trans g10_4))
  have g11_5 : R11 2 5 = some 31 := (congrFun (congrFun hR11 2) _).trans ((congrFun (up_nR (by decide)) _).trans ((congrFun (w10.1 2 (by decide) (by decide)) _).trans g10_5))
  have g11_6 : R11 2 6 = some 46 := (congrFun (congrFun hR11 2) _).trans ((congrFun (up_nR (by decide)) _).trans ((congrFun (w10.1 2 (by decide) (by decide)) _).trans g10_6))
  have g11_7 : R11 2 7 = some 57 := (congrFun (congrFun hR11 2) _).trans ((congrFun (up_nR (by decide)) _).trans ((congrFun (w10.1 2 (by decide) (by decide)) _).trans g10_7))
  have g11_8 : R11 2 8 = some 60 := (congrFun (congrFun hR11 2) _).trans ((congrFun (up_nR (by decide)) _).trans ((congrFun (w10.1 2 (by decide) (by decide)) _).trans g10_8))
  have g11_9 : R11 2 9 = some 63 := (congrFun (congrFun hR11 2) _).trans ((congrFun (up_nR (by decide)) _).trans ((congrFun (w10.1 2 (by decide) (by decide)) _).trans g10_9))
  have p11_0 : R11 63 0 = some 64 := (congrFun (congrFun hR11 63) _).trans ((up_j (by decide)).trans ((congrFun (w10.1 63 (by decide) (by decide)) _).trans p10_0))
  have p11_1 : R11 63 1 = some 66 := (congrFun (congrFun hR11 63) _).trans up_s
  have jf11 := (fr_rw0 c11.1).1
  have kf11 := (fr_rw0 c11.1).2.1
  have rf11 := (fr_rw0 c11.1).2.2
  obtain ⟨Q11, q11, w11⟩ := ct_2 (L := L) (d := d + 2) (J := mm_up (mm_up J 64 1 (-1)) 66 1 (-1)) (K := K) (R := R11) (FRS_1 c11.1)
  have c12 := CS_tape (f := 2) c11 w11 (by omega) (by omega) (by omega) (by omega)
  have go11 : ∀ X, EE (d + 3) 97 107 [some (.ref 2), some (vi 3)] [] (TS L 70) (mm_up (mm_up (mm_up J 64 1 (-1)) 66 1 (-1)) 68 1 (-1)) K (mm_up Q11 63 2 (some 68)) = X → EE (d + 3) 97 107 [some (.ref 2), some (vi 2)] [] (TS L 68) (mm_up (mm_up J 64 1 (-1)) 66 1 (-1)) K R11 = X := by
    intro X hX
    have s2 : (TS L 68)[2]? = some (10, 10) := rfl
    have s63 : (TS L 68)[63]? = some (23, 6) := rfl
    have u68 : (TS L 69)[68]? = some (7, 3) := rfl
    have u63 : (TS L 70)[63]? = some (23, 6) := rfl
    have v68 : (TS L 70)[68]? = some (7, 3) := rfl
    simp (disch := first | assumption | omega | exact bi_lo | exact bi_hi | exact bi_01 | exact jcmp_lo | exact jcmp_hi | exact (jor_r _ _).1 | exact (jor_r _ _).2 | exact (jand_r _ _).1 | exact (jand_r _ _).2) only [x97_107, x97_108, x97_109, x97_112, x97_112l, x97_112a, x97_113, kb_some, kb_none, clr_vi, clr_ref, clr_null, clr_none, va_rf_some, va_rf_none, ↓bi_ite_t, ↓bi_ite_f, ↓jc_lt_t, ↓jc_lt_f, ↓jc_gt_t, ↓jc_gt_f, ↓jc_le_t, ↓jc_le_f, ↓jc_ge_t, ↓jc_ge_f, ↓jc_eq_t, ↓jc_eq_f, ↓if_pos, ↓if_neg, g11_9]
    simp (disch := first | assumption | omega | exact bi_lo | exact bi_hi | exact bi_01 | exact jcmp_lo | exact jcmp_hi | exact (jor_r _ _).1 | exact (jor_r _ _).2 | exact (jand_r _ _).1 | exact (jand_r _ _).2) only [x97_116, x97_117, x97_120, x97_121, x97_124, x97_125, x97_128, x97_129, x97_132, kb_some, kb_none, clr_vi, clr_ref, clr_null, clr_none, va_rf_some, va_rf_none, ↓bi_ite_t, ↓bi_ite_f, ↓jc_lt_t, ↓jc_lt_f, ↓jc_gt_t, ↓jc_gt_f, ↓jc_le_t, ↓jc_le_f, ↓jc_ge_t, ↓jc_ge_f, ↓jc_eq_t, ↓jc_eq_f, ↓if_pos, ↓if_neg, g11_9, Int.reduceToNat, Int.reduceAdd, tl_68, tk_68, jf11, kf11, rf11, q11]
    exact hX
  have e11 : EE (d + 3) 97 107 [some (.ref 2), some (vi 2)] [] (TS L 68) (mm_up (mm_up J 64 1 (-1)) 66 1 (-1)) K R11 = EE (d + 3) 97 107 [some (.ref 2), some (vi 3)] [] (TS L 70) (mm_up (mm_up (mm_up J 64 1 (-1)) 66 1 (-1)) 68 1 (-1)) K (mm_up Q11 63 2 (some 68)) := go11 _ rfl
  obtain ⟨R12, hR12⟩ : ∃ X, X = mm_up Q11 63 2 (some 68) := ⟨_, rfl⟩
  rw [← hR12] at e11 c12
  have g12_0 : R12 2 0 = some 3 := (congrFun (congrFun hR12 2) _).trans ((congrFun (up_nR (by decide)) _).trans ((congrFun (w11.1 2 (by decide) (by decide)) _).trans g11_0))
  have g12_1 : R12 2 1 = some 15 := (congrFun (congrFun hR12 2) _).trans ((congrFun (up_nR (by decide)) _).trans ((congrFun (w11.1 2 (by decide) (by decide)) _).trans g11_1))
  have g12_3 : R12 2 3 = some 27 := (congrFun (congrFun hR12 2) _).trans ((congrFun (up_nR (by decide)) _).trans ((congrFun (w11.1 2 (by decide) (by decide)) _).trans g11_3))
  have g12_4 : R12 2 4 = some 29 := (congrFun (congrFun hR12 2) _).trans ((congrFun (up_nR (by decide)) _).trans ((congrFun (w11.1 2 (by decide) (by decide)) _).trans g11_4))
  have g12_5 : R12 2 5 = some 31 := (congrFun (congrFun hR12 2) _).trans ((congrFun (up_nR (by decide)) _).trans ((congrFun (w11.1 2 (by decide) (by decide)) _).trans g11_5))
  have g12_6 : R12 2 6 = some 46 := (congrFun (congrFun hR12 2) _).trans ((congrFun (up_nR (by decide)) _).trans ((congrFun (w11.1 2 (by decide) (by decide)) _).trans g11_6))
  have g12_7 : R12 2 7 = some 57 := (congrFun (congrFun hR12 2) _).trans ((congrFun (up_nR (by decide)) _).trans ((congrFun (w11.1 2 (by decide) (by decide)) _).trans g11_7))
  have g12_8 : R12 2 8 = some 60 := (congrFun (congrFun hR12 2) _).trans ((congrFun (up_nR (by decide)) _).trans ((congrFun (w11.1 2 (by decide) (by decide)) _).trans g11_8))
  have g12_9 : R12 2 9 = some 63 := (congrFun (congrFun hR12 2) _).trans ((congrFun (up_nR (by decide)) _).trans ((congrFun (w11.1 2 (by decide) (by decide)) _).trans g11_9))
  have p12_0 : R12 63 0 = some 64 := (congrFun (congrFun hR12 63) _).trans ((up_j (by decide)).trans ((congrFun (w11.1 63 (by decide) (by decide)) _).trans p11_0))
  have p12_1 : R12 63 1 = some 66 := (congrFun (congrFun hR12 63) _).trans ((up_j (by decide)).trans ((congrFun (w11.1 63 (by decide) (by decide)) _).trans p11_1))
  have p12_2 : R12 63 2 = some 68 := (congrFun (congrFun hR12 63) _).trans up_s
  have jf12 := (fr_rw0 c12.1).1
  have kf12 := (fr_rw0 c12.1).2.1
  have rf12 := (fr_rw0 c12.1).2.2
  obtain ⟨Q12, q12, w12⟩ := ct_3 (L := L) (d := d + 2) (J := mm_up (mm_up (mm_up J 64 1 (-1)) 66 1 (-1)) 68 1 (-1)) (K := K) (R := R12) (FRS_1 c12.1)
  have c13 := CS_tape (f := 3) c12 w12 (by omega) (by omega) (by omega) (by omega)
  have go12 : ∀ X, EE (d + 3) 97 107 [some (.ref 2), some (vi 4)] [] (TS L 72) (mm_up (mm_up (mm_up (mm_up J 64 1 (-1)) 66 1 (-1)) 68 1 (-1)) 70 1 (-1)) K (mm_up Q12 63 3 (some 70)) = X → EE (d + 3) 97 107 [some (.ref 2), some (vi 3)] [] (TS L 70) (mm_up (mm_up (mm_up J 64 1 (-1)) 66 1 (-1)) 68 1 (-1)) K R12 = X := by
    intro X hX
    have s2 : (TS L 70)[2]? = some (10, 10) := rfl
    have s63 : (TS L 70)[63]? = some (23, 6) := rfl
    have u70 : (TS L 71)[70]? = some (7, 3) := rfl
    have u63 : (TS L 72)[63]? = some (23, 6) := rfl
    have v70 : (TS L 72)[70]? = some (7, 3) := rfl
    simp (disch := first | assumption | omega | exact bi_lo | exact bi_hi | exact bi_01 | exact jcmp_lo | exact jcmp_hi | exact (jor_r _ _).1 | exact (jor_r _ _).2 | exact (jand_r _ _).1 | exact (jand_r _ _).2) only [x97_107, x97_108, x97_109, x97_112, x97_112l, x97_112a, x97_113, kb_some, kb_none, clr_vi, clr_ref, clr_null, clr_none, va_rf_some, va_rf_none, ↓bi_ite_t, ↓bi_ite_f, ↓jc_lt_t, ↓jc_lt_f, ↓jc_gt_t, ↓jc_gt_f, ↓jc_le_t, ↓jc_le_f, ↓jc_ge_t, ↓jc_ge_f, ↓jc_eq_t, ↓jc_eq_f, ↓if_pos, ↓if_neg, g12_9]
    simp (disch := first | assumption | omega | exact bi_lo | exact bi_hi | exact bi_01 | exact jcmp_lo | exact jcmp_hi | exact (jor_r _ _).1 | exact (jor_r _ _).2 | exact (jand_r _ _).1 | exact (jand_r _ _).2) only [x97_116, x97_117, x97_120, x97_121, x97_124, x97_125, x97_128, x97_129, x97_132, kb_some, kb_none, clr_vi, clr_ref, clr_null, clr_none, va_rf_some, va_rf_none, ↓bi_ite_t, ↓bi_ite_f, ↓jc_lt_t, ↓jc_lt_f, ↓jc_gt_t, ↓jc_gt_f, ↓jc_le_t, ↓jc_le_f, ↓jc_ge_t, ↓jc_ge_f, ↓jc_eq_t, ↓jc_eq_f, ↓if_pos, ↓if_neg, g12_9, Int.reduceToNat, Int.reduceAdd, tl_70, tk_70, jf12, kf12, rf12, q12]
    exact hX
  have e12 : EE (d + 3) 97 107 [some (.ref 2), some (vi 3)] [] (TS L 70) (mm_up (mm_up (mm_up J 64 1 (-1)) 66 1 (-1)) 68 1 (-1)) K R12 = EE (d + 3) 97 107 [some (.ref 2), some (vi 4)] [] (TS L 72) (mm_up (mm_up (mm_up (mm_up J 64 1 (-1)) 66 1 (-1)) 68 1 (-1)) 70 1 (-1)) K (mm_up Q12 63 3 (some 70)) := go12 _ rfl
  obtain ⟨R13, hR13⟩ : ∃ X, X = mm_up Q12 63 3 (some 70) := ⟨_, rfl⟩
  rw [← hR13] at e12 c13
  have g13_0 : R13 2 0 = some 3 := (congrFun (congrFun hR13 2) _).trans ((congrFun (up_nR (by decide)) _).trans ((congrFun (w12.1 2 (by decide) (by decide)) _).trans g12_0))
  have g13_1 : R13 2 1 = some 15 := (congrFun (congrFun hR13 2) _).trans ((congrFun (up_nR (by decide)) _).trans ((congrFun (w12.1 2 (by decide) (by decide)) _).trans g12_1))
  have g13_3 : R13 2 3 = some 27 := (congrFun (congrFun hR13 2) _).trans ((congrFun (up_nR (by decide)) _).trans ((congrFun (w12.1 2 (by decide) (by decide)) _).trans g12_3))
  have g13_4 : R13 2 4 = some 29 := (congrFun (congrFun hR13 2) _).trans ((congrFun (up_nR (by decide)) _).trans ((congrFun (w12.1 2 (by decide) (by decide)) _).trans g12_4))
  have g13_5 : R13 2 5 = some 31 := (congrFun (congrFun hR13 2) _).trans ((congrFun (up_nR (by decide)) _).trans ((congrFun (w12.1 2 (by decide) (by decide)) _).trans g12_5))
  have g13_6 : R13 2 6 = some 46 := (congrFun (congrFun hR13 2) _).trans ((congrFun (up_nR (by decide)) _).trans ((congrFun (w12.1 2 (by decide) (by decide)) _).trans g12_6))
  have g13_7 : R13 2 7 = some 57 := (congrFun (congrFun hR13 2) _).trans ((congrFun (up_nR (by decide)) _).trans ((congrFun (w12.1 2 (by decide) (by decide)) _).trans g12_7))
  have g13_8 : R13 2 8 = some 60 := (congrFun (congrFun hR13 2) _).trans ((congrFun (up_nR (by decide)) _).trans ((congrFun (w12.1 2 (by decide) (by decide)) _).trans g12_8))
  have g13_9 : R13 2 9 = some 63 := (congrFun (congrFun hR13 2) _).trans ((congrFun (up_nR (by decide)) _).trans ((congrFun (w12.1 2 (by decide) (by decide)) _).trans g12_9))
  have p13_0 : R13 63 0 = some 64 := (congrFun (congrFun hR13 63) _).trans ((up_j (by decide)).trans ((congrFun (w12.1 63 (by decide) (by decide)) _).trans p12_0))
  have p13_1 : R13 63 1 = some 66 := (congrFun (congrFun hR13 63) _).trans ((up_j (by decide)).trans ((congrFun (w12.1 63 (by decide) (by decide)) _).trans p12_1))
  have p13_2 : R13 63 2 = some 68 := (congrFun (congrFun hR13 63) _).trans ((up_j (by decide)).trans ((congrFun (w12.1 63 (by decide) (by decide)) _).trans p12_2))
  have p13_3 : R13 63 3 = some 70 := (congrFun (congrFun hR13 63) _).trans up_s
  have jf13 := (fr_rw0 c13.1).1
  have kf13 := (fr_rw0 c13.1).2.1
  have rf13 := (fr_rw0 c13.1).2.2
  obtain ⟨Q13, q13, w13⟩ := ct_4 (L := L) (d := d + 2) (J := mm_up (mm_up (mm_up (mm_up J 64 1 (-1)) 66 1 (-1)) 68 1 (-1)) 70 1 (-1)) (K := K) (R := R13) (FRS_1 c13.1)
  have c14 := CS_tape (f := 4) c13 w13 (by omega) (by omega) (by omega) (by omega)
  have go13 : ∀ X, EE (d + 3) 97 107 [some (.ref 2), some (vi 5)] [] (TS L 74) (mm_up (mm_up (mm_up (mm_up (mm_up J 64 1 (-1)) 66 1 (-1)) 68 1 (-1)) 70 1 (-1)) 72 1 (-1)) K (mm_up Q13 63 4 (some 72)) = X → EE (d + 3) 97 107 [some (.ref 2), some (vi 4)] [] (TS L 72) (mm_up (mm_up (mm_up (mm_up J 64 1 (-1)) 66 1 (-1)) 68 1 (-1)) 70 1 (-1)) K R13 = X := by
    intro X hX
    have s2 : (TS L 72)[2]? = some (10, 10) := rfl
    have s63 : (TS L 72)[63]? = some (23, 6) := rfl
    have u72 : (TS L 73)[72]? = some (7, 3) := rfl
    have u63 : (TS L 74)[63]? = some (23, 6) := rfl
    have v72 : (TS L 74)[72]? = some (7, 3) := rfl
    simp (disch := first | assumption | omega | exact bi_lo | exact bi_hi | exact bi_01 | exact jcmp_lo | exact jcmp_hi | exact (jor_r _ _).1 | exact (jor_r _ _).2 | exact (jand_r _ _).1 | exact (jand_r _ _).2) only [x97_107, x97_108, x97_109, x97_112, x97_112l, x97_112a, x97_113, kb_some, kb_none, clr_vi, clr_ref, clr_null, clr_none, va_rf_some, va_rf_none, ↓bi_ite_t, ↓bi_ite_f, ↓jc_lt_t, ↓jc_lt_f, ↓jc_gt_t, ↓jc_gt_f, ↓jc_le_t, ↓jc_le_f, ↓jc_ge_t, ↓jc_ge_f, ↓jc_eq_t, ↓jc_eq_f, ↓if_pos, ↓if_neg, g13_9]
    simp (disch := first | assumption | omega | exact bi_lo | exact bi_hi | exact bi_01 | exact jcmp_lo | exact jcmp_hi | exact (jor_r _ _).1 | exact (jor_r _ _).2 | exact (jand_r _ _).1 | exact (jand_r _ _).2) only [x97_116, x97_117, x97_120, x97_121, x97_124, x97_125, x97_128, x97_129, x97_132, kb_some, kb_none, clr_vi, clr_ref, clr_null, clr_none, va_rf_some, va_rf_none, ↓bi_ite_t, ↓bi_ite_f, ↓jc_lt_t, ↓jc_lt_f, ↓jc_gt_t, ↓jc_gt_f, ↓jc_le_t, ↓jc_le_f, ↓jc_ge_t, ↓jc_ge_f, ↓jc_eq_t, ↓jc_eq_f, ↓if_pos, ↓if_neg, g13_9, Int.reduceToNat, Int.reduceAdd, tl_72, tk_72, jf13, kf13, rf13, q13]
    exact hX
  have e13 : EE (d + 3) 97 107 [some (.ref 2), some (vi 4)] [] (TS L 72) (mm_up (mm_up (mm_up (mm_up J 64 1 (-1)) 66 1 (-1)) 68 1 (-1)) 70 1 (-1)) K R13 = EE (d + 3) 97 107 [some (.ref 2), some (vi 5)] [] (TS L 74) (mm_up (mm_up (mm_up (mm_up (mm_up J 64 1 (-1)) 66 1 (-1)) 68 1 (-1)) 70 1 (-1)) 72 1 (-1)) K (mm_up Q13 63 4 (some 72)) := go13 _ rfl
  obtain ⟨R14, hR14⟩ : ∃ X, X = mm_up Q13 63 4 (some 72) := ⟨_, rfl⟩
  rw [← hR14] at e13 c14
  have g14_0 : R14 2 0 = some 3 := (congrFun (congrFun hR14 2) _).trans ((congrFun (up_nR (by decide)) _).trans ((congrFun (w13.1 2 (by decide) (by decide)) _).trans g13_0))
  have g14_1 : R14 2 1 = some 15 := (congrFun (congrFun hR14 2) _).trans ((congrFun (up_nR (by decide)) _).trans ((congrFun (w13.1 2 (by decide) (by decide)) _).trans g13_1))
  have g14_3 : R14 2 3 = some 27 := (congrFun (congrFun hR14 2) _).trans ((congrFun (up_nR (by decide)) _).trans ((congrFun (w13.1 2 (by decide) (by decide)) _).trans g13_3))
  have g14_4 : R14 2 4 = some 29 := (congrFun (congrFun hR14 2) _).trans ((congrFun (up_nR (by decide)) _).trans ((congrFun (w13.1 2 (by decide) (by decide)) _).trans g13_4))
  have g14_5 : R14 2 5 = some 31 := (congrFun (congrFun hR14 2) _).trans ((congrFun (up_nR (by decide)) _).trans ((congrFun (w13.1 2 (by decide) (by decide)) _).trans g13_5))
  have g14_6 : R14 2 6 = some 46 := (congrFun (congrFun hR14 2) _).trans ((congrFun (up_nR (by decide)) _).trans ((congrFun (w13.1 2 (by decide) (by decide)) _).trans g13_6))
  have g14_7 : R14 2 7 = some 57 := (congrFun (congrFun hR14 2) _).trans ((congrFun (up_nR (by decide)) _).trans ((congrFun (w13.1 2 (by decide) (by decide)) _).trans g13_7))
  have g14_8 : R14 2 8 = some 60 := (congrFun (congrFun hR14 2) _).trans ((congrFun (up_nR (by decide)) _).trans ((congrFun (w13.1 2 (by decide) (by decide)) _).trans g13_8))
  have g14_9 : R14 2 9 = some 63 := (congrFun (congrFun hR14 2) _).trans ((congrFun (up_nR (by decide)) _).trans ((congrFun (w13.1 2 (by decide) (by decide)) _).trans g13_9))
  have p14_0 : R14 63 0 = some 64 := (congrFun (congrFun hR14 63) _).trans ((up_j (by decide)).trans ((congrFun (w13.1 63 (by decide) (by decide)) _).trans p13_0))
  have p14_1 : R14 63 1 = some 66 := (congrFun (congrFun hR14 63) _).trans ((up_j (by decide)).trans ((congrFun (w13.1 63 (by decide) (by decide)) _).trans p13_1))
  have p14_2 : R14 63 2 = some 68 := (congrFun (congrFun hR14 63) _).trans ((up_j (by decide)).trans ((congrFun (w13.1 63 (by decide) (by decide)) _).trans p13_2))
  have p14_3 : R14 63 3 = some 70 := (congrFun (congrFun hR14 63) _).trans ((up_j (by decide)).trans ((congrFun (w13.1 63 (by decide) (by decide)) _).trans p13_3))
  have p14_4 : R14 63 4 = some 72 := (congrFun (congrFun hR14 63) _).trans up_s
  have jf14 := (fr_rw0 c14.1).1
  have kf14 := (fr_rw0 c14.1).2.1
  have rf14 := (fr_rw0 c14.1).2.2
  obtain ⟨Q14, q14, w14⟩ := ct_5 (L := L) (d := d + 2) (J := mm_up (mm_up (mm_up (mm_up (mm_up J 64 1 (-1)) 66 1 (-1)) 68 1 (-1)) 70 1 (-1)) 72 1 (-1)) (K := K) (R := R14) (FRS_1 c14.1)
  have c15 := CS_tape (f := 5) c14 w14 (by omega) (by omega) (by omega) (by omega)
  have go14 : ∀ X, EE (d + 3) 97 107 [some (.ref 2), some (vi 6)] [] (TS L 76) (mm_up (mm_up (mm_up (mm_up (mm_up (mm_up J 64 1 (-1)) 66 1 (-1)) 68 1 (-1)) 70 1 (-1)) 72 1 (-1)) 74 1 (-1)) K (mm_up Q14 63 5 (some 74)) = X → EE (d + 3) 97 107 [some (.ref 2), some (vi 5)] [] (TS L 74) (mm_up (mm_up (mm_up (mm_up (mm_up J 64 1 (-1)) 66 1 (-1)) 68 1 (-1)) 70 1 (-1)) 72 1 (-1)) K R14 = X := by
    intro X hX
    have s2 : (TS L 74)[2]? = some (10, 10) := rfl
    have s63 : (TS L 74)[63]? = some (23, 6) := rfl
    have u74 : (TS L 75)[74]? = some (7, 3) := rfl
    have u63 : (TS L 76)[63]? = some (23, 6) := rfl
    have v74 : (TS L 76)[74]? = some (7, 3) := rfl
    simp (disch := first | assumption | omega | exact bi_lo | exact bi_hi | exact bi_01 | exact jcmp_lo | exact jcmp_hi | exact (jor_r _ _).1 | exact (jor_r _ _).2 | exact (jand_r _ _).1 | exact (jand_r _ _).2) only [x97_107, x97_108, x97_109, x97_112, x97_112l, x97_112a, x97_113, kb_some, kb_none, clr_vi, clr_ref, clr_null, clr_none, va_rf_some, va_rf_none, ↓bi_ite_t, ↓bi_ite_f, ↓jc_lt_t, ↓jc_lt_f, ↓jc_gt_t, ↓jc_gt_f, ↓jc_le_t, ↓jc_le_f, ↓jc_ge_t, ↓jc_ge_f, ↓jc_eq_t, ↓jc_eq_f, ↓if_pos, ↓if_neg, g14_9]
    simp (disch := first | assumption | omega | exact bi_lo | exact bi_hi | exact bi_01 | exact jcmp_lo | exact jcmp_hi | exact (jor_r _ _).1 | exact (jor_r _ _).2 | exact (jand_r _ _).1 | exact (jand_r _ _).2) only [x97_116, x97_117, x97_120, x97_121, x97_124, x97_125, x97_128, x97_129, x97_132, kb_some, kb_none, clr_vi, clr_ref, clr_null, clr_none, va_rf_some, va_rf_none, ↓bi_ite_t, ↓bi_ite_f, ↓jc_lt_t, ↓jc_lt_f, ↓jc_gt_t, ↓jc_gt_f, ↓jc_le_t, ↓jc_le_f, ↓jc_ge_t, ↓jc_ge_f, ↓jc_eq_t, ↓jc_eq_f, ↓if_pos, ↓if_neg, g14_9, Int.reduceToNat, Int.reduceAdd, tl_74, tk_74, jf14, kf14, rf14, q14]
    exact hX
  have e14 : EE (d + 3) 97 107 [some (.ref 2), some (vi 5)] [] (TS L 74) (mm_up (mm_up (mm_up (mm_up (mm_up J 64 1 (-1)) 66 1 (-1)) 68 1 (-1)) 70 1 (-1)) 72 1 (-1)) K R14 = EE (d + 3) 97 107 [some (.ref 2), some (vi 6)] [] (TS L 76) (mm_up (mm_up (mm_up (mm_up (mm_up (mm_up J 64 1 (-1)) 66 1 (-1)) 68 1 (-1)) 70 1 (-1)) 72 1 (-1)) 74 1 (-1)) K (mm_up Q14 63 5 (some 74)) := go14 _ rfl
  obtain ⟨R15, hR15⟩ : ∃ X, X = mm_up Q14 63 5 (some 74) := ⟨_, rfl⟩
  rw [← hR15] at e14 c15
  have g15_0 : R15 2 0 = some 3 := (congrFun (congrFun hR15 2) _).trans ((congrFun (up_nR (by decide)) _).trans ((congrFun (w14.1 2 (by decide) (by decide)) _).trans g14_0))
  have g15_1 : R15 2 1 = some 15 := (congrFun (congrFun hR15 2) _).trans ((congrFun (up_nR (by decide)) _).trans ((congrFun (w14.1 2 (by decide) (by decide)) _).trans g14_1))
  have g15_3 : R15 2 3 = some 27 := (congrFun (congrFun hR15 2) _).trans ((congrFun (up_nR (by decide)) _).trans ((congrFun (w14.1 2 (by decide) (by decide)) _).trans g14_3))
  have g15_4 : R15 2 4 = some 29 := (congrFun (congrFun hR15 2) _).trans ((congrFun (up_nR (by decide)) _).trans ((congrFun (w14.1 2 (by decide) (by decide)) _).trans g14_4))
  have g15_5 : R15 2 5 = some 31 := (congrFun (congrFun hR15 2) _).trans ((congrFun (up_nR (by decide)) _).trans ((congrFun (w14.1 2 (by decide) (by decide)) _).trans g14_5))
  have g15_6 : R15 2 6 = some 46 := (congrFun (congrFun hR15 2) _).trans ((congrFun (up_nR (by decide)) _).trans ((congrFun (w14.1 2 (by decide) (by decide)) _).trans g14_6))
  have g15_7 : R15 2 7 = some 57 := (congrFun (congrFun hR15 2) _).trans ((congrFun (up_nR (by decide)) _).trans ((congrFun (w14.1 2 (by decide) (by decide)) _).trans g14_7))
  have g15_8 : R15 2 8 = some 60 := (congrFun (congrFun hR15 2) _).trans ((congrFun (up_nR (by decide)) _).trans ((congrFun (w14.1 2 (by decide) (by decide)) _).trans g14_8))
  have g15_9 : R15 2 9 = some 63 := (congrFun (congrFun hR15 2) _).trans ((congrFun (up_nR (by decide)) _).trans ((congrFun (w14.1 2 (by decide) (by decide)) _).trans g14_9))
  have p15_0 : R15 63 0 = some 64 := (congrFun (congrFun hR15 63) _).trans ((up_j (by decide)).trans ((congrFun (w14.1 63 (by decide) (by decide)) _).trans p14_0))
  have p15_1 : R15 63 1 = some 66 := (congrFun (congrFun hR15 63) _).trans ((up_j (by decide)).trans ((congrFun (w14.1 63 (by decide) (by decide)) _).trans p14_1))
  have p15_2 : R15 63 2 = some 68 := (congrFun (congrFun hR15 63) _).trans ((up_j (by decide)).trans ((congrFun (w14.1 63 (by decide) (by decide)) _).trans p14_2))
  have p15_3 : R15 63 3 = some 70 := (congrFun (congrFun hR15 63) _).trans ((up_j (by decide)).trans ((congrFun (w14.1 63 (by decide) (by decide)) _).trans p14_3))
  have p15_4 : R15 63 4 = some 72 := (congrFun (congrFun hR15 63) _).trans ((up_j (by decide)).trans ((congrFun (w14.1 63 (by decide) (by decide)) _).trans p14_4))
  have p15_5 : R15 63 5 = some 74 := (congrFun (congrFun hR15 63) _).trans up_s
  have hp : PR 2 R15 := by
    intro j q h
    match j, h with
    | 0, h => exact (g15_0).trans h
    | 1, h => exact (g15_1).trans h
    | 2, h => exact nomatch (show (none : Option Nat) = some q from h)
    | 3, h => exact (g15_3).trans h
    | 4, h => exact (g15_4).trans h
    | 5, h => exact (g15_5).trans h
    | 6, h => exact (g15_6).trans h
    | 7, h => exact (g15_7).trans h
    | 8, h => exact (g15_8).trans h
    | 9, h => exact (g15_9).trans h
    | j + 10, h => exact nomatch (show (none : Option Nat) = some q from h)
  have hq : PR 63 R15 := by
    intro j q h
    match j, h with
    | 0, h => exact (p15_0).trans h
    | 1, h => exact (p15_1).trans h
    | 2, h => exact (p15_2).trans h
    | 3, h => exact (p15_3).trans h
    | 4, h => exact (p15_4).trans h
    | 5, h => exact (p15_5).trans h
    | j + 6, h => exact nomatch (show (none : Option Nat) = some q from h)
  refine ⟨R15, ?_, CS_ICx c15 hp hq⟩
  simp (disch := first | assumption | omega | exact bi_lo | exact bi_hi | exact bi_01 | exact jcmp_lo | exact jcmp_hi | exact (jor_r _ _).1 | exact (jor_r _ _).2 | exact (jand_r _ _).1 | exact (jand_r _ _).2) only [x97_0, x97_1, kb_some, kb_none, clr_vi, clr_ref, clr_null, clr_none, va_rf_some, va_rf_none, ↓bi_ite_t, ↓bi_ite_f, ↓jc_lt_t, ↓jc_lt_f, ↓jc_gt_t, ↓jc_gt_f, ↓jc_le_t, ↓jc_le_f, ↓jc_ge_t, ↓jc_ge_f, ↓jc_eq_t, ↓jc_eq_f, ↓if_pos, ↓if_neg]
  rw [e0, e1, e2, e3, e4, e5, e6, e7, e8, e9, e10, e11, e12, e13, e14]
  have s2 : (TS L 76)[2]? = some (10, 10) := rfl
  have s63 : (TS L 76)[63]? = some (23, 6) := rfl
  simp (disch := first | assumption | omega | exact bi_lo | exact bi_hi | exact bi_01 | exact jcmp_lo | exact jcmp_hi | exact (jor_r _ _).1 | exact (jor_r _ _).2 | exact (jand_r _ _).1 | exact (jand_r _ _).2) only [x97_107, x97_108, x97_109, x97_112, x97_112l, x97_112a, x97_113, x97_135, kb_some, kb_none, clr_vi, clr_ref, clr_null, clr_none, va_rf_some, va_rf_none, ↓bi_ite_t, ↓bi_ite_f, ↓jc_lt_t, ↓jc_lt_f, ↓jc_gt_t, ↓jc_gt_f, ↓jc_le_t, ↓jc_le_f, ↓jc_ge_t, ↓jc_ge_f, ↓jc_eq_t, ↓jc_eq_f, ↓if_pos, ↓if_neg, g15_9]
theorem ci_model (h : FRS 77 J K R) : ∃ R', EE d 138 0 [some (.ref 76)] [] (TS L 77) J K R = ok none (TS L 110) (mm_up J 76 11 0) K R' ∧ IC 76 77 110 J K R R' := by
  have c0 : CS 76 77 77 0 J K R R := CS_0 h
  have jf0 := (fr_rw0 c0.1).1
  have kf0 := (fr_rw0 c0.1).2.1
  have rf0 := (fr_rw0 c0.1).2.2
  have c1 := CS_arr (f := 0) c0 (by omega) (by omega) R0_77
  have e0 : EE d 138 4 [some (.ref 76)] [] (TS L 77) J K R = EE d 138 12 [some (.ref 76)] [] (TS L 78) J K (mm_up R 76 0 (some 77)) := by
    have s76 : (TS L 78)[76]? = some (11, 58) := rfl
    simp (disch := first | assumption | omega | exact bi_lo | exact bi_hi | exact bi_01 | exact jcmp_lo | exact jcmp_hi | exact (jor_r _ _).1 | exact (jor_r _ _).2 | exact (jand_r _ _).1 | exact (jand_r _ _).2) only [x138_4, x138_5, x138_7, x138_9, kb_some, kb_none, clr_vi, clr_ref, clr_null, clr_none, va_rf_some, va_rf_none, ↓bi_ite_t, ↓bi_ite_f, ↓jc_lt_t, ↓jc_lt_f, ↓jc_gt_t, ↓jc_gt_f, ↓jc_le_t, ↓jc_le_f, ↓jc_ge_t, ↓jc_ge_f, ↓jc_eq_t, ↓jc_eq_f, ↓if_pos, ↓if_neg, Int.reduceToNat, tl_77, tk_77, jf0, kf0, rf0]
  obtain ⟨R1, hR1⟩ : ∃ X, X = mm_up R 76 0 (some 77) := ⟨_, rfl⟩
  rw [← hR1] at e0 c1
  have g1_0 : R1 76 0 = some 77 := (congrFun (congrFun hR1 76) _).trans up_s
  have jf1 := (fr_rw0 c1.1).1
  have kf1 := (fr_rw0 c1.1).2.1
  have rf1 := (fr_rw0 c1.1).2.2
  have c2 := CS_arr (f := 3) c1 (by omega) (by omega) R0_78
  have e1 : EE d 138 12 [some (.ref 76)] [] (TS L 78) J K R1 = EE d 138 19 [some (.ref 76)] [] (TS L 79) J K (mm_up R1 76 3 (some 78)) := by
    have s76 : (TS L 79)[76]? = some (11, 58) := rfl
    simp (disch := first | assumption | omega | exact bi_lo | exact bi_hi | exact bi_01 | exact jcmp_lo | exact jcmp_hi | exact (jor_r _ _).1 | exact (jor_r _ _).2 | exact (jand_r _ _).1 | exact (jand_r _ _).2) only [x138_12, x138_13, x138_14, x138_16, kb_some, kb_none, clr_vi, clr_ref, clr_null, clr_none, va_rf_some, va_rf_none, ↓bi_ite_t, ↓bi_ite_f, ↓jc_lt_t, ↓jc_lt_f, ↓jc_gt_t, ↓jc_gt_f, ↓jc_le_t, ↓jc_le_f, ↓jc_ge_t, ↓jc_ge_f, ↓jc_eq_t, ↓jc_eq_f, ↓if_pos, ↓if_neg, Int.reduceToNat, tl_78, tk_78, jf1, kf1, rf1]
  obtain ⟨R2, hR2⟩ : ∃ X, X = mm_up R1 76 3 (some 78) := ⟨_, rfl⟩
  rw [← hR2] at e1 c2
  have g2_0 : R2 76 0 = some 77 := (congrFun (congrFun hR2 76) _).trans ((up_j (by decide)).trans g1_0)
  have g2_3 : R2 76 3 = some 78 := (congrFun (congrFun hR2 76) _).trans up_s
  have jf2 := (fr_rw0 c2.1).1
  have kf2 := (fr_rw0 c2.1).2.1
  have rf2 := (fr_rw0 c2.1).2.2
  have c3 := CS_arr (f := 4) c2 (by omega) (by omega) R0_79
  have e2 : EE d 138 19 [some (.ref 76)] [] (TS L 79) J K R2 = EE d 138 26 [some (.ref 76)] [] (TS L 80) J K (mm_up R2 76 4 (some 79)) := by
    have s76 : (TS L 80)[76]? = some (11, 58) := rfl
    simp (disch := first | assumption | omega | exact bi_lo | exact bi_hi | exact bi_01 | exact jcmp_lo | exact jcmp_hi | exact (jor_r _ _).1 | exact (jor_r _ _).2 | exact (jand_r _ _).1 | exact (jand_r _ _).2) only [x138_19, x138_20, x138_21, x138_23, kb_some, kb_none, clr_vi, clr_ref, clr_null, clr_none, va_rf_some, va_rf_none, ↓bi_ite_t, ↓bi_ite_f, ↓jc_lt_t, ↓jc_lt_f, ↓jc_gt_t, ↓jc_gt_f, ↓jc_le_t, ↓jc_le_f, ↓jc_ge_t, ↓jc_ge_f, ↓jc_eq_t, ↓jc_eq_f, ↓if_pos, ↓if_neg, Int.reduceToNat, tl_79, tk_79, jf2, kf2, rf2]
  obtain ⟨R3, hR3⟩ : ∃ X, X = mm_up R2 76 4 (some 79) := ⟨_, rfl⟩
  rw [← hR3] at e2 c3
  have g3_0 : R3 76 0 = some 77 := (congrFun (congrFun hR3 76) _).trans ((up_j (by decide)).trans g2_0)
  have g3_3 : R3 76 3 = some 78 := (congrFun (congrFun hR3 76) _).trans ((up_j (by decide)).trans g2_3)
  have g3_4 : R3 76 4 = some 79 := (congrFun (congrFun hR3 76) _).trans up_s
  have jf3 := (fr_rw0 c3.1).1
  have kf3 := (fr_rw0 c3.1).2.1
  have rf3 := (fr_rw0 c3.1).2.2
  have c4 := CS_arr (f := 6) c3 (by omega) (by omega) R0_80
  have e3 : EE d 138 26 [some (.ref 76)] [] (TS L 80) J K R3 = EE d 138 34 [some (.ref 76)] [] (TS L 81) J K (mm_up R3 76 6 (some 80)) := by
    have s76 : (TS L 81)[76]? = some (11, 58) := rfl
    simp (disch := first | assumption | omega | exact bi_lo | exact bi_hi | exact bi_01 | exact jcmp_lo | exact jcmp_hi | exact (jor_r _ _).1 | exact (jor_r _ _).2 | exact (jand_r _ _).1 | exact (jand_r _ _).2) only [x138_26, x138_27, x138_29, x138_31, kb_some, kb_none, clr_vi, clr_ref, clr_null, clr_none, va_rf_some, va_rf_none, ↓bi_ite_t, ↓bi_ite_f, ↓jc_lt_t, ↓jc_lt_f, ↓jc_gt_t, ↓jc_gt_f, ↓jc_le_t, ↓jc_le_f, ↓jc_ge_t, ↓jc_ge_f, ↓jc_eq_t, ↓jc_eq_f, ↓if_pos, ↓if_neg, Int.reduceToNat, tl_80, tk_80, jf3, kf3, rf3]
  obtain ⟨R4, hR4⟩ : ∃ X, X = mm_up R3 76 6 (some 80) := ⟨_, rfl⟩
  rw [← hR4] at e3 c4
  have g4_0 : R4 76 0 = some 77 := (congrFun (congrFun hR4 76) _).trans ((up_j (by decide)).trans g3_0)
  have g4_3 : R4 76 3 = some 78 := (congrFun (congrFun hR4 76) _).trans ((up_j (by decide)).trans g3_3)
  have g4_4 : R4 76 4 = some 79 := (congrFun (congrFun hR4 76) _).trans ((up_j (by decide)).trans g3_4)
  have g4_6 : R4 76 6 = some 80 := (congrFun (congrFun hR4 76) _).trans up_s
  have jf4 := (fr_rw0 c4.1).1
  have kf4 := (fr_rw0 c4.1).2.1
  have rf4 := (fr_rw0 c4.1).2.2
  have c5 := CS_arr (f := 7) c4 (by omega) (by omega) R0_81
  have e4 : EE d 138 34 [some (.ref 76)] [] (TS L 81) J K R4 = EE d 138 42 [some (.ref 76)] [] (TS L 82) J K (mm_up R4 76 7 (some 81)) := by
    have s76 : (TS L 82)[76]? = some (11, 58) := rfl
    simp (disch := first | assumption | omega | exact bi_lo | exact bi_hi | exact bi_01 | exact jcmp_lo | exact jcmp_hi | exact (jor_r _ _).1 | exact (jor_r _ _).2 | exact (jand_r _ _).1 | exact (jand_r _ _).2) only [x138_34, x138_35, x138_37, x138_39, kb_some, kb_none, clr_vi, clr_ref, clr_null, clr_none, va_rf_some, va_rf_none, ↓bi_ite_t, ↓bi_ite_f, ↓jc_lt_t, ↓jc_lt_f, ↓jc_gt_t, ↓jc_gt_f, ↓jc_le_t, ↓jc_le_f, ↓jc_ge_t, ↓jc_ge_f, ↓jc_eq_t, ↓jc_eq_f, ↓if_pos, ↓if_neg, Int.reduceToNat, tl_81, tk_81, jf4, kf4, rf4]
  obtain ⟨R5, hR5⟩ : ∃ X, X = mm_up R4 76 7 (some 81) := ⟨_, rfl⟩
  rw [← hR5] at e4 c5
  have g5_0 : R5 76 0 = some 77 := (congrFun (congrFun hR5 76) _).trans ((up_j (by decide)).trans g4_0)
  have g5_3 : R5 76 3 = some 78 := (congrFun (congrFun hR5 76) _).trans ((up_j (by decide)).trans g4_3)
  have g5_4 : R5 76 4 = some 79 := (congrFun (congrFun hR5 76) _).trans ((up_j (by decide)).trans g4_4)
  have g5_6 : R5 76 6 = some 80 := (congrFun (congrFun hR5 76) _).trans ((up_j (by decide)).trans g4_6)
  have g5_7 : R5 76 7 = some 81 := (congrFun (congrFun hR5 76) _).trans up_s
  have jf5 := (fr_rw0 c5.1).1
  have kf5 := (fr_rw0 c5.1).2.1
  have rf5 := (fr_rw0 c5.1).2.2
  have c6 := CS_arr (f := 9) c5 (by omega) (by omega) R0_82
  have e5 : EE d 138 42 [some (.ref 76)] [] (TS L 82) J K R5 = EE d 138 50 [some (.ref 76)] [] (TS L 83) J K (mm_up R5 76 9 (some 82)) := by
    have s76 : (TS L 83)[76]? = some (11, 58) := rfl
    simp (disch := first | assumption | omega | exact bi_lo | exact bi_hi | exact bi_01 | exact jcmp_lo | exact jcmp_hi | exact (jor_r _ _).1 | exact (jor_r _ _).2 | exact (jand_r _ _).1 | exact (jand_r _ _).2) only [x138_42, x138_43, x138_45, x138_47, kb_some, kb_none, clr_vi, clr_ref, clr_null, clr_none, va_rf_some, va_rf_none, ↓bi_ite_t, ↓bi_ite_f, ↓jc_lt_t, ↓jc_lt_f, ↓jc_gt_t, ↓jc_gt_f, ↓jc_le_t, ↓jc_le_f, ↓jc_ge_t, ↓jc_ge_f, ↓jc_eq_t, ↓jc_eq_f, ↓if_pos, ↓if_neg, Int.reduceToNat, tl_82, tk_82, jf5, kf5, rf5]
  obtain ⟨R6, hR6⟩ : ∃ X, X = mm_up R5 76 9 (some 82) := ⟨_, rfl⟩
  rw [← hR6] at e5 c6
  have g6_0 : R6 76 0 = some 77 := (congrFun (congrFun hR6 76) _).trans ((up_j (by decide)).trans g5_0)
  have g6_3 : R6 76 3 = some 78 := (congrFun (congrFun hR6 76) _).trans ((up_j (by decide)).trans g5_3)
  have g6_4 : R6 76 4 = some 79 := (congrFun (congrFun hR6 76) _).trans ((up_j (by decide)).trans g5_4)
  have g6_6 : R6 76 6 = some 80 := (congrFun (congrFun hR6 76) _).trans ((up_j (by decide)).trans g5_6)
  have g6_7 : R6 76 7 = some 81 := (congrFun (congrFun hR6 76) _).trans ((up_j (by decide)).trans g5_7)
  have g6_9 : R6 76 9 = some 82 := (congrFun (congrFun hR6 76) _).trans up_s
  have jf6 := (fr_rw0 c6.1).1
  have kf6 := (fr_rw0 c6.1).2.1
  have rf6 := (fr_rw0 c6.1).2.2
  have c7 := CS_arr (f := 10) c6 (by omega) (by omega) R0_83
  have e6 : EE d 138 50 [some (.ref 76)] [] (TS L 83) J K R6 = EE d 138 58 [some (.ref 76)] [] (TS L 84) J K (mm_up R6 76 10 (some 83)) := by
    have s76 : (TS L 84)[76]? = some (11, 58) := rfl
    simp (disch := first | assumption | omega | exact bi_lo | exact bi_hi | exact bi_01 | exact jcmp_lo | exact jcmp_hi | exact (jor_r _ _).1 | exact (jor_r _ _).2 | exact (jand_r _ _).1 | exact (jand_r _ _).2) only [x138_50, x138_51, x138_53, x138_55, kb_some, kb_none, clr_vi, clr_ref, clr_null, clr_none, va_rf_some, va_rf_none, ↓bi_ite_t, ↓bi_ite_f, ↓jc_lt_t, ↓jc_lt_f, ↓jc_gt_t, ↓jc_gt_f, ↓jc_le_t, ↓jc_le_f, ↓jc_ge_t, ↓jc_ge_f, ↓jc_eq_t, ↓jc_eq_f, ↓if_pos, ↓if_neg, Int.reduceToNat, tl_83, tk_83, jf6, kf6, rf6]
  obtain ⟨R7, hR7⟩ : ∃ X, X = mm_up R6 76 10 (some 83) := ⟨_, rfl⟩
  rw [← hR7] at e6 c7
  have g7_0 : R7 76 0 = some 77 := (congrFun (congrFun hR7 76) _).trans ((up_j (by decide)).trans g6_0)
  have g7_3 : R7 76 3 = some 78 := (congrFun (congrFun hR7 76) _).trans ((up_j (by decide)).trans g6_3)
  have g7_4 : R7 76 4 = some 79 := (congrFun (congrFun hR7 76) _).trans ((up_j (by decide)).trans g6_4)
  have g7_6 : R7 76 6 = some 80 := (congrFun (congrFun hR7 76) _).trans ((up_j (by decide)).trans g6_6)
  have g7_7 : R7 76 7 = some 81 := (congrFun (congrFun hR7 76) _).trans ((up_j (by decide)).trans g6_7)
  have g7_9 : R7 76 9 = some 82 := (congrFun (congrFun hR7 76) _).trans ((up_j (by decide)).trans g6_9)
  have g7_10 : R7 76 10 = some 83 := (congrFun (congrFun hR7 76) _).trans up_s
  have jf7 := (fr_rw0 c7.1).1
  have kf7 := (fr_rw0 c7.1).2.1
  have rf7 := (fr_rw0 c7.1).2.2
  have c8 := CS_arr (f := 12) c7 (by omega) (by omega) R0_84
  have e7 : EE d 138 58 [some (.ref 76)] [] (TS L 84) J K R7 = EE d 138 67 [some (.ref 76)] [] (TS L 85) J K (mm_up R7 76 12 (some 84)) := by
    have s76 : (TS L 85)[76]? = some (11, 58) := rfl
    simp (disch := first | assumption | omega | exact bi_lo | exact bi_hi | exact bi_01 | exact jcmp_lo | exact jcmp_hi | exact (jor_r _ _).1 | exact (jor_r _ _).2 | exact (jand_r _ _).1 | exact (jand_r _ _).2) only [x138_58, x138_59, x138_62, x138_64, kb_some, kb_none, clr_vi, clr_ref, clr_null, clr_none, va_rf_some, va_rf_none, ↓bi_ite_t, ↓bi_ite_f, ↓jc_lt_t, ↓jc_lt_f, ↓jc_gt_t, ↓jc_gt_f, ↓jc_le_t, ↓jc_le_f, ↓jc_ge_t, ↓jc_ge_f, ↓jc_eq_t, ↓jc_eq_f, ↓if_pos, ↓if_neg, Int.reduceToNat, tl_84, tk_84, jf7, kf7, rf7]
  obtain ⟨R8, hR8⟩ : ∃ X, X = mm_up R7 76 12 (some 84) := ⟨_, rfl⟩
  rw [← hR8] at e7 c8
  have g8_0 : R8 76 0 = some 77 := (congrFun (congrFun hR8 76) _).trans ((up_j (by decide)).trans g7_0)
  have g8_3 : R8 76 3 = some 78 := (congrFun (congrFun hR8 76) _).trans ((up_j (by decide)).trans g7_3)
  have g8_4 : R8 76 4 = some 79 := (congrFun (congrFun hR8 76) _).trans ((up_j (by decide)).trans g7_4)
  have g8_6 : R8 76 6 = some 80 := (congrFun (congrFun hR8 76) _).trans ((up_j (by decide)).trans g7_6)
  have g8_7 : R8 76 7 = some 81 := (congrFun (congrFun hR8 76) _).trans ((up_j (by decide)).trans g7_7)
  have g8_9 : R8 76 9 = some 82 := (congrFun (congrFun hR8 76) _).trans ((up_j (by decide)).trans g7_9)
  have g8_10 : R8 76 10 = some 83 := (congrFun (congrFun hR8 76) _).trans ((up_j (by decide)).trans g7_10)
  have g8_12 : R8 76 12 = some 84 := (congrFun (congrFun hR8 76) _).trans up_s
  have jf8 := (fr_rw0 c8.1).1
  have kf8 := (fr_rw0 c8.1).2.1
  have rf8 := (fr_rw0 c8.1).2.2
  have c9 := CS_arr (f := 13) c8 (by omega) (by omega) R0_85
  have e8 : EE d 138 67 [some (.ref 76)] [] (TS L 85) J K R8 = EE d 138 76 [some (.ref 76)] [] (TS L 86) J K (mm_up R8 76 13 (some 85)) := by
    have s76 : (TS L 86)[76]? = some (11, 58) := rfl
    simp (disch := first | assumption | omega | exact bi_lo | exact bi_hi | exact bi_01 | exact jcmp_lo | exact jcmp_hi | exact (jor_r _ _).1 | exact (jor_r _ _).2 | exact (jand_r _ _).1 | exact (jand_r _ _).2) only [x138_67, x138_68, x138_71, x138_73, kb_some, kb_none, clr_vi, clr_ref, clr_null, clr_none, va_rf_some, va_rf_none, ↓bi_ite_t, ↓bi_ite_f, ↓jc_lt_t, ↓jc_lt_f, ↓jc_gt_t, ↓jc_gt_f, ↓jc_le_t, ↓jc_le_f, ↓jc_ge_t, ↓jc_ge_f, ↓jc_eq_t, ↓jc_eq_f, ↓if_pos, ↓if_neg, Int.reduceToNat, tl_85, tk_85, jf8, kf8, rf8]
  obtain ⟨R9, hR9⟩ : ∃ X, X = mm_up R8 76 13 (some 85) := ⟨_, rfl⟩
  rw [← hR9] at e8 c9
  have g9_0 : R9 76 0 = some 77 := (congrFun (congrFun hR9 76) _).trans ((up_j (by decide)).trans g8_0)
  have g9_3 : R9 76 3 = some 78 := (congrFun (congrFun hR9 76) _).trans ((up_j (by decide)).trans g8_3)
  have g9_4 : R9 76 4 = some 79 := (congrFun (congrFun hR9 76) _).trans ((up_j (by decide)).trans g8_4)
  have g9_6 : R9 76 6 = some 80 := (congrFun (congrFun hR9 76) _).trans ((up_j (by decide)).trans g8_6)
  have g9_7 : R9 76 7 = some 81 := (congrFun (congrFun hR9 76) _).trans ((up_j (by decide)).trans g8_7)
  have g9_9 : R9 76 9 = some 82 := (congrFun (congrFun hR9 76) _).trans ((up_j (by decide)).trans g8_9)
  have g9_10 : R9 76 10 = some 83 := (congrFun (congrFun hR9 76) _).trans ((up_j (by decide)).trans g8_10)
  have g9_12 : R9 76 12 = some 84 := (congrFun (congrFun hR9 76) _).trans ((up_j (by decide)).trans g8_12)
  have g9_13 : R9 76 13 = some 85 := (congrFun (congrFun hR9 76) _).trans up_s
  have jf9 := (fr_rw0 c9.1).1
  have kf9 := (fr_rw0 c9.1).2.1
  have rf9 := (fr_rw0 c9.1).2.2
  have c10 := CS_arr (f := 19) c9 (by omega) (by omega) R0_86
  have e9 : EE d 138 76 [some (.ref 76)] [] (TS L 86) J K R9 = EE d 138 84 [some (.ref 76)] [] (TS L 87) J K (mm_up R9 76 19 (some 86)) := by
    have s76 : (TS L 87)[76]? = some (11, 58) := rfl
    simp (disch := first | assumption | omega | exact bi_lo | exact bi_hi | exact bi_01 | exact jcmp_lo | exact jcmp_hi | exact (jor_r _ _).1 | exact (jor_r _ _).2 | exact (jand_r _ _).1 | exact (jand_r _ _).2) only [x138_76, x138_77, x138_79, x138_81, kb_some, kb_none, clr_vi, clr_ref, clr_null, clr_none, va_rf_some, va_rf_none, ↓bi_ite_t, ↓bi_ite_f, ↓jc_lt_t, ↓jc_lt_f, ↓jc_gt_t, ↓jc_gt_f, ↓jc_le_t, ↓jc_le_f, ↓jc_ge_t, ↓jc_ge_f, ↓jc_eq_t, ↓jc_eq_f, ↓if_pos, ↓if_neg, Int.reduceToNat, tl_86, tk_86, jf9, kf9, rf9]
  obtain ⟨R10, hR10⟩ : ∃ X, X = mm_up R9 76 19 (some 86) := ⟨_, rfl⟩
  rw [← hR10] at e9 c10
  have g10_0 : R10 76 0 = some 77 := (congrFun (congrFun hR10 76) _).trans ((up_j (by decide)).trans g9_0)
  have g10_3 : R10 76 3 = some 78 := (congrFun (congrFun hR10 76) _).trans ((up_j (by decide)).trans g9_3)
  have g10_4 : R10 76 4 = some 79 := (congrFun (congrFun hR10 76) _).trans ((up_j (by decide)).trans g9_4)
  have g10_6 : R10 76 6 = some 80 := (congrFun (congrFun hR10 76) _).trans ((up_j (by decide)).trans g9_6)
  have g10_7 : R10 76 7 = some 81 := (congrFun (congrFun hR10 76) _).trans ((up_j (by decide)).trans g9_7)
  have g10_9 : R10 76 9 = some 82 := (congrFun (congrFun hR10 76) _).trans ((up_j (by decide)).trans g9_9)
  have g10_10 : R10 76 10 = some 83 := (congrFun (congrFun hR10 76) _).trans ((up_j (by decide)).trans g9_10)
  have g10_12 : R10 76 12 = some 84 := (congrFun (congrFun hR10 76) _).trans ((up_j (by decide)).trans g9_12)
  have g10_13 : R10 76 13 = some 85 := (congrFun (congrFun hR10 76) _).trans ((up_j (by decide)).trans g9_13)
  have g10_19 : R10 76 19 = some 86 := (congrFun (congrFun hR10 76) _).trans up_s
  have jf10 := (fr_rw0 c10.1).1
  have kf10 := (fr_rw0 c10.1).2.1
  have rf10 := (fr_rw0 c10.1).2.2
  have c11 := CS_arr (f := 20) c10 (by omega) (by omega) R0_87
  have e10 : EE d 138 84 [some (.ref 76)] [] (TS L 87) J K R10 = EE d 138 92 [some (.ref 76)] [] (TS L 88) J K (mm_up R10 76 20 (some 87)) := by
    have s76 : (TS L 88)[76]? = some (11, 58) := rfl
    simp (disch := first | assumption | omega | exact bi_lo | exact bi_hi | exact bi_01 | exact jcmp_lo | exact jcmp_hi | exact (jor_r _ _).1 | exact (jor_r _ _).2 | exact (jand_r _ _).1 | exact (jand_r _ _).2) only [x138_84, x138_85, x138_87, x138_89, kb_some, kb_none, clr_vi, clr_ref, clr_null, clr_none, va_rf_some, va_rf_none, ↓bi_ite_t, ↓bi_ite_f, ↓jc_lt_t, ↓jc_lt_f, ↓jc_gt_t, ↓jc_gt_f, ↓jc_le_t, ↓jc_le_f, ↓jc_ge_t, ↓jc_ge_f, ↓jc_eq_t, ↓jc_eq_f, ↓if_pos, ↓if_neg, Int.reduceToNat, tl_87, tk_87, jf10, kf10, rf10]
  obtain ⟨R11, hR11⟩ : ∃ X, X = mm_up R10 76 20 (some 87) := ⟨_, rfl⟩
  rw [← hR11] at e10 c11
  have g11_0 : R11 76 0 = some 77 := (congrFun (congrFun hR11 76) _).trans ((up_j (by decide)).trans g10_0)
  have g11_3 : R11 76 3 = some 78 := (congrFun (congrFun hR11 76) _).trans ((up_j (by decide)).trans g10_3)
  have g11_4 : R11 76 4 = some 79 := (congrFun (congrFun hR11 76) _).trans ((up_j (by decide)).trans g10_4)
  have g11_6 : R11 76 6 = some 80 := (congrFun (congrFun hR11 76) _).trans ((up_j (by decide)).trans g10_6)
  have g11_7 : R11 76 7 = some 81 := (congrFun (congrFun hR11 76) _).trans ((up_j (by decide)).trans g10_7)
  have g11_9 : R11 76 9 = some 82 := (congrFun (congrFun hR11 76) _).trans ((up_j (by decide)).trans g10_9)
  have g11_10 : R11 76 10 = some 83 := (congrFun (congrFun hR11 76) _).trans ((up_j (by decide)).trans g10_10)
  have g11_12 : R11 76 12 = some 84 := (congrFun (congrFun hR11 76) _).trans ((up_j (by decide)).trans g10_12)
  have g11_13 : R11 76 13 = some 85 := (congrFun (congrFun hR11 76) _).trans ((up_j (by decide)).trans g10_13)
  have g11_19 : R11 76 19 = some 86 := (congrFun (congrFun hR11 76) _).trans ((up_j (by decide)).trans g10_19)
  have g11_20 : R11 76 20 = some 87 := (congrFun (congrFun hR11 76) _).trans up_s
  have jf11 := (fr_rw0 c11.1).1
  have kf11 := (fr_rw0 c11.1).2.1
  have rf11 := (fr_rw0 c11.1).2.2
  have c12 := CS_arr (f := 21) c11 (by omega) (by omega) R0_88
  have e11 : EE d 138 92 [some (.ref 76)] [] (TS L 88) J K R11 = EE d 138 100 [some (.ref 76)] [] (TS L 89) J K (mm_up R11 76 21 (some 88)) := by
    have s76 : (TS L 89)[76]? = some (11, 58) := rfl
    simp (disch := first | assumption | omega | exact bi_lo | exact bi_hi | exact bi_01 | exact jcmp_lo | exact jcmp_hi | exact (jor_r _ _).1 | exact (jor_r _ _).2 | exact (jand_r _ _).1 | exact (jand_r _ _).2) only [x138_92, x138_93, x138_95, x138_97, kb_some, kb_none, clr_vi, clr_ref, clr_null, clr_none, va_rf_some, va_rf_none, ↓bi_ite_t, ↓bi_ite_f, ↓jc_lt_t, ↓jc_lt_f, ↓jc_gt_t, ↓jc_gt_f, ↓jc_le_t, ↓jc_le_f, ↓jc_ge_t, ↓jc_ge_f, ↓jc_eq_t, ↓jc_eq_f, ↓if_pos, ↓if_neg, Int.reduceToNat, tl_88, tk_88, jf11, kf11, rf11]
  obtain ⟨R12, hR12⟩ : ∃ X, X = mm_up R11 76 21 (some 88) := ⟨_, rfl⟩
  rw [← hR12] at e11 c12
  have g12_0 : R12 76 0 = some 77 := (congrFun (congrFun hR12 76) _).trans ((up_j (by decide)).trans g11_0)
  have g12_3 : R12 76 3 = some 78 := (congrFun (congrFun hR12 76) _).trans ((up_j (by decide)).trans g11_3)
  have g12_4 : R12 76 4 = some 79 := (congrFun (congrFun hR12 76) _).trans ((up_j (by decide)).trans g11_4)
  have g12_6 : R12 76 6 = some 80 := (congrFun (congrFun hR12 76) _).trans ((up_j (by decide)).trans g11_6)
  have g12_7 : R12 76 7 = some 81 := (congrFun (congrFun hR12 76) _).trans ((up_j (by decide)).trans g11_7)
  have g12_9 : R12 76 9 = some 82 := (congrFun (congrFun hR12 76) _).trans ((up_j (by decide)).trans g11_9)
  have g12_10 : R12 76 10 = some 83 := (congrFun (congrFun hR12 76) _).trans ((up_j (by decide)).trans g11_10)
  have g12_12 : R12 76 12 = some 84 := (congrFun (congrFun hR12 76) _).trans ((up_j (by decide)).trans g11_12)
  have g12_13 : R12 76 13 = some 85 := (congrFun (congrFun hR12 76) _).trans ((up_j (by decide)).trans g11_13)
  have g12_19 : R12 76 19 = some 86 := (congrFun (congrFun hR12 76) _).trans ((up_j (by decide)).trans g11_19)
  have g12_20 : R12 76 20 = some 87 := (congrFun (congrFun hR12 76) _).trans ((up_j (by decide)).trans g11_20)
  have g12_21 : R12 76 21 = some 88 := (congrFun (congrFun hR12 76) _).trans up_s
  have jf12 := (fr_rw0 c12.1).1
  have kf12 := (fr_rw0 c12.1).2.1
  have rf12 := (fr_rw0 c12.1).2.2
  have c13 := CS_arr (f := 22) c12 (by omega) (by omega) R0_89
  have e12 : EE d 138 100 [some (.ref 76)] [] (TS L 89) J K R12 = EE d 138 108 [some (.ref 76)] [] (TS L 90) J K (mm_up R12 76 22 (some 89)) := by
    have s76 : (TS L 90)[76]? = some (11, 58) := rfl
    simp (disch := first | assumption | omega | exact bi_lo | exact bi_hi | exact bi_01 | exact jcmp_lo | exact jcmp_hi | exact (jor_r _ _).1 | exact (jor_r _ _).2 | exact (jand_r _ _).1 | exact (jand_r _ _).2) only [x138_100, x138_101, x138_103, x138_105, kb_some, kb_none, clr_vi, clr_ref, clr_null, clr_none, va_rf_some, va_rf_none, ↓bi_ite_t, ↓bi_ite_f, ↓jc_lt_t, ↓jc_lt_f, ↓jc_gt_t, ↓jc_gt_f, ↓jc_le_t, ↓jc_le_f, ↓jc_ge_t, ↓jc_ge_f, ↓jc_eq_t, ↓jc_eq_f, ↓if_pos, ↓if_neg, Int.reduceToNat, tl_89, tk_89, jf12, kf12, rf12]
  obtain ⟨R13, hR13⟩ : ∃ X, X = mm_up R12 76 22 (some 89) := ⟨_, rfl⟩
  rw [← hR13] at e12 c13
  have g13_0 : R13 76 0 = some 77 := (congrFun (congrFun hR13 76) _).trans ((up_j (by decide)).trans g12_0)
  have g13_3 : R13 76 3 = some 78 := (congrFun (congrFun hR13 76) _).trans ((up_j (by decide)).trans g12_3)
  have g13_4 : R13 76 4 = some 79 := (congrFun (congrFun hR13 76) _).trans ((up_j (by decide)).trans g12_4)
  have g13_6 : R13 76 6 = some 80 := (congrFun (congrFun hR13 76) _).trans ((up_j (by decide)).trans g12_6)
  have g13_7 : R13 76 7 = some 81 := (congrFun (congrFun hR13 76) _).trans ((up_j (by decide)).trans g12_7)
  have g13_9 : R13 76 9 = some 82 := (congrFun (congrFun hR13 76) _).trans ((up_j (by decide)).trans g12_9)
  have g13_10 : R13 76 10 = some 83 := (congrFun (congrFun hR13 76) _).trans ((up_j (by decide)).trans g12_10)
  have g13_12 : R13 76 12 = some 84 := (congrFun (congrFun hR13 76) _).trans ((up_j (by decide)).trans g12_12)
  have g13_13 : R13 76 13 = some 85 := (congrFun (congrFun hR13 76) _).trans ((up_j (by decide)).trans g12_13)
  have g13_19 : R13 76 19 = some 86 := (congrFun (congrFun hR13 76) _).trans ((up_j (by decide)).trans g12_19)
  have g13_20 : R13 76 20 = some 87 := (congrFun (congrFun hR13 76) _).trans ((up_j (by decide)).trans g12_20)
  have g13_21 : R13 76 21 = some 88 := (congrFun (congrFun hR13 76) _).trans ((up_j (by decide)).trans g12_21)
  have g13_22 : R13 76 22 = some 89 := (congrFun (congrFun hR13 76) _).trans up_s
  have jf13 := (fr_rw0 c13.1).1
  have kf13 := (fr_rw0 c13.1).2.1
  have rf13 := (fr_rw0 c13.1).2.2
  have c14 := CS_arr (f := 24) c13 (by omega) (by omega) R0_90
  have e13 : EE d 138 108 [some (.ref 76)] [] (TS L 90) J K R13 = EE d 138 116 [some (.ref 76)] [] (TS L 91) J K (mm_up R13 76 24 (some 90)) := by
    have s76 : (TS L 91)[76]? = some (11, 58) := rfl
    simp (disch := first | assumption | omega | exact bi_lo | exact bi_hi | exact bi_01 | exact jcmp_lo | exact jcmp_hi | exact (jor_r _ _).1 | exact (jor_r _ _).2 | exact (jand_r _ _).1 | exact (jand_r _ _).2) only [x138_108, x138_109, x138_111, x138_113, kb_some, kb_none, clr_vi, clr_ref, clr_null, clr_none, va_rf_some, va_rf_none, ↓bi_ite_t, ↓bi_ite_f, ↓jc_lt_t, ↓jc_lt_f, ↓jc_gt_t, ↓jc_gt_f, ↓jc_le_t, ↓jc_le_f, ↓jc_ge_t, ↓jc_ge_f, ↓jc_eq_t, ↓jc_eq_f, ↓if_pos, ↓if_neg, Int.reduceToNat, tl_90, tk_90, jf13, kf13, rf13]
  obtain ⟨R14, hR14⟩ : ∃ X, X = mm_up R13 76 24 (some 90) := ⟨_, rfl⟩
  rw [← hR14] at e13 c14
  have g14_0 : R14 76 0 = some 77 := (congrFun (congrFun hR14 76) _).trans ((up_j (by decide)).trans g13_0)
  have g14_3 : R14 76 3 = some 78 := (congrFun (congrFun hR14 76) _).trans ((up_j (by decide)).trans g13_3)
  have g14_4 : R14 76 4 = some 79 := (congrFun (congrFun hR14 76) _).trans ((up_j (by decide)).trans g13_4)
  have g14_6 : R14 76 6 = some 80 := (congrFun (congrFun hR14 76) _).trans ((up_j (by decide)).trans g13_6)
  have g14_7 : R14 76 7 = some 81 := (congrFun (congrFun hR14 76) _).trans ((up_j (by decide)).trans g13_7)
  have g14_9 : R14 76 9 = some 82 := (congrFun (congrFun hR14 76) _).trans ((up_j (by decide)).trans g13_9)
  have g14_10 : R14 76 10 = some 83 := (congrFun (congrFun hR14 76) _).trans ((up_j (by decide)).trans g13_10)
  have g14_12 : R14 76 12 = some 84 := (congrFun (congrFun hR14 76) _).trans ((up_j (by decide)).trans g13_12)
  have g14_13 : R14 76 13 = some 85 := (congrFun (congrFun hR14 76) _).trans ((up_j (by decide)).trans g13_13)
  have g14_19 : R14 76 19 = some 86 := (congrFun (congrFun hR14 76) _).trans ((up_j (by decide)).trans g13_19)
  have g14_20 : R14 76 20 = some 87 := (congrFun (congrFun hR14 76) _).trans ((up_j (by decide)).trans g13_20)
  have g14_21 : R14 76 21 = some 88 := (congrFun (congrFun hR14 76) _).trans ((up_j (by decide)).trans g13_21)
  have g14_22 : R14 76 22 = some 89 := (congrFun (congrFun hR14 76) _).trans ((up_j (by decide)).trans g13_22)
  have g14_24 : R14 76 24 = some 90 := (congrFun (congrFun hR14 76) _).trans up_s
  have jf14 := (fr_rw0 c14.1).1
  have kf14 := (fr_rw0 c14.1).2.1
  have rf14 := (fr_rw0 c14.1).2.2
  have c15 := CS_arr (f := 25) c14 (by omega) (by omega) R0_91
  have e14 : EE d 138 116 [some (.ref 76)] [] (TS L 91) J K R14 = EE d 138 124 [some (.ref 76)] [] (TS L 92) J K (mm_up R14 76 25 (some 91)) := by
    have s76 : (TS L 92)[76]? = some (11, 58) := rfl
    simp (disch := first | assumption | omega | exact bi_lo | exact bi_hi | exact bi_01 | exact jcmp_lo | exact jcmp_hi | exact (jor_r _ _).1 | exact (jor_r _ _).2 | exact (jand_r _ _).1 | exact (jand_r _ _).2) only [x138_116, x138_117, x138_119, x138_121, kb_some, kb_none, clr_vi, clr_ref, clr_null, clr_none, va_rf_some, va_rf_none, ↓bi_ite_t, ↓bi_ite_f, ↓jc_lt_t, ↓jc_lt_f, ↓jc_gt_t, ↓jc_gt_f, ↓jc_le_t, ↓jc_le_f, ↓jc_ge_t, ↓jc_ge_f, ↓jc_eq_t, ↓jc_eq_f, ↓if_pos, ↓if_neg, Int.reduceToNat, tl_91, tk_91, jf14, kf14, rf14]
  obtain ⟨R15, hR15⟩ : ∃ X, X = mm_up R14 76 25 (some 91) := ⟨_, rfl⟩
  rw [← hR15] at e14 c15
  have g15_0 : R15 76 0 = some 77 := (congrFun (congrFun hR15 76) _).trans ((up_j (by decide)).trans g14_0)
  have g15_3 : R15 76 3 = some 78 := (congrFun (congrFun hR15 76) _).trans ((up_j (by decide)).trans g14_3)
  have g15_4 : R15 76 4 = some 79 := (congrFun (congrFun hR15 76) _).trans ((up_j (by decide)).trans g14_4)
  have g15_6 : R15 76 6 = some 80 := (congrFun (congrFun hR15 76) _).trans ((up_j (by decide)).trans g14_6)
  have g15_7 : R15 76 7 = some 81 := (congrFun (congrFun hR15 76) _).trans ((up_j (by decide)).trans g14_7)
  have g15_9 : R15 76 9 = some 82 := (congrFun (congrFun hR15 76) _).trans ((up_j (by decide)).trans g14_9)
  have g15_10 : R15 76 10 = some 83 := (congrFun (congrFun hR15 76) _).trans ((up_j (by decide)).trans g14_10)
  have g15_12 : R15 76 12 = some 84 := (congrFun (congrFun hR15 76) _).trans ((up_j (by decide)).trans g14_12)
  have g15_13 : R15 76 13 = some 85 := (congrFun (congrFun hR15 76) _).trans ((up_j (by decide)).trans g14_13)
  have g15_19 : R15 76 19 = some 86 := (congrFun (congrFun hR15 76) _).trans ((up_j (by decide)).trans g14_19)
  have g15_20 : R15 76 20 = some 87 := (congrFun (congrFun hR15 76) _).trans ((up_j (by decide)).trans g14_20)
  have g15_21 : R15 76 21 = some 88 := (congrFun (congrFun hR15 76) _).trans ((up_j (by decide)).trans g14_21)
  have g15_22 : R15 76 22 = some 89 := (congrFun (congrFun hR15 76) _).trans ((up_j (by decide)).trans g14_22)
  have g15_24 : R15 76 24 = some 90 := (congrFun (congrFun hR15 76) _).trans ((up_j (by decide)).trans g14_24)
  have g15_25 : R15 76 25 = some 91 := (congrFun (congrFun hR15 76) _).trans up_s
  have jf15 := (fr_rw0 c15.1).1
  have kf15 := (fr_rw0 c15.1).2.1
  have rf15 := (fr_rw0 c15.1).2.2
  have c16 := CS_arr (f := 26) c15 (by omega) (by omega) R0_92
  have e15 : EE d 138 124 [some (.ref 76)] [] (TS L 92) J K R15 = EE d 138 132 [some (.ref 76)] [] (TS L 93) J K (mm_up R15 76 26 (some 92)) := by
    have s76 : (TS L 93)[76]? = some (11, 58) := rfl
    simp (disch := first | assumption | omega | exact bi_lo | exact bi_hi | exact bi_01 | exact jcmp_lo | exact jcmp_hi | exact (jor_r _ _).1 | exact (jor_r _ _).2 | exact (jand_r _ _).1 | exact (jand_r _ _).2) only [x138_124, x138_125, x138_127, x138_129, kb_some, kb_none, clr_vi, clr_ref, clr_null, clr_none, va_rf_some, va_rf_none, ↓bi_ite_t, ↓bi_ite_f, ↓jc_lt_t, ↓jc_lt_f, ↓jc_gt_t, ↓jc_gt_f, ↓jc_le_t, ↓jc_le_f, ↓jc_ge_t, ↓jc_ge_f, ↓jc_eq_t, ↓jc_eq_f, ↓if_pos, ↓if_neg, Int.reduceToNat, tl_92, tk_92, jf15, kf15, rf15]
  obtain ⟨R16, hR16⟩ : ∃ X, X = mm_up R15 76 26 (some 92) := ⟨_, rfl⟩
  rw [← hR16] at e15 c16
  have g16_0 : R16 76 0 = some 77 := (congrFun (congrFun hR16 76) _).trans ((up_j (by decide)).trans g15_0)
  have g16_3 : R16 76 3 = some 78 := (congrFun (congrFun hR16 76) _).trans ((up_j (by decide)).trans g15_3)
  have g16_4 : R16 76 4 = some 79 := (congrFun (congrFun hR16 76) _).trans ((up_j (by decide)).trans g15_4)
  have g16_6 : R16 76 6 = some 80 := (congrFun (congrFun hR16 76) _).trans ((up_j (by decide)).trans g15_6)
  have g16_7 : R16 76 7 = some 81 := (congrFun (congrFun hR16 76) _).trans ((up_j (by decide)).trans g15_7)
  have g16_9 : R16 76 9 = some 82 := (congrFun (congrFun hR16 76) _).trans ((up_j (by decide)).trans g15_9)
  have g16_10 : R16 76 10 = some 83 := (congrFun (congrFun hR16 76) _).trans ((up_j (by decide)).trans g15_10)
  have g16_12 : R16 76 12 = some 84 := (congrFun (congrFun hR16 76) _).trans ((up_j (by decide)).trans g15_12)
  have g16_13 : R16 76 13 = some 85 := (congrFun (congrFun hR16 76) _).trans ((up_j (by decide)).trans g15_13)
  have g16_19 : R16 76 19 = some 86 := (congrFun (congrFun hR16 76) _).trans ((up_j (by decide)).trans g15_19)
  have g16_20 : R16 76 20 = some 87 := (congrFun (congrFun hR16 76) _).trans ((up_j (by decide)).trans g15_20)
  have g16_21 : R16 76 21 = some 88 := (congrFun (congrFun hR16 76) _).trans ((up_j (by decide)).trans g15_21)
  have g16_22 : R16 76 22 = some 89 := (congrFun (congrFun hR16 76) _).trans ((up_j (by decide)).trans g15_22)
  have g16_24 : R16 76 24 = some 90 := (congrFun (congrFun hR16 76) _).trans ((up_j (by decide)).trans g15_24)
  have g16_25 : R16 76 25 = some 91 := (congrFun (congrFun hR16 76) _).trans ((up_j (by decide)).trans g15_25)
  have g16_26 : R16 76 26 = some 92 := (congrFun (congrFun hR16 76) _).trans up_s
  have jf16 := (fr_rw0 c16.1).1
  have kf16 := (fr_rw0 c16.1).2.1
  have rf16 := (fr_rw0 c16.1).2.2
  have c17 := CS_arr (f := 28) c16 (by omega) (by omega) R0_93
  have e16 : EE d 138 132 [some (.ref 76)] [] (TS L 93) J K R16 = EE d 138 139 [some (.ref 76)] [] (TS L 94) J K (mm_up R16 76 28 (some 93)) := by
    have s76 : (TS L 94)[76]? = some (11, 58) := rfl
    simp (disch := first | assumption | omega | exact bi_lo | exact bi_hi | exact bi_01 | exact jcmp_lo | exact jcmp_hi | exact (jor_r _ _).1 | exact (jor_r _ _).2 | exact (jand_r _ _).1 | exact (jand_r _ _).2) only [x138_132, x138_133, x138_134, x138_136, kb_some, kb_none, clr_vi, clr_ref, clr_null, clr_none, va_rf_some, va_rf_none, ↓bi_ite_t, ↓bi_ite_f, ↓jc_lt_t, ↓jc_lt_f, ↓jc_gt_t, ↓jc_gt_f, ↓jc_le_t, ↓jc_le_f, ↓jc_ge_t, ↓jc_ge_f, ↓jc_eq_t, ↓jc_eq_f, ↓if_pos, ↓if_neg, Int.reduceToNat, tl_93, tk_93, jf16, kf16, rf16]
  obtain ⟨R17, hR17⟩ : ∃ X, X = mm_up R16 76 28 (some 93) := ⟨_, rfl⟩
  rw [← hR17] at e16 c17
  have g17_0 : R17 76 0 = some 77 := (congrFun (congrFun hR17 76) _).trans ((up_j (by decide)).trans g16_0)
  have g17_3 : R17 76 3 = some 78 := (congrFun (congrFun hR17 76) _).trans ((up_j (by decide)).trans g16_3)
  have g17_4 : R17 76 4 = some 79 := (congrFun (congrFun hR17 76) _).trans ((up_j (by decide)).trans g16_4)
  have g17_6 : R17 76 6 = some 80 := (congrFun (congrFun hR17 76) _).trans ((up_j (by decide)).trans g16_6)
  have g17_7 : R17 76 7 = some 81 := (congrFun (congrFun hR17 76) _).trans ((up_j (by decide)).trans g16_7)
  have g17_9 : R17 76 9 = some 82 := (congrFun (congrFun hR17 76) _).trans ((up_j (by decide)).trans g16_9)
  have g17_10 : R17 76 10 = some 83 := (congrFun (congrFun hR17 76) _).trans ((up_j (by decide)).trans g16_10)
  have g17_12 : R17 76 12 = some 84 := (congrFun (congrFun hR17 76) _).trans ((up_j (by decide)).trans g16_12)
  have g17_13 : R17 76 13 = some 85 := (congrFun (congrFun hR17 76) _).trans ((up_j (by decide)).trans g16_13)
  have g17_19 : R17 76 19 = some 86 := (congrFun (congrFun hR17 76) _).trans ((up_j (by decide)).trans g16_19)
  have g17_20 : R17 76 20 = some 87 := (congrFun (congrFun hR17 76) _).trans ((up_j (by decide)).trans g16_20)
  have g17_21 : R17 76 21 = some 88 := (congrFun (congrFun hR17 76) _).trans ((up_j (by decide)).trans g16_21)
  have g17_22 : R17 76 22 = some 89 := (congrFun (congrFun hR17 76) _).trans ((up_j (by decide)).trans g16_22)
  have g17_24 : R17 76 24 = some 90 := (congrFun (congrFun hR17 76) _).trans ((up_j (by decide)).trans g16_24)
  have g17_25 : R17 76 25 = some 91 := (congrFun (congrFun hR17 76) _).trans ((up_j (by decide)).trans g16_25)
  have g17_26 : R17 76 26 = some 92 := (congrFun (congrFun hR17 76) _).trans ((up_j (by decide)).trans g16_26)
  have g17_28 : R17 76 28 = some 93 := (congrFun (congrFun hR17 76) _).trans up_s
  have jf17 := (fr_rw0 c17.1).1
  have kf17 := (fr_rw0 c17.1).2.1
  have rf17 := (fr_rw0 c17.1).2.2
  have c18 := CS_arr (f := 29) c17 (by omega) (by omega) R0_94
  have e17 : EE d 138 139 [some (.ref 76)] [] (TS L 94) J K R17 = EE d 138 146 [some (.ref 76)] [] (TS L 95) J K (mm_up R17 76 29 (some 94)) := by
    have s76 : (TS L 95)[76]? = some (11, 58) := rfl
    simp (disch := first | assumption | omega | exact bi_lo | exact bi_hi | exact bi_01 | exact jcmp_lo | exact jcmp_hi | exact (jor_r _ _).1 | exact (jor_r _ _).2 | exact (jand_r _ _).1 | exact (jand_r _ _).2) only [x138_139, x138_140, x138_141, x138_143, kb_some, kb_none, clr_vi, clr_ref, clr_null, clr_none, va_rf_some, va_rf_none, ↓bi_ite_t, ↓bi_ite_f, ↓jc_lt_t, ↓jc_lt_f, ↓jc_gt_t, ↓jc_gt_f, ↓jc_le_t, ↓jc_le_f, ↓jc_ge_t, ↓jc_ge_f, ↓jc_eq_t, ↓jc_eq_f, ↓if_pos, ↓if_neg, Int.reduceToNat, tl_94, tk_94, jf17, kf17, rf17]
  obtain ⟨R18, hR18⟩ : ∃ X, X = mm_up R17 76 29 (some 94) := ⟨_, rfl⟩
  rw [← hR18] at e17 c18
  have g18_0 : R18 76 0 = some 77 := (congrFun (congrFun hR18 76) _).trans ((up_j (by decide)).trans g17_0)
  have g18_3 : R18 76 3 = some 78 := (congrFun (congrFun hR18 76) _).trans ((up_j (by decide)).trans g17_3)
  have g18_4 : R18 76 4 = some 79 := (congrFun (congrFun hR18 76) _).trans ((up_j (by decide)).trans g17_4)
  have g18_6 : R18 76 6 = some 80 := (congrFun (congrFun hR18 76) _).trans ((up_j (by decide)).trans g17_6)
  have g18_7 : R18 76 7 = some 81 := (congrFun (congrFun hR18 76) _).trans ((up_j (by decide)).trans g17_7)
  have g18_9 : R18 76 9 = some 82 := (congrFun (congrFun hR18 76) _).trans ((up_j (by decide)).trans g17_9)
  have g18_10 : R18 76 10 = some 83 := (congrFun (congrFun hR18 76) _).trans ((up_j (by decide)).trans g17_10)
  have g18_12 : R18 76 12 = some 84 := (congrFun (congrFun hR18 76) _).trans ((up_j (by decide)).trans g17_12)
  have g18_13 : R18 76 13 = some 85 := (congrFun (congrFun hR18 76) _).trans ((up_j (by decide)).trans g17_13)
  have g18_19 : R18 76 19 = some 86 := (congrFun (congrFun hR18 76) _).trans ((up_j (by decide)).trans g17_19)
  have g18_20 : R18 76 20 = some 87 := (congrFun (congrFun hR18 76) _).trans ((up_j (by decide)).trans g17_20)
  have g18_21 : R18 76 21 = some 88 := (congrFun (congrFun hR18 76) _).trans ((up_j (by decide)).trans g17_21)
  have g18_22 : R18 76 22 = some 89 := (congrFun (congrFun hR18 76) _).trans ((up_j (by decide)).trans g17_22)
  have g18_24 : R18 76 24 = some 90 := (congrFun (congrFun hR18 76) _).trans ((up_j (by decide)).trans g17_24)
  have g18_25 : R18 76 25 = some 91 := (congrFun (congrFun hR18 76) _).trans ((up_j (by decide)).trans g17_25)
  have g18_26 : R18 76 26 = some 92 := (congrFun (congrFun hR18 76) _).trans ((up_j (by decide)).trans g17_26)
  have g18_28 : R18 76 28 = some 93 := (congrFun (congrFun hR18 76) _).trans ((up_j (by decide)).trans g17_28)
  have g18_29 : R18 76 29 = some 94 := (congrFun (congrFun hR18 76) _).trans up_s
  have jf18 := (fr_rw0 c18.1).1
  have kf18 := (fr_rw0 c18.1).2.1
  have rf18 := (fr_rw0 c18.1).2.2
  have c19 := CS_arr (f := 30) c18 (by omega) (by omega) R0_95
  have e18 : EE d 138 146 [some (.ref 76)] [] (TS L 95) J K R18 = EE d 138 153 [some (.ref 76)] [] (TS L 96) J K (mm_up R18 76 30 (some 95)) := by
    have s76 : (TS L 96)[76]? = some (11, 58) := rfl
    simp (disch := first | assumption | omega | exact bi_lo | exact bi_hi | exact bi_01 | exact jcmp_lo | exact jcmp_hi | exact (jor_r _ _).1 | exact (jor_r _ _).2 | exact (jand_r _ _).1 | exact (jand_r _ _).2) only [x138_146, x138_147, x138_148, x138_150, kb_some, kb_none, clr_vi, clr_ref, clr_null, clr_none, va_rf_some, va_rf_none, ↓bi_ite_t, ↓bi_ite_f, ↓jc_lt_t, ↓jc_lt_f, ↓jc_gt_t, ↓jc_gt_f, ↓jc_le_t, ↓jc_le_f, ↓jc_ge_t, ↓jc_ge_f, ↓jc_eq_t, ↓jc_eq_f, ↓if_pos, ↓if_neg, Int.reduceToNat, tl_95, tk_95, jf18, kf18, rf18]
  obtain ⟨R19, hR19⟩ : ∃ X, X = mm_up R18 76 30 (some 95) := ⟨_, rfl⟩
  rw [← hR19] at e18 c19
  have g19_0 : R19 76 0 = some 77 := (congrFun (congrFun hR19 76) _).trans ((up_j (by decide)).trans g18_0)
  have g19_3 : R19 76 3 = some 78 := (congrFun (congrFun hR19 76) _).trans ((up_j (by decide)).trans g18_3)
  have g19_4 : R19 76 4 = some 79 := (congrFun (congrFun hR19 76) _).trans ((up_j (by decide)).trans g18_4)
  have g19_6 : R19 76 6 = some 80 := (congrFun (congrFun hR19 76) _).trans ((up_j (by decide)).trans g18_6)
  have g19_7 : R19 76 7 = some 81 := (congrFun (congrFun hR19 76) _).trans ((up_j (by decide)).trans g18_7)
  have g19_9 : R19 76 9 = some 82 := (congrFun (congrFun hR19 76) _).trans ((up_j (by decide)).trans g18_9)
  have g19_10 : R19 76 10 = some 83 := (congrFun (congrFun hR19 76) _).trans ((up_j (by decide)).trans g18_10)
  have g19_12 : R19 76 12 = some 84 := (congrFun (congrFun hR19 76) _).trans ((up_j (by decide)).trans g18_12)
  have g19_13 : R19 76 13 = some 85 := (congrFun (congrFun hR19 76) _).trans ((up_j (by decide)).trans g18_13)
  have g19_19 : R19 76 19 = some 86 := (congrFun (congrFun hR19 76) _).trans ((up_j (by decide)).trans g18_19)
  have g19_20 : R19 76 20 = some 87 := (congrFun (congrFun hR19 76) _).trans ((up_j (by decide)).trans g18_20)
  have g19_21 : R19 76 21 = some 88 := (congrFun (congrFun hR19 76) _).trans ((up_j (by decide)).trans g18_21)
  have g19_22 : R19 76 22 = some 89 := (congrFun (congrFun hR19 76) _).trans ((up_j (by decide)).trans g18_22)
  have g19_24 : R19 76 24 = some 90 := (congrFun (congrFun hR19 76) _).trans ((up_j (by decide)).trans g18_24)
  have g19_25 : R19 76 25 = some 91 := (congrFun (congrFun hR19 76) _).trans ((up_j (by decide)).trans g18_25)
  have g19_26 : R19 76 26 = some 92 := (congrFun (congrFun hR19 76) _).trans ((up_j (by decide)).trans g18_26)
  have g19_28 : R19 76 28 = some 93 := (congrFun (congrFun hR19 76) _).trans ((up_j (by decide)).trans g18_28)
  have g19_29 : R19 76 29 = some 94 := (congrFun (congrFun hR19 76) _).trans ((up_j (by decide)).trans g18_29)
  have g19_30 : R19 76 30 = some 95 := (congrFun (congrFun hR19 76) _).trans up_s
  have jf19 := (fr_rw0 c19.1).1
  have kf19 := (fr_rw0 c19.1).2.1
  have rf19 := (fr_rw0 c19.1).2.2
  have c20 := CS_arr (f := 31) c19 (by omega) (by omega) R0_96
  have e19 : EE d 138 153 [some (.ref 76)] [] (TS L 96) J K R19 = EE d 138 160 [some (.ref 76)] [] (TS L 97) J K (mm_up R19 76 31 (some 96)) := by
    have s76 : (TS L 97)[76]? = some (11, 58) := rfl
    simp (disch := first | assumption | omega | exact bi_lo | exact bi_hi | exact bi_01 | exact jcmp_lo | exact jcmp_hi | exact (jor_r _ _).1 | exact (jor_r _ _).2 | exact (jand_r _ _).1 | exact (jand_r _ _).2) only [x138_153, x138_154, x138_155, x138_157, kb_some, kb_none, clr_vi, clr_ref, clr_null, clr_none, va_rf_some, va_rf_none, ↓bi_ite_t, ↓bi_ite_f, ↓jc_lt_t, ↓jc_lt_f, ↓jc_gt_t, ↓jc_gt_f, ↓jc_le_t, ↓jc_le_f, ↓jc_ge_t, ↓jc_ge_f, ↓jc_eq_t, ↓jc_eq_f, ↓if_pos, ↓if_neg, Int.reduceToNat, tl_96, tk_96, jf19, kf19, rf19]
  obtain ⟨R20, hR20⟩ : ∃ X, X = mm_up R19 76 31 (some 96) := ⟨_, rfl⟩
  rw [← hR20] at e19 c20
  have g20_0 : R20 76 0 = some 77 := (congrFun (congrFun hR20 76) _).trans ((up_j (by decide)).trans g19_0)
  have g20_3 : R20 76 3 = some 78 := (congrFun (congrFun hR20 76) _).trans ((up_j (by decide)).trans g19_3)
  have g20_4 : R20 76 4 = some 79 := (congrFun (congrFun hR20 76) _).trans ((up_j (by decide)).trans g19_4)
  have g20_6 : R20 76 6 = some 80 := (congrFun (congrFun hR20 76) _).trans ((up_j (by decide)).trans g19_6)
  have g20_7 : R20 76 7 = some 81 := (congrFun (congrFun hR20 76) _).trans ((up_j (by decide)).trans g19_7)
  have g20_9 : R20 76 9 = some 82 := (congrFun (congrFun hR20 76) _).trans ((up_j (by decide)).trans g19_9)
  have g20_10 : R20 76 10 = some 83 := (congrFun (congrFun hR20 76) _).trans ((up_j (by decide)).trans g19_10)
  have g20_12 : R20 76 12 = some 84 := (congrFun (congrFun hR20 76) _).trans ((up_j (by decide)).trans g19_12)
  have g20_13 : R20 76 13 = some 85 := (congrFun (congrFun hR20 76) _).trans ((up_j (by decide)).trans g19_13)
  have g20_19 : R20 76 19 = some 86 := (congrFun (congrFun hR20 76) _).trans ((up_j (by decide)).trans g19_19)
  have g20_20 : R20 76 20 = some 87 := (congrFun (congrFun hR20 76) _).trans ((up_j (by decide)).trans g19_20)
  have g20_21 : R20 76 21 = some 88 := (congrFun (congrFun hR20 76) _).trans ((up_j (by decide)).trans g19_21)
  have g20_22 : R20 76 22 = some 89 := (congrFun (congrFun hR20 76) _).trans ((up_j (by decide)).trans g19_22)
  have g20_24 : R20 76 24 = some 90 := (congrFun (congrFun hR20 76) _).trans ((up_j (by decide)).trans g19_24)
  have g20_25 : R20 76 25 = some 91 := (congrFun (congrFun hR20 76) _).trans ((up_j (by decide)).trans g19_25)
  have g20_26 : R20 76 26 = some 92 := (congrFun (congrFun hR20 76) _).trans ((up_j (by decide)).trans g19_26)
  have g20_28 : R20 76 28 = some 93 := (congrFun (congrFun hR20 76) _).trans ((up_j (by decide)).trans g19_28)
  have g20_29 : R20 76 29 = some 94 := (congrFun (congrFun hR20 76) _).trans ((up_j (by decide)).trans g19_29)
  have g20_30 : R20 76 30 = some 95 := (congrFun (congrFun hR20 76) _).trans ((up_j (by decide)).trans g19_30)
  have g20_31 : R20 76 31 = some 96 := (congrFun (congrFun hR20 76) _).trans up_s
  have jf20 := (fr_rw0 c20.1).1
  have kf20 := (fr_rw0 c20.1).2.1
  have rf20 := (fr_rw0 c20.1).2.2
  have c21 := CS_arr (f := 32) c20 (by omega) (by omega) R0_97
  have e20 : EE d 138 160 [some (.ref 76)] [] (TS L 97) J K R20 = EE d 138 167 [some (.ref 76)] [] (TS L 98) J K (mm_up R20 76 32 (some 97)) := by
    have s76 : (TS L 98)[76]? = some (11, 58) := rfl
    simp (disch := first | assumption | omega | exact bi_lo | exact bi_hi | exact bi_01 | exact jcmp_lo | exact jcmp_hi | exact (jor_r _ _).1 | exact (jor_r _ _).2 | exact (jand_r _ _).1 | exact (jand_r _ _).2) only [x138_160, x138_161, x138_162, x138_164, kb_some, kb_none, clr_vi, clr_ref, clr_null, clr_none, va_rf_some, va_rf_none, ↓bi_ite_t, ↓bi_ite_f, ↓jc_lt_t, ↓jc_lt_f, ↓jc_gt_t, ↓jc_gt_f, ↓jc_le_t, ↓jc_le_f, ↓jc_ge_t, ↓jc_ge_f, ↓jc_eq_t, ↓jc_eq_f, ↓if_pos, ↓if_neg, Int.reduceToNat, tl_97, tk_97, jf20, kf20, rf20]
  obtain ⟨R21, hR21⟩ : ∃ X, X = mm_up R20 76 32 (some 97) := ⟨_, rfl⟩
  rw [← hR21] at e20 c21
  have g21_0 : R21 76 0 = some 77 := (congrFun (congrFun hR21 76) _).trans ((up_j (by decide)).trans g20_0)
  have g21_3 : R21 76 3 = some 78 := (congrFun (congrFun hR21 76) _).trans ((up_j (by decide)).trans g20_3)
  have g21_4 : R21 76 4 = some 79 := (congrFun (congrFun hR21 76) _).trans ((up_j (by decide)).trans g20_4)
  have g21_6 : R21 76 6 = some 80 := (congrFun (congrFun hR21 76) _).trans ((up_j (by decide)).trans g20_6)
  have g21_7 : R21 76 7 = some 81 := (congrFun (congrFun hR21 76) _).trans ((up_j (by decide)).trans g20_7)
  have g21_9 : R21 76 9 = some 82 := (congrFun (congrFun hR21 76) _).trans ((up_j (by decide)).trans g20_9)
  have g21_10 : R21 76 10 = some 83 := (congrFun (congrFun hR21 76) _).trans ((up_j (by decide)).trans g20_10)
  have g21_12 : R21 76 12 = some 84 := (congrFun (congrFun hR21 76) _).trans ((up_j (by decide)).trans g20_12)
  have g21_13 : R21 76 13 = some 85 := (congrFun (congrFun hR21 76) _).trans ((up_j (by decide)).trans g20_13)
  have g21_19 : R21 76 19 = some 86 := (congrFun (congrFun hR21 76) _).trans ((up_j (by decide)).trans g20_19)
  have g21_20 : R21 76 20 = some 87 := (congrFun (congrFun hR21 76) _).trans ((up_j (by decide)).trans g20_20)
  have g21_21 : R21 76 21 = some 88 := (congrFun (congrFun hR21 76) _).trans ((up_j (by decide)).trans g20_21)
  have g21_22 : R21 76 22 = some 89 := (congrFun (congrFun hR21 76) _).trans ((up_j (by decide)).trans g20_22)
  have g21_24 : R21 76 24 = some 90 := (congrFun (congrFun hR21 76) _).trans ((up_j (by decide)).trans g20_24)
  have g21_25 : R21 76 25 = some 91 := (congrFun (congrFun hR21 76) _).trans ((up_j (by decide)).trans g20_25)
  have g21_26 : R21 76 26 = some 92 := (congrFun (congrFun hR21 76) _).trans ((up_j (by decide)).trans g20_26)
  have g21_28 : R21 76 28 = some 93 := (congrFun (congrFun hR21 76) _).trans ((up_j (by decide)).trans g20_28)
  have g21_29 : R21 76 29 = some 94 := (congrFun (congrFun hR21 76) _).trans ((up_j (by decide)).trans g20_29)
  have g21_30 : R21 76 30 = some 95 := (congrFun (congrFun hR21 76) _).trans ((up_j (by decide)).trans g20_30)
  have g21_31 : R21 76 31 = some 96 := (congrFun (congrFun hR21 76) _).trans ((up_j (by decide)).trans g20_31)
  have g21_32 : R21 76 32 = some 97 := (congrFun (congrFun hR21 76) _).trans up_s
  have jf21 := (fr_rw0 c21.1).1
  have kf21 := (fr_rw0 c21.1).2.1
  have rf21 := (fr_rw0 c21.1).2.2
  have c22 := CS_arr (f := 36) c21 (by omega) (by omega) R0_98
  have e21 : EE d 138 167 [some (.ref 76)] [] (TS L 98) J K R21 = EE d 138 176 [some (.ref 76)] [] (TS L 99) J K (mm_up R21 76 36 (some 98)) := by
    have s76 : (TS L 99)[76]? = some (11, 58) := rfl
    simp (disch := first | assumption | omega | exact bi_lo | exact bi_hi | exact bi_01 | exact jcmp_lo | exact jcmp_hi | exact (jor_r _ _).1 | exact (jor_r _ _).2 | exact (jand_r _ _).1 | exact (jand_r _ _).2) only [x138_167, x138_168, x138_171, x138_173, kb_some, kb_none, clr_vi, clr_ref, clr_null, clr_none, va_rf_some, va_rf_none, ↓bi_ite_t, ↓bi_ite_f, ↓jc_lt_t, ↓jc_lt_f, ↓jc_gt_t, ↓jc_gt_f, ↓jc_le_t, ↓jc_le_f, ↓jc_ge_t, ↓jc_ge_f, ↓jc_eq_t, ↓jc_eq_f, ↓if_pos, ↓if_neg, Int.reduceToNat, tl_98, tk_98, jf21, kf21, rf21]
  obtain ⟨R22, hR22⟩ : ∃ X, X = mm_up R21 76 36 (some 98) := ⟨_, rfl⟩
  rw [← hR22] at e21 c22
  have g22_0 : R22 76 0 = some 77 := (congrFun (congrFun hR22 76) _).trans ((up_j (by decide)).trans g21_0)
  have g22_3 : R22 76 3 = some 78 := (congrFun (congrFun hR22 76) _).trans ((up_j (by decide)).trans g21_3)
  have g22_4 : R22 76 4 = some 79 := (congrFun (congrFun hR22 76) _).trans ((up_j (by decide)).trans g21_4)
  have g22_6 : R22 76 6 = some 80 := (congrFun (congrFun hR22 76) _).trans ((up_j (by decide)).trans g21_6)
  have g22_7 : R22 76 7 = some 81 := (congrFun (congrFun hR22 76) _).trans ((up_j (by decide)).trans g21_7)
  have g22_9 : R22 76 9 = some 82 := (congrFun (congrFun hR22 76) _).trans ((up_j (by decide)).trans g21_9)
  have g22_10 : R22 76 10 = some 83 := (congrFun (congrFun hR22 76) _).trans ((up_j (by decide)).trans g21_10)
  have g22_12 : R22 76 12 = some 84 := (congrFun (congrFun hR22 76) _).trans ((up_j (by decide)).trans g21_12)
  have g22_13 : R22 76 13 = some 85 := (congrFun (congrFun hR22 76) _).trans ((up_j (by decide)).trans g21_13)
  have g22_19 : R22 76 19 = some 86 := (congrFun (congrFun hR22 76) _).trans ((up_j (by decide)).trans g21_19)
  have g22_20 : R22 76 20 = some 87 := (congrFun (congrFun hR22 76) _).trans ((up_j (by decide)).trans g21_20)
  have g22_21 : R22 76 21 = some 88 := (congrFun (congrFun hR22 76) _).trans ((up_j (by decide)).trans g21_21)
  have g22_22 : R22 76 22 = some 89 := (congrFun (congrFun hR22 76) _).trans ((up_j (by decide)).trans g21_22)
  have g22_24 : R22 76 24 = some 90 := (congrFun (congrFun hR22 76) _).trans ((up_j (by decide)).trans g21_24)
  have g22_25 : R22 76 25 = some 91 := (congrFun (congrFun hR22 76) _).trans ((up_j (by decide)).trans g21_25)
  have g22_26 : R22 76 26 = some 92 := (congrFun (congrFun hR22 76) _).trans ((up_j (by decide)).trans g21_26)
  have g22_28 : R22 76 28 = some 93 := (congrFun (congrFun hR22 76) _).trans ((up_j (by decide)).trans g21_28)
  have g22_29 : R22 76 29 = some 94 := (congrFun (congrFun hR22 76) _).trans ((up_j (by decide)).trans g21_29)
  have g22_30 : R22 76 30 = some 95 := (congrFun (congrFun hR22 76) _).trans ((up_j (by decide)).trans g21_30)
  have g22_31 : R22 76 31 = some 96 := (congrFun (congrFun hR22 76) _).trans ((up_j (by decide)).trans g21_31)
  have g22_32 : R22 76 32 = some 97 := (congrFun (congrFun hR22 76) _).trans ((up_j (by decide)).trans g21_32)
  have g22_36 : R22 76 36 = some 98 := (congrFun (congrFun hR22 76) _).trans up_s
  have jf22 := (fr_rw0 c22.1).1
  have kf22 := (fr_rw0 c22.1).2.1
  have rf22 := (fr_rw0 c22.1).2.2
  have c23 := CS_arr (f := 38) c22 (by omega) (by omega) R0_99
  have e22 : EE d 138 176 [some (.ref 76)] [] (TS L 99) J K R22 = EE d 138 184 [some (.ref 76)] [] (TS L 100) J K (mm_up R22 76 38 (some 99)) := by
    have s76 : (TS L 100)[76]? = some (11, 58) := rfl
    simp (disch := first | assumption | omega | exact bi_lo | exact bi_hi | exact bi_01 | exact jcmp_lo | exact jcmp_hi | exact (jor_r _ _).1 | exact (jor_r _ _).2 | exact (jand_r _ _).1 | exact (jand_r _ _).2) only [x138_176, x138_177, x138_179, x138_181, kb_some, kb_none, clr_vi, clr_ref, clr_null, clr_none, va_rf_some, va_rf_none, ↓bi_ite_t, ↓bi_ite_f, ↓jc_lt_t, ↓jc_lt_f, ↓jc_gt_t, ↓jc_gt_f, ↓jc_le_t, ↓jc_le_f, ↓jc_ge_t, ↓jc_ge_f, ↓jc_eq_t, ↓jc_eq_f, ↓if_pos, ↓if_neg, Int.reduceToNat, tl_99, tk_99, jf22, kf22, rf22]
  obtain ⟨R23, hR23⟩ : ∃ X, X = mm_up R22 76 38 (some 99) := ⟨_, rfl⟩
  rw [← hR23] at e22 c23
  have g23_0 : R23 76 0 = some 77 := (congrFun (congrFun hR23 76) _).trans ((up_j (by decide)).trans g22_0)
  have g23_3 : R23 76 3 = some 78 := (congrFun (congrFun hR23 76) _).trans ((up_j (by decide)).trans g22_3)
  have g23_4 : R23 76 4 = some 79 := (congrFun (congrFun hR23 76) _).trans ((up_j (by decide)).trans g22_4)
  have g23_6 : R23 76 6 = some 80 := (congrFun (congrFun hR23 76) _).trans ((up_j (by decide)).trans g22_6)
  have g23_7 : R23 76 7 = some 81 := (congrFun (congrFun hR23 76) _).trans ((up_j (by decide)).trans g22_7)
  have g23_9 : R23 76 9 = some 82 := (congrFun (congrFun hR23 76) _).trans ((up_j (by decide)).trans g22_9)
  have g23_10 : R23 76 10 = some 83 := (congrFun (congrFun hR23 76) _).trans ((up_j (by decide)).trans g22_10)
  have g23_12 : R23 76 12 = some 84 := (congrFun (congrFun hR23 76) _).trans ((up_j (by decide)).trans g22_12)
  have g23_13 : R23 76 13 = some 85 := (congrFun (congrFun hR23 76) _).trans ((up_j (by decide)).trans g22_13)
  have g23_19 : R23 76 19 = some 86 := (congrFun (congrFun hR23 76) _).trans ((up_j (by decide)).trans g22_19)
  have g23_20 : R23 76 20 = some 87 := (congrFun (congrFun hR23 76) _).trans ((up_j (by decide)).trans g22_20)
  have g23_21 : R23 76 21 = some 88 := (congrFun (congrFun hR23 76) _).trans ((up_j (by decide)).trans g22_21)
  have g23_22 : R23 76 22 = some 89 := (congrFun (congrFun hR23 76) _).trans ((up_j (by decide)).trans g22_22)
  have g23_24 : R23 76 24 = some 90 := (congrFun (congrFun hR23 76) _).trans ((up_j (by decide)).trans g22_24)
  have g23_25 : R23 76 25 = some 91 := (congrFun (congrFun hR23 76) _).trans ((up_j (by decide)).trans g22_25)
  have g23_26 : R23 76 26 = some 92 := (congrFun (congrFun hR23 76) _).trans ((up_j (by decide)).trans g22_26)
  have g23_28 : R23 76 28 = some 93 := (congrFun (congrFun hR23 76) _).trans ((up_j (by decide)).trans g22_28)
  have g23_29 : R23 76 29 = some 94 := (congrFun (congrFun hR23 76) _).trans ((up_j (by decide)).trans g22_29)
  have g23_30 : R23 76 30 = some 95 := (congrFun (congrFun hR23 76) _).trans ((up_j (by decide)).trans g22_30)
  have g23_31 : R23 76 31 = some 96 := (congrFun (congrFun hR23 76) _).trans ((up_j (by decide)).trans g22_31)
  have g23_32 : R23 76 32 = some 97 := (congrFun (congrFun hR23 76) _).trans ((up_j (by decide)).trans g22_32)
  have g23_36 : R23 76 36 = some 98 := (congrFun (congrFun hR23 76) _).trans ((up_j (by decide)).trans g22_36)
  have g23_38 : R23 76 38 = some 99 := (congrFun (congrFun hR23 76) _).trans up_s
  have jf23 := (fr_rw0 c23.1).1
  have kf23 := (fr_rw0 c23.1).2.1
  have rf23 := (fr_rw0 c23.1).2.2
  have c24 := CS_arr (f := 39) c23 (by omega) (by omega) R0_100
  have e23 : EE d 138 184 [some (.ref 76)] [] (TS L 100) J K R23 = EE d 138 192 [some (.ref 76)] [] (TS L 101) J K (mm_up R23 76 39 (some 100)) := by
    have s76 : (TS L 101)[76]? = some (11, 58) := rfl
    simp (disch := first | assumption | omega | exact bi_lo | exact bi_hi | exact bi_01 | exact jcmp_lo | exact jcmp_hi | exact (jor_r _ _).1 | exact (jor_r _ _).2 | exact (jand_r _ _).1 | exact (jand_r _ _).2) only [x138_184, x138_185, x138_187, x138_189, kb_some, kb_none, clr_vi, clr_ref, clr_null, clr_none, va_rf_some, va_rf_none, ↓bi_ite_t, ↓bi_ite_f, ↓jc_lt_t, ↓jc_lt_f, ↓jc_gt_t, ↓jc_gt_f, ↓jc_le_t, ↓jc_le_f, ↓jc_ge_t, ↓jc_ge_f, ↓jc_eq_t, ↓jc_eq_f, ↓if_pos, ↓if_neg, Int.reduceToNat, tl_100, tk_100, jf23, kf23, rf23]
  obtain ⟨R24, hR24⟩ : ∃ X, X = mm_up R23 76 39 (some 100) := ⟨_, rfl⟩
  rw [← hR24] at e23 c24
  have g24_0 : R24 76 0 = some 77 := (congrFun (congrFun hR24 76) _).trans ((up_j (by decide)).trans g23_0)
  have g24_3 : R24 76 3 = some 78 := (congrFun (congrFun hR24 76) _).trans ((up_j (by decide)).trans g23_3)
  have g24_4 : R24 76 4 = some 79 := (congrFun (congrFun hR24 76) _).trans ((up_j (by decide)).trans g23_4)
  have g24_6 : R24 76 6 = some 80 := (congrFun (congrFun hR24 76) _).trans ((up_j (by decide)).trans g23_6)
  have g24_7 : R24 76 7 = some 81 := (congrFun (congrFun hR24 76) _).trans ((up_j (by decide)).trans g23_7)
  have g24_9 : R24 76 9 = some 82 := (congrFun (congrFun hR24 76) _).trans ((up_j (by decide)).trans g23_9)
  have g24_10 : R24 76 10 = some 83 := (congrFun (congrFun hR24 76) _).trans ((up_j (by decide)).trans g23_10)
  have g24_12 : R24 76 12 = some 84 := (congrFun (congrFun hR24 76) _).trans ((up_j (by decide)).trans g23_12)
  have g24_13 : R24 76 13 = some 85 := (congrFun (congrFun hR24 76) _).trans ((up_j (by decide)).trans g23_13)
  have g24_19 : R24 76 19 = some 86 := (congrFun (congrFun hR24 76) _).trans ((up_j (by decide)).trans g23_19)
  have g24_20 : R24 76 20 = some 87 := (congrFun (congrFun hR24 76) _).trans ((up_j (by decide)).trans g23_20)
  have g24_21 : R24 76 21 = some 88 := (congrFun (congrFun hR24 76) _).trans ((up_j (by decide)).trans g23_21)
  have g24_22 : R24 76 22 = some 89 := (congrFun (congrFun hR24 76) _).trans ((up_j (by decide)).trans g23_22)
  have g24_24 : R24 76 24 = some 90 := (congrFun (congrFun hR24 76) _).trans ((up_j (by decide)).trans g23_24)
  have g24_25 : R24 76 25 = some 91 := (congrFun (congrFun hR24 76) _).trans ((up_j (by decide)).trans g23_25)
  have g24_26 : R24 76 26 = some 92 := (congrFun (congrFun hR24 76) _).trans ((up_j (by decide)).trans g23_26)
  have g24_28 : R24 76 28 = some 93 := (congrFun (congrFun hR24 76) _).trans ((up_j (by decide)).trans g23_28)
  have g24_29 : R24 76 29 = some 94 := (congrFun (congrFun hR24 76) _).trans ((up_j (by decide)).trans g23_29)
  have g24_30 : R24 76 30 = some 95 := (congrFun (congrFun hR24 76) _).trans ((up_j (by decide)).trans g23_30)
  have g24_31 : R24 76 31 = some 96 := (congrFun (congrFun hR24 76) _).trans ((up_j (by decide)).trans g23_31)
  have g24_32 : R24 76 32 = some 97 := (congrFun (congrFun hR24 76) _).trans ((up_j (by decide)).trans g23_32)
  have g24_36 : R24 76 36 = some 98 := (congrFun (congrFun hR24 76) _).trans ((up_j (by decide)).trans g23_36)
  have g24_38 : R24 76 38 = some 99 := (congrFun (congrFun hR24 76) _).trans ((up_j (by decide)).trans g23_38)
  have g24_39 : R24 76 39 = some 100 := (congrFun (congrFun hR24 76) _).trans up_s
  have jf24 := (fr_rw0 c24.1).1
  have kf24 := (fr_rw0 c24.1).2.1
  have rf24 := (fr_rw0 c24.1).2.2
  have c25 := CS_arr (f := 40) c24 (by omega) (by omega) R0_101
  have e24 : EE d 138 192 [some (.ref 76)] [] (TS L 101) J K R24 = EE d 138 200 [some (.ref 76)] [] (TS L 102) J K (mm_up R24 76 40 (some 101)) := by
    have s76 : (TS L 102)[76]? = some (11, 58) := rfl
    simp (disch := first | assumption | omega | exact bi_lo | exact bi_hi | exact bi_01 | exact jcmp_lo | exact jcmp_hi | exact (jor_r _ _).1 | exact (jor_r _ _).2 | exact (jand_r _ _).1 | exact (jand_r _ _).2) only [x138_192, x138_193, x138_195, x138_197, kb_some, kb_none, clr_vi, clr_ref, clr_null, clr_none, va_rf_some, va_rf_none, ↓bi_ite_t, ↓bi_ite_f, ↓jc_lt_t, ↓jc_lt_f, ↓jc_gt_t, ↓jc_gt_f, ↓jc_le_t, ↓jc_le_f, ↓jc_ge_t, ↓jc_ge_f, ↓jc_eq_t, ↓jc_eq_f, ↓if_pos, ↓if_neg, Int.reduceToNat, tl_101, tk_101, jf24, kf24, rf24]
  obtain ⟨R25, hR25⟩ : ∃ X, X = mm_up R24 76 40 (some 101) := ⟨_, rfl⟩
  rw [← hR25] at e24 c25
  have g25_0 : R25 76 0 = some 77 := (congrFun (congrFun hR25 76) _).trans ((up_j (by decide)).trans g24_0)
  have g25_3 : R25 76 3 = some 78 := (congrFun (congrFun hR25 76) _).trans ((up_j (by decide)).trans g24_3)
  have g25_4 : R25 76 4 = some 79 := (congrFun (congrFun hR25 76) _).trans ((up_j (by decide)).trans g24_4)
  have g25_6 : R25 76 6 = some 80 := (congrFun (congrFun hR25 76) _).trans ((up_j (by decide)).trans g24_6)
  have g25_7 : R25 76 7 = some 81 := (congrFun (congrFun hR25 76) _).trans ((up_j (by decide)).trans g24_7)
  have g25_9 : R25 76 9 = some 82 := (congrFun (congrFun hR25 76) _).trans ((up_j (by decide)).trans g24_9)
  have g25_10 : R25 76 10 = some 83 := (congrFun (congrFun hR25 76) _).trans ((up_j (by decide)).trans g24_10)
  have g25_12 : R25 76 12 = some 84 := (congrFun (congrFun hR25 76) _).trans ((up_j (by decide)).trans g24_12)
  have g25_13 : R25 76 13 = some 85 := (congrFun (congrFun hR25 76) _).trans ((up_j (by decide)).trans g24_13)
  have g25_19 : R25 76 19 = some 86 := (congrFun (congrFun hR25 76) _).trans ((up_j (by decide)).trans g24_19)
  have g25_20 : R25 76 20 = some 87 := (congrFun (congrFun hR25 76) _).trans ((up_j (by decide)).trans g24_20)
  have g25_21 : R25 76 21 = some 88 := (congrFun (congrFun hR25 76) _).trans ((up_j (by decide)).trans g24_21)
  have g25_22 : R25 76 22 = some 89 := (congrFun (congrFun hR25 76) _).trans ((up_j (by decide)).trans g24_22)
  have g25_24 : R25 76 24 = some 90 := (congrFun (congrFun hR25 76) _).trans ((up_j (by decide)).trans g24_24)
  have g25_25 : R25 76 25 = some 91 := (congrFun (congrFun hR25 76) _).trans ((up_j (by decide)).trans g24_25)
  have g25_26 : R25 76 26 = some 92 := (congrFun (congrFun hR25 76) _).trans ((up_j (by decide)).trans g24_26)
  have g25_28 : R25 76 28 = some 93 := (congrFun (congrFun hR25 76) _).trans ((up_j (by decide)).trans g24_28)
  have g25_29 : R25 76 29 = some 94 := (congrFun (congrFun hR25 76) _).trans ((up_j (by decide)).trans g24_29)
  have g25_30 : R25 76 30 = some 95 := (congrFun (congrFun hR25 76) _).trans ((up_j (by decide)).trans g24_30)
  have g25_31 : R25 76 31 = some 96 := (congrFun (congrFun hR25 76) _).trans ((up_j (by decide)).trans g24_31)
  have g25_32 : R25 76 32 = some 97 := (congrFun (congrFun hR25 76) _).trans ((up_j (by decide)).trans g24_32)
  have g25_36 : R25 76 36 = some 98 := (congrFun (congrFun hR25 76) _).trans ((up_j (by decide)).trans g24_36)
  have g25_38 : R25 76 38 = some 99 := (congrFun (congrFun hR25 76) _).trans ((up_j (by decide)).trans g24_38)
  have g25_39 : R25 76 39 = some 100 := (congrFun (congrFun hR25 76) _).trans ((up_j (by decide)).trans g24_39)
  have g25_40 : R25 76 40 = some 101 := (congrFun (congrFun hR25 76) _).trans up_s
  have jf25 := (fr_rw0 c25.1).1
  have kf25 := (fr_rw0 c25.1).2.1
  have rf25 := (fr_rw0 c25.1).2.2
  have c26 := CS_arr (f := 41) c25 (by omega) (by omega) R0_102
  have e25 : EE d 138 200 [some (.ref 76)] [] (TS L 102) J K R25 = EE d 138 209 [some (.ref 76)] [] (TS L 103) J K (mm_up R25 76 41 (some 102)) := by
    have s76 : (TS L 103)[76]? = some (11, 58) := rfl
    simp (disch := first | assumption | omega | exact bi_lo | exact bi_hi | exact bi_01 | exact jcmp_lo | exact jcmp_hi | exact (jor_r _ _).1 | exact (jor_r _ _).2 | exact (jand_r _ _).1 | exact (jand_r _ _).2) only [x138_200, x138_201, x138_204, x138_206, kb_some, kb_none, clr_vi, clr_ref, clr_null, clr_none, va_rf_some, va_rf_none, ↓bi_ite_t, ↓bi_ite_f, ↓jc_lt_t, ↓jc_lt_f, ↓jc_gt_t, ↓jc_gt_f, ↓jc_le_t, ↓jc_le_f, ↓jc_ge_t, ↓jc_ge_f, ↓jc_eq_t, ↓jc_eq_f, ↓if_pos, ↓if_neg, Int.reduceToNat, tl_102, tk_102, jf25, kf25, rf25]
  obtain ⟨R26, hR26⟩ : ∃ X, X = mm_up R25 76 41 (some 102) := ⟨_, rfl⟩
  rw [← hR26] at e25 c26
  have g26_0 : R26 76 0 = some 77 := (congrFun (congrFun hR26 76) _).trans ((up_j (by decide)).trans g25_0)
  have g26_3 : R26 76 3 = some 78 := (congrFun (congrFun hR26 76) _).trans ((up_j (by decide)).trans g25_3)
  have g26_4 : R26 76 4 = some 79 := (congrFun (congrFun hR26 76) _).trans ((up_j (by decide)).trans g25_4)
  have g26_6 : R26 76 6 = some 80 := (congrFun (congrFun hR26 76) _).trans ((up_j (by decide)).trans g25_6)
  have g26_7 : R26 76 7 = some 81 := (congrFun (congrFun hR26 76) _).trans ((up_j (by decide)).trans g25_7)
  have g26_9 : R26 76 9 = some 82 := (congrFun (congrFun hR26 76) _).trans ((up_j (by decide)).trans g25_9)
  have g26_10 : R26 76 10 = some 83 := (congrFun (congrFun hR26 76) _).trans ((up_j (by decide)).trans g25_10)
  have g26_12 : R26 76 12 = some 84 := (congrFun (congrFun hR26 76) _).trans ((up_j (by decide)).trans g25_12)
  have g26_13 : R26 76 13 = some 85 := (congrFun (congrFun hR26 76) _).trans ((up_j (by decide)).trans g25_13)
  have g26_19 : R26 76 19 = some 86 := (congrFun (congrFun hR26 76) _).trans ((up_j (by decide)).trans g25_19)
  have g26_20 : R26 76 20 = some 87 := (congrFun (congrFun hR26 76) _).trans ((up_j (by decide)).trans g25_20)
  have g26_21 : R26 76 21 = some 88 := (congrFun (congrFun hR26 76) _).trans ((up_j (by decide)).trans g25_21)
  have g26_22 : R26 76 22 = some 89 := (congrFun (congrFun hR26 76) _).trans ((up_j (by decide)).trans g25_22)
  have g26_24 : R26 76 24 = some 90 := (congrFun (congrFun hR26 76) _).trans ((up_j (by decide)).trans g25_24)
  have g26_25 : R26 76 25 = some 91 := (congrFun (congrFun hR26 76) _).trans ((up_j (by decide)).trans g25_25)
  have g26_26 : R26 76 26 = some 92 := (congrFun (congrFun hR26 76) _).trans ((up_j (by decide)).trans g25_26)
  have g26_28 : R26 76 28 = some 93 := (congrFun (congrFun hR26 76) _).trans ((up_j (by decide)).trans g25_28)
  have g26_29 : R26 76 29 = some 94 := (congrFun (congrFun hR26 76) _).trans ((up_j (by decide)).trans g25_29)
  have g26_30 : R26 76 30 = some 95 := (congrFun (congrFun hR26 76) _).trans ((up_j (by decide)).trans g25_30)
  have g26_31 : R26 76 31 = some 96 := (congrFun (congrFun hR26 76) _).trans ((up_j (by decide)).trans g25_31)
  have g26_32 : R26 76 32 = some 97 := (congrFun (congrFun hR26 76) _).trans ((up_j (by decide)).trans g25_32)
  have g26_36 : R26 76 36 = some 98 := (congrFun (congrFun hR26 76) _).trans ((up_j (by decide)).trans g25_36)
  have g26_38 : R26 76 38 = some 99 := (congrFun (congrFun hR26 76) _).trans ((up_j (by decide)).trans g25_38)
  have g26_39 : R26 76 39 = some 100 := (congrFun (congrFun hR26 76) _).trans ((up_j (by decide)).trans g25_39)
  have g26_40 : R26 76 40 = some 101 := (congrFun (congrFun hR26 76) _).trans ((up_j (by decide)).trans g25_40)
  have g26_41 : R26 76 41 = some 102 := (congrFun (congrFun hR26 76) _).trans up_s
  have jf26 := (fr_rw0 c26.1).1
  have kf26 := (fr_rw0 c26.1).2.1
  have rf26 := (fr_rw0 c26.1).2.2
  have c27 := CS_arr (f := 42) c26 (by omega) (by omega) R0_103
  have e26 : EE d 138 209 [some (.ref 76)] [] (TS L 103) J K R26 = EE d 138 217 [some (.ref 76)] [] (TS L 104) J K (mm_up R26 76 42 (some 103)) := by
    have s76 : (TS L 104)[76]? = some (11, 58) := rfl
    simp (disch := first | assumption | omega | exact bi_lo | exact bi_hi | exact bi_01 | exact jcmp_lo | exact jcmp_hi | exact (jor_r _ _).1 | exact (jor_r _ _).2 | exact (jand_r _ _).1 | exact (jand_r _ _).2) only [x138_209, x138_210, x138_212, x138_214, kb_some, kb_none, clr_vi, clr_ref, clr_null, clr_none, va_rf_some, va_rf_none, ↓bi_ite_t, ↓bi_ite_f, ↓jc_lt_t, ↓jc_lt_f, ↓jc_gt_t, ↓jc_gt_f, ↓jc_le_t, ↓jc_le_f, ↓jc_ge_t, ↓jc_ge_f, ↓jc_eq_t, ↓jc_eq_f, ↓if_pos, ↓if_neg, Int.reduceToNat, tl_103, tk_103, jf26, kf26, rf26]
  obtain ⟨R27, hR27⟩ : ∃ X, X = mm_up R26 76 42 (some 103) := ⟨_, rfl⟩
  rw [← hR27] at e26 c27
  have g27_0 : R27 76 0 = some 77 := (congrFun (congrFun hR27 76) _).trans ((up_j (by decide)).trans g26_0)
  have g27_3 : R27 76 3 = some 78 := (congrFun (congrFun hR27 76) _).trans ((up_j (by decide)).trans g26_3)
  have g27_4 : R27 76 4 = some 79 := (congrFun (congrFun hR27 76) _).trans ((up_j (by decide)).trans g26_4)
  have g27_6 : R27 76 6 = some 80 := (congrFun (congrFun hR27 76) _).trans ((up_j (by decide)).trans g26_6)
  have g27_7 : R27 76 7 = some 81 := (congrFun (congrFun hR27 76) _).trans ((up_j (by decide)).trans g26_7)
  have g27_9 : R27 76 9 = some 82 := (congrFun (congrFun hR27 76) _).trans ((up_j (by decide)).trans g26_9)
  have g27_10 : R27 76 10 = some 83 := (congrFun (congrFun hR27 76) _).trans ((up_j (by decide)).trans g26_10)
  have g27_12 : R27 76 12 = some 84 := (congrFun (congrFun hR27 76) _).trans ((up_j (by decide)).trans g26_12)
  have g27_13 : R27 76 13 = some 85 := (congrFun (congrFun hR27 76) _).trans ((up_j (by decide)).trans g26_13)
  have g27_19 : R27 76 19 = some 86 := (congrFun (congrFun hR27 76) _).trans ((up_j (by decide)).trans g26_19)
  have g27_20 : R27 76 20 = some 87 := (congrFun (congrFun hR27 76) _).trans ((up_j (by decide)).trans g26_20)
  have g27_21 : R27 76 21 = some 88 := (congrFun (congrFun hR27 76) _).trans ((up_j (by decide)).trans g26_21)
  have g27_22 : R27 76 22 = some 89 := (congrFun (congrFun hR27 76) _).trans ((up_j (by decide)).trans g26_22)
  have g27_24 : R27 76 24 = some 90 := (congrFun (congrFun hR27 76) _).trans ((up_j (by decide)).trans g26_24)
  have g27_25 : R27 76 25 = some 91 := (congrFun (congrFun hR27 76) _).trans ((up_j (by decide)).trans g26_25)
  have g27_26 : R27 76 26 = some 92 := (congrFun (congrFun hR27 76) _).trans ((up_j (by decide)).trans g26_26)
  have g27_28 : R27 76 28 = some 93 := (congrFun (congrFun hR27 76) _).trans ((up_j (by decide)).trans g26_28)
  have g27_29 : R27 76 29 = some 94 := (congrFun (congrFun hR27 76) _).trans ((up_j (by decide)).trans g26_29)
  have g27_30 : R27 76 30 = some 95 := (congrFun (congrFun hR27 76) _).trans ((up_j (by decide)).trans g26_30)
  have g27_31 : R27 76 31 = some 96 := (congrFun (congrFun hR27 76) _).trans ((up_j (by decide)).trans g26_31)
  have g27_32 : R27 76 32 = some 97 := (congrFun (congrFun hR27 76) _).trans ((up_j (by decide)).trans g26_32)
  have g27_36 : R27 76 36 = some 98 := (congrFun (congrFun hR27 76) _).trans ((up_j (by decide)).trans g26_36)
  have g27_38 : R27 76 38 = some 99 := (congrFun (congrFun hR27 76) _).trans ((up_j (by decide)).trans g26_38)
  have g27_39 : R27 76 39 = some 100 := (congrFun (congrFun hR27 76) _).trans ((up_j (by decide)).trans g26_39)
  have g27_40 : R27 76 40 = some 101 := (congrFun (congrFun hR27 76) _).trans ((up_j (by decide)).trans g26_40)
  have g27_41 : R27 76 41 = some 102 := (congrFun (congrFun hR27 76) _).trans ((up_j (by decide)).trans g26_41)
  have g27_42 : R27 76 42 = some 103 := (congrFun (congrFun hR27 76) _).trans up_s
  have jf27 := (fr_rw0 c27.1).1
  have kf27 := (fr_rw0 c27.1).2.1
  have rf27 := (fr_rw0 c27.1).2.2
  have c28 := CS_arr (f := 47) c27 (by omega) (by omega) R0_104
  have e27 : EE d 138 217 [some (.ref 76)] [] (TS L 104) J K R27 = EE d 138 224 [some (.ref 76)] [] (TS L 105) J K (mm_up R27 76 47 (some 104)) := by
    have s76 : (TS L 105)[76]? = some (11, 58) := rfl
    simp (disch := first | assumption | omega | exact bi_lo | exact bi_hi | exact bi_01 | exact jcmp_lo | exact jcmp_hi | exact (jor_r _ _).1 | exact (jor_r _ _).2 | exact (jand_r _ _).1 | exact (jand_r _ _).2) only [x138_217, x138_218, x138_219, x138_221, kb_some, kb_none, clr_vi, clr_ref, clr_null, clr_none, va_rf_some, va_rf_none, ↓bi_ite_t, ↓bi_ite_f, ↓jc_lt_t, ↓jc_lt_f, ↓jc_gt_t, ↓jc_gt_f, ↓jc_le_t, ↓jc_le_f, ↓jc_ge_t, ↓jc_ge_f, ↓jc_eq_t, ↓jc_eq_f, ↓if_pos, ↓if_neg, Int.reduceToNat, tl_104, tk_104, jf27, kf27, rf27]
  obtain ⟨R28, hR28⟩ : ∃ X, X = mm_up R27 76 47 (some 104) := ⟨_, rfl⟩
  rw [← hR28] at e27 c28
  have g28_0 : R28 76 0 = some 77 := (congrFun (congrFun hR28 76) _).trans ((up_j (by decide)).trans g27_0)
  have g28_3 : R28 76 3 = some 78 := (congrFun (congrFun hR28 76) _).trans ((up_j (by decide)).trans g27_3)
  have g28_4 : R28 76 4 = some 79 := (congrFun (congrFun hR28 76) _).trans ((up_j (by decide)).trans g27_4)
  have g28_6 : R28 76 6 = some 80 := (congrFun (congrFun hR28 76) _).trans ((up_j (by decide)).trans g27_6)
  have g28_7 : R28 76 7 = some 81 := (congrFun (congrFun hR28 76) _).trans ((up_j (by decide)).trans g27_7)
  have g28_9 : R28 76 9 = some 82 := (congrFun (congrFun hR28 76) _).trans ((up_j (by decide)).trans g27_9)
  have g28_10 : R28 76 10 = some 83 := (congrFun (congrFun hR28 76) _).trans ((up_j (by decide)).trans g27_10)
  have g28_12 : R28 76 12 = some 84 := (congrFun (congrFun hR28 76) _).trans ((up_j (by decide)).trans g27_12)
  have g28_13 : R28 76 13 = some 85 := (congrFun (congrFun hR28 76) _).trans ((up_j (by decide)).trans g27_13)
  have g28_19 : R28 76 19 = some 86 := (congrFun (congrFun hR28 76) _).trans ((up_j (by decide)).trans g27_19)
  have g28_20 : R28 76 20 = some 87 := (congrFun (congrFun hR28 76) _).trans ((up_j (by decide)).trans g27_20)
  have g28_21 : R28 76 21 = some 88 := (congrFun (congrFun hR28 76) _).trans ((up_j (by decide)).trans g27_21)
  have g28_22 : R28 76 22 = some 89 := (congrFun (congrFun hR28 76) _).trans ((up_j (by decide)).trans g27_22)
  have g28_24 : R28 76 24 = some 90 := (congrFun (congrFun hR28 76) _).trans ((up_j (by decide)).trans g27_24)
  have g28_25 : R28 76 25 = some 91 := (congrFun (congrFun hR28 76) _).trans ((up_j (by decide)).trans g27_25)
  have g28_26 : R28 76 26 = some 92 := (congrFun (congrFun hR28 76) _).trans ((up_j (by decide)).trans g27_26)
  have g28_28 : R28 76 28 = some 93 := (congrFun (congrFun hR28 76) _).trans ((up_j (by decide)).trans g27_28)
  have g28_29 : R28 76 29 = some 94 := (congrFun (congrFun hR28 76) _).trans ((up_j (by decide)).trans g27_29)
  have g28_30 : R28 76 30 = some 95 := (congrFun (congrFun hR28 76) _).trans ((up_j (by decide)).trans g27_30)
  have g28_31 : R28 76 31 = some 96 := (congrFun (congrFun hR28 76) _).trans ((up_j (by decide)).trans g27_31)
  have g28_32 : R28 76 32 = some 97 := (congrFun (congrFun hR28 76) _).trans ((up_j (by decide)).trans g27_32)
  have g28_36 : R28 76 36 = some 98 := (congrFun (congrFun hR28 76) _).trans ((up_j (by decide)).trans g27_36)
  have g28_38 : R28 76 38 = some 99 := (congrFun (congrFun hR28 76) _).trans ((up_j (by decide)).trans g27_38)
  have g28_39 : R28 76 39 = some 100 := (congrFun (congrFun hR28 76) _).trans ((up_j (by decide)).trans g27_39)
  have g28_40 : R28 76 40 = some 101 := (congrFun (congrFun hR28 76) _).trans ((up_j (by decide)).trans g27_40)
  have g28_41 : R28 76 41 = some 102 := (congrFun (congrFun hR28 76) _).trans ((up_j (by decide)).trans g27_41)
  have g28_42 : R28 76 42 = some 103 := (congrFun (congrFun hR28 76) _).trans ((up_j (by decide)).trans g27_42)
  have g28_47 : R28 76 47 = some 104 := (congrFun (congrFun hR28 76) _).trans up_s
  have jf28 := (fr_rw0 c28.1).1
  have kf28 := (fr_rw0 c28.1).2.1
  have rf28 := (fr_rw0 c28.1).2.2
  have c29 := CS_arr (f := 53) c28 (by omega) (by omega) R0_105
  have e28 : EE d 138 224 [some (.ref 76)] [] (TS L 105) J K R28 = EE d 138 232 [some (.ref 76)] [] (TS L 106) J K (mm_up R28 76 53 (some 105)) := by
    have s76 : (TS L 106)[76]? = some (11, 58) := rfl
    simp (disch := first | assumption | omega | exact bi_lo | exact bi_hi | exact bi_01 | exact jcmp_lo | exact jcmp_hi | exact (jor_r _ _).1 | exact (jor_r _ _).2 | exact (jand_r _ _).1 | exact (jand_r _ _).2) only [x138_224, x138_225, x138_227, x138_229, kb_some, kb_none, clr_vi, clr_ref, clr_null, clr_none, va_rf_some, va_rf_none, ↓bi_ite_t, ↓bi_ite_f, ↓jc_lt_t, ↓jc_lt_f, ↓jc_gt_t, ↓jc_gt_f, ↓jc_le_t, ↓jc_le_f, ↓jc_ge_t, ↓jc_ge_f, ↓jc_eq_t, ↓jc_eq_f, ↓if_pos, ↓if_neg, Int.reduceToNat, tl_105, tk_105, jf28, kf28, rf28]
  obtain ⟨R29, hR29⟩ : ∃ X, X = mm_up R28 76 53 (some 105) := ⟨_, rfl⟩
  rw [← hR29] at e28 c29
  have g29_0 : R29 76 0 = some 77 := (congrFun (congrFun hR29 76) _).trans ((up_j (by decide)).trans g28_0)
  have g29_3 : R29 76 3 = some 78 := (congrFun (congrFun hR29 76) _).trans ((up_j (by decide)).trans g28_3)
  have g29_4 : R29 76 4 = some 79 := (congrFun (congrFun hR29 76) _).trans ((up_j (by decide)).trans g28_4)
  have g29_6 : R29 76 6 = some 80 := (congrFun (congrFun hR29 76) _).trans ((up_j (by decide)).trans g28_6)
  have g29_7 : R29 76 7 = some 81 := (congrFun (congrFun hR29 76) _).trans ((up_j (by decide)).trans g28_7)
  have g29_9 : R29 76 9 = some 82 := (congrFun (congrFun hR29 76) _).trans ((up_j (by decide)).trans g28_9)
  have g29_10 : R29 76 10 = some 83 := (congrFun (congrFun hR29 76) _).trans ((up_j (by decide)).trans g28_10)
  have g29_12 : R29 76 12 = some 84 := (congrFun (congrFun hR29 76) _).trans ((up_j (by decide)).trans g28_12)
  have g29_13 : R29 76 13 = some 85 := (congrFun (congrFun hR29 76) _).trans ((up_j (by decide)).trans g28_13)
  have g29_19 : R29 76 19 = some 86 := (congrFun (congrFun hR29 76) _).trans ((up_j (by decide)).trans g28_19)
  have g29_20 : R29 76 20 = some 87 := (congrFun (congrFun hR29 76) _).trans ((up_j (by decide)).trans g28_20)
  have g29_21 : R29 76 21 = some 88 := (congrFun (congrFun hR29 76) _).trans ((up_j (by decide)).trans g28_21)
  have g29_22 : R29 76 22 = some 89 := (congrFun (congrFun hR29 76) _).trans ((up_j (by decide)).trans g28_22)
  have g29_24 : R29 76 24 = some 90 := (congrFun (congrFun hR29 76) _).trans ((up_j (by decide)).trans g28_24)
  have g29_25 : R29 76 25 = some 91 := (congrFun (congrFun hR29 76) _).trans ((up_j (by decide)).trans g28_25)
  have g29_26 : R29 76 26 = some 92 := (congrFun (congrFun hR29 76) _).trans ((up_j (by decide)).trans g28_26)
  have g29_28 : R29 76 28 = some 93 := (congrFun (congrFun hR29 76) _).trans ((up_j (by decide)).trans g28_28)
  have g29_29 : R29 76 29 = some 94 := (congrFun (congrFun hR29 76) _).trans ((up_j (by decide)).trans g28_29)
  have g29_30 : R29 76 30 = some 95 := (congrFun (congrFun hR29 76) _).trans ((up_j (by decide)).trans g28_30)
  have g29_31 : R29 76 31 = some 96 := (congrFun (congrFun hR29 76) _).trans ((up_j (by decide)).trans g28_31)
  have g29_32 : R29 76 32 = some 97 := (congrFun (congrFun hR29 76) _).trans ((up_j (by decide)).trans g28_32)
  have g29_36 : R29 76 36 = some 98 := (congrFun (congrFun hR29 76) _).trans ((up_j (by decide)).trans g28_36)
  have g29_38 : R29 76 38 = some 99 := (congrFun (congrFun hR29 76) _).trans ((up_j (by decide)).trans g28_38)
  have g29_39 : R29 76 39 = some 100 := (congrFun (congrFun hR29 76) _).trans ((up_j (by decide)).trans g28_39)
  have g29_40 : R29 76 40 = some 101 := (congrFun (congrFun hR29 76) _).trans ((up_j (by decide)).trans g28_40)
  have g29_41 : R29 76 41 = some 102 := (congrFun (congrFun hR29 76) _).trans ((up_j (by decide)).trans g28_41)
  have g29_42 : R29 76 42 = some 103 := (congrFun (congrFun hR29 76) _).trans ((up_j (by decide)).trans g28_42)
  have g29_47 : R29 76 47 = some 104 := (congrFun (congrFun hR29 76) _).trans ((up_j (by decide)).trans g28_47)
  have g29_53 : R29 76 53 = some 105 := (congrFun (congrFun hR29 76) _).trans up_s
  have jf29 := (fr_rw0 c29.1).1
  have kf29 := (fr_rw0 c29.1).2.1
  have rf29 := (fr_rw0 c29.1).2.2
  have c30 := CS_arr (f := 54) c29 (by omega) (by omega) R0_106
  have e29 : EE d 138 232 [some (.ref 76)] [] (TS L 106) J K R29 = EE d 138 240 [some (.ref 76)] [] (TS L 107) J K (mm_up R29 76 54 (some 106)) := by
    have s76 : (TS L 107)[76]? = some (11, 58) := rfl
    simp (disch := first | assumption | omega | exact bi_lo | exact bi_hi | exact bi_01 | exact jcmp_lo | exact jcmp_hi | exact (jor_r _ _).1 | exact (jor_r _ _).2 | exact (jand_r _ _).1 | exact (jand_r _ _).2) only [x138_232, x138_233, x138_235, x138_237, kb_some, kb_none, clr_vi, clr_ref, clr_null, clr_none, va_rf_some, va_rf_none, ↓bi_ite_t, ↓bi_ite_f, ↓jc_lt_t, ↓jc_lt_f, ↓jc_gt_t, ↓jc_gt_f, ↓jc_le_t, ↓jc_le_f, ↓jc_ge_t, ↓jc_ge_f, ↓jc_eq_t, ↓jc_eq_f, ↓if_pos, ↓if_neg, Int.reduceToNat, tl_106, tk_106, jf29, kf29, rf29]
  obtain ⟨R30, hR30⟩ : ∃ X, X = mm_up R29 76 54 (some 106) := ⟨_, rfl⟩
  rw [← hR30] at e29 c30
  have g30_0 : R30 76 0 = some 77 := (congrFun (congrFun hR30 76) _).trans ((up_j (by decide)).trans g29_0)
  have g30_3 : R30 76 3 = some 78 := (congrFun (congrFun hR30 76) _).trans ((up_j (by decide)).trans g29_3)
  have g30_4 : R30 76 4 = some 79 := (congrFun (congrFun hR30 76) _).trans ((up_j (by decide)).trans g29_4)
  have g30_6 : R30 76 6 = some 80 := (congrFun (congrFun hR30 76) _).trans ((up_j (by decide)).trans g29_6)
  have g30_7 : R30 76 7 = some 81 := (congrFun (congrFun hR30 76) _).trans ((up_j (by decide)).trans g29_7)
  have g30_9 : R30 76 9 = some 82 := (congrFun (congrFun hR30 76) _).trans ((up_j (by decide)).trans g29_9)
  have g30_10 : R30 76 10 = some 83 := (congrFun (congrFun hR30 76) _).trans ((up_j (by decide)).trans g29_10)
  have g30_12 : R30 76 12 = some 84 := (congrFun (congrFun hR30 76) _).trans ((up_j (by decide)).trans g29_12)
  have g30_13 : R30 76 13 = some 85 := (congrFun (congrFun hR30 76) _).trans ((up_j (by decide)).trans g29_13)
  have g30_19 : R30 76 19 = some 86 := (congrFun (congrFun hR30 76) _).trans ((up_j (by decide)).trans g29_19)
  have g30_20 : R30 76 20 = some 87 := (congrFun (congrFun hR30 76) _).trans ((up_j (by decide)).trans g29_20)
  have g30_21 : R30 76 21 = some 88 := (congrFun (congrFun hR30 76) _).trans ((up_j (by decide)).trans g29_21)
  have g30_22 : R30 76 22 = some 89 := (congrFun (congrFun hR30 76) _).trans ((up_j (by decide)).trans g29_22)
  have g30_24 : R30 76 24 = some 90 := (congrFun (congrFun hR30 76) _).trans ((up_j (by decide)).trans g29_24)
  have g30_25 : R30 76 25 = some 91 := (congrFun (congrFun hR30 76) _).trans ((up_j (by decide)).trans g29_25)
  have g30_26 : R30 76 26 = some 92 := (congrFun (congrFun hR30 76) _).trans ((up_j (by decide)).trans g29_26)
  have g30_28 : R30 76 28 = some 93 := (congrFun (congrFun hR30 76) _).trans ((up_j (by decide)).trans g29_28)
  have g30_29 : R30 76 29 = some 94 := (congrFun (congrFun hR30 76) _).trans ((up_j (by decide)).trans g29_29)
  have g30_30 : R30 76 30 = some 95 := (congrFun (congrFun hR30 76) _).trans ((up_j (by decide)).trans g29_30)
  have g30_31 : R30 76 31 = some 96 := (congrFun (congrFun hR30 76) _).trans ((up_j (by decide)).trans g29_31)
  have g30_32 : R30 76 32 = some 97 := (congrFun (congrFun hR30 76) _).trans ((up_j (by decide)).trans g29_32)
  have g30_36 : R30 76 36 = some 98 := (congrFun (congrFun hR30 76) _).trans ((up_j (by decide)).trans g29_36)
  have g30_38 : R30 76 38 = some 99 := (congrFun (congrFun hR30 76) _).trans ((up_j (by decide)).trans g29_38)
  have g30_39 : R30 76 39 = some 100 := (congrFun (congrFun hR30 76) _).trans ((up_j (by decide)).trans g29_39)
  have g30_40 : R30 76 40 = some 101 := (congrFun (congrFun hR30 76) _).trans ((up_j (by decide)).trans g29_40)
  have g30_41 : R30 76 41 = some 102 := (congrFun (congrFun hR30 76) _).trans ((up_j (by decide)).trans g29_41)
  have g30_42 : R30 76 42 = some 103 := (congrFun (congrFun hR30 76) _).trans ((up_j (by decide)).trans g29_42)
  have g30_47 : R30 76 47 = some 104 := (congrFun (congrFun hR30 76) _).trans ((up_j (by decide)).trans g29_47)
  have g30_53 : R30 76 53 = some 105 := (congrFun (congrFun hR30 76) _).trans ((up_j (by decide)).trans g29_53)
  have g30_54 : R30 76 54 = some 106 := (congrFun (congrFun hR30 76) _).trans up_s
  have jf30 := (fr_rw0 c30.1).1
  have kf30 := (fr_rw0 c30.1).2.1
  have rf30 := (fr_rw0 c30.1).2.2
  have c31 := CS_arr (f := 55) c30 (by omega) (by omega) R0_107
  have e30 : EE d 138 240 [some (.ref 76)] [] (TS L 107) J K R30 = EE d 138 249 [some (.ref 76)] [] (TS L 108) J K (mm_up R30 76 55 (some 107)) := by
    have s76 : (TS L 108)[76]? = some (11, 58) := rfl
    simp (disch := first | assumption | omega | exact bi_lo | exact bi_hi | exact bi_01 | exact jcmp_lo | exact jcmp_hi | exact (jor_r _ _).1 | exact (jor_r _ _).2 | exact (jand_r _ _).1 | exact (jand_r _ _).2) only [x138_240, x138_241, x138_244, x138_246, kb_some, kb_none, clr_vi, clr_ref, clr_null, clr_none, va_rf_some, va_rf_none, ↓bi_ite_t, ↓bi_ite_f, ↓jc_lt_t, ↓jc_lt_f, ↓jc_gt_t, ↓jc_gt_f, ↓jc_le_t, ↓jc_le_f, ↓jc_ge_t, ↓jc_ge_f, ↓jc_eq_t, ↓jc_eq_f, ↓if_pos, ↓if_neg, Int.reduceToNat, tl_107, tk_107, jf30, kf30, rf30]
  obtain ⟨R31, hR31⟩ : ∃ X, X = mm_up R30 76 55 (some 107) := ⟨_, rfl⟩
  rw [← hR31] at e30 c31
  have g31_0 : R31 76 0 = some 77 := (congrFun (congrFun hR31 76) _).trans ((up_j (by decide)).trans g30_0)
  have g31_3 : R31 76 3 = some 78 := (congrFun (congrFun hR31 76) _).trans ((up_j (by decide)).trans g30_3)
  have g31_4 : R31 76 4 = some 79 := (congrFun (congrFun hR31 76) _).trans ((up_j (by decide)).trans g30_4)
  have g31_6 : R31 76 6 = some 80 := (congrFun (congrFun hR31 76) _).trans ((up_j (by decide)).trans g30_6)
  have g31_7 : R31 76 7 = some 81 := (congrFun (congrFun hR31 76) _).trans ((up_j (by decide)).trans g30_7)
  have g31_9 : R31 76 9 = some 82 := (congrFun (congrFun hR31 76) _).trans ((up_j (by decide)).trans g30_9)
  have g31_10 : R31 76 10 = some 83 := (congrFun (congrFun hR31 76) _).trans ((up_j (by decide)).trans g30_10)
  have g31_12 : R31 76 12 = some 84 := (congrFun (congrFun hR31 76) _).trans ((up_j (by decide)).trans g30_12)
  have g31_13 : R31 76 13 = some 85 := (congrFun (congrFun hR31 76) _).trans ((up_j (by decide)).trans g30_13)
  have g31_19 : R31 76 19 = some 86 := (congrFun (congrFun hR31 76) _).trans ((up_j (by decide)).trans g30_19)
  have g31_20 : R31 76 20 = some 87 := (congrFun (congrFun hR31 76) _).trans ((up_j (by decide)).trans g30_20)
  have g31_21 : R31 76 21 = some 88 := (congrFun (congrFun hR31 76) _).trans ((up_j (by decide)).trans g30_21)
  have g31_22 : R31 76 22 = some 89 := (congrFun (congrFun hR31 76) _).trans ((up_j (by decide)).trans g30_22)
  have g31_24 : R31 76 24 = some 90 := (congrFun (congrFun hR31 76) _).trans ((up_j (by decide)).trans g30_24)
  have g31_25 : R31 76 25 = some 91 := (congrFun (congrFun hR31 76) _).trans ((up_j (by decide)).trans g30_25)
  have g31_26 : R31 76 26 = some 92 := (congrFun (congrFun hR31 76) _).trans ((up_j (by decide)).trans g30_26)
  have g31_28 : R31 76 28 = some 93 := (congrFun (congrFun hR31 76) _).trans ((up_j (by decide)).trans g30_28)
  have g31_29 : R31 76 29 = some 94 := (congrFun (congrFun hR31 76) _).trans ((up_j (by decide)).trans g30_29)
  have g31_30 : R31 76 30 = some 95 := (congrFun (congrFun hR31 76) _).trans ((up_j (by decide)).trans g30_30)
  have g31_31 : R31 76 31 = some 96 := (congrFun (congrFun hR31 76) _).trans ((up_j (by decide)).trans g30_31)
  have g31_32 : R31 76 32 = some 97 := (congrFun (congrFun hR31 76) _).trans ((up_j (by decide)).trans g30_32)
  have g31_36 : R31 76 36 = some 98 := (congrFun (congrFun hR31 76) _).trans ((up_j (by decide)).trans g30_36)
  have g31_38 : R31 76 38 = some 99 := (congrFun (congrFun hR31 76) _).trans ((up_j (by decide)).trans g30_38)
  have g31_39 : R31 76 39 = some 100 := (congrFun (congrFun hR31 76) _).trans ((up_j (by decide)).trans g30_39)
  have g31_40 : R31 76 40 = some 101 := (congrFun (congrFun hR31 76) _).trans ((up_j (by decide)).trans g30_40)
  have g31_41 : R31 76 41 = some 102 := (congrFun (congrFun hR31 76) _).trans ((up_j (by decide)).trans g30_41)
  have g31_42 : R31 76 42 = some 103 := (congrFun (congrFun hR31 76) _).trans ((up_j (by decide)).trans g30_42)
  have g31_47 : R31 76 47 = some 104 := (congrFun (congrFun hR31 76) _).trans ((up_j (by decide)).trans g30_47)
  have g31_53 : R31 76 53 = some 105 := (congrFun (congrFun hR31 76) _).trans ((up_j (by decide)).trans g30_53)
  have g31_54 : R31 76 54 = some 106 := (congrFun (congrFun hR31 76) _).trans ((up_j (by decide)).trans g30_54)
  have g31_55 : R31 76 55 = some 107 := (congrFun (congrFun hR31 76) _).trans up_s
  have jf31 := (fr_rw0 c31.1).1
  have kf31 := (fr_rw0 c31.1).2.1
  have rf31 := (fr_rw0 c31.1).2.2
  have c32 := CS_arr (f := 56) c31 (by omega) (by omega) R0_108
  have e31 : EE d 138 249 [some (.ref 76)] [] (TS L 108) J K R31 = EE d 138 257 [some (.ref 76)] [] (TS L 109) J K (mm_up R31 76 56 (some 108)) := by
    have s76 : (TS L 109)[76]? = some (11, 58) := rfl
    simp (disch := first | assumption | omega | exact bi_lo | exact bi_hi | exact bi_01 | exact jcmp_lo | exact jcmp_hi | exact (jor_r _ _).1 | exact (jor_r _ _).2 | exact (jand_r _ _).1 | exact (jand_r _ _).2) only [x138_249, x138_250, x138_252, x138_254, kb_some, kb_none, clr_vi, clr_ref, clr_null, clr_none, va_rf_some, va_rf_none, ↓bi_ite_t, ↓bi_ite_f, ↓jc_lt_t, ↓jc_lt_f, ↓jc_gt_t, ↓jc_gt_f, ↓jc_le_t, ↓jc_le_f, ↓jc_ge_t, ↓jc_ge_f, ↓jc_eq_t, ↓jc_eq_f, ↓if_pos, ↓if_neg, Int.reduceToNat, tl_108, tk_108, jf31, kf31, rf31]
  obtain ⟨R32, hR32⟩ : ∃ X, X = mm_up R31 76 56 (some 108) := ⟨_, rfl⟩
  rw [← hR32] at e31 c32
  have g32_0 : R32 76 0 = some 77 := (congrFun (congrFun hR32 76) _).trans ((up_j (by decide)).trans g31_0)
  have g32_3 : R32 76 3 = some 78 := (congrFun (congrFun hR32 76) _).trans ((up_j (by decide)).trans g31_3)
  have g32_4 : R32 76 4 = some 79 := (congrFun (congrFun hR32 76) _).trans ((up_j (by decide)).trans g31_4)
  have g32_6 : R32 76 6 = some 80 := (congrFun (congrFun hR32 76) _).trans ((up_j (by decide)).trans g31_6)
  have g32_7 : R32 76 7 = some 81 := (congrFun (congrFun hR32 76) _).trans ((up_j (by decide)).trans g31_7)
  have g32_9 : R32 76 9 = some 82 := (congrFun (congrFun hR32 76) _).trans ((up_j (by decide)).trans g31_9)
  have g32_10 : R32 76 10 = some 83 := (congrFun (congrFun hR32 76) _).trans ((up_j (by decide)).trans g31_10)
  have g32_12 : R32 76 12 = some 84 := (congrFun (congrFun hR32 76) _).trans ((up_j (by decide)).trans g31_12)
  have g32_13 : R32 76 13 = some 85 := (congrFun (congrFun hR32 76) _).trans ((up_j (by decide)).trans g31_13)
  have g32_19 : R32 76 19 = some 86 := (congrFun (congrFun hR32 76) _).trans ((up_j (by decide)).trans g31_19)
  have g32_20 : R32 76 20 = some 87 := (congrFun (congrFun hR32 76) _).trans ((up_j (by decide)).trans g31_20)
  have g32_21 : R32 76 21 = some 88 := (congrFun (congrFun hR32 76) _).trans ((up_j (by decide)).trans g31_21)
  have g32_22 : R32 76 22 = some 89 := (congrFun (congrFun hR32 76) _).trans ((up_j (by decide)).trans g31_22)
  have g32_24 : R32 76 24 = some 90 := (congrFun (congrFun hR32 76) _).trans ((up_j (by decide)).trans g31_24)
  have g32_25 : R32 76 25 = some 91 := (congrFun (congrFun hR32 76) _).trans ((up_j (by decide)).trans g31_25)
  have g32_26 : R32 76 26 = some 92 := (congrFun (congrFun hR32 76) _).trans ((up_j (by decide)).trans g31_26)
  have g32_28 : R32 76 28 = some 93 := (congrFun (congrFun hR32 76) _).trans ((up_j (by decide)).trans g31_28)
  have g32_29 : R32 76 29 = some 94 := (congrFun (congrFun hR32 76) _).trans ((up_j (by decide)).trans g31_29)
  have g32_30 : R32 76 30 = some 95 := (congrFun (congrFun hR32 76) _).trans ((up_j (by decide)).trans g31_30)
  have g32_31 : R32 76 31 = some 96 := (congrFun (congrFun hR32 76) _).trans ((up_j (by decide)).trans g31_31)
  have g32_32 : R32 76 32 = some 97 := (congrFun (congrFun hR32 76) _).trans ((up_j (by decide)).trans g31_32)
  have g32_36 : R32 76 36 = some 98 := (congrFun (congrFun hR32 76) _).trans ((up_j (by decide)).trans g31_36)
  have g32_38 : R32 76 38 = some 99 := (congrFun (congrFun hR32 76) _).trans ((up_j (by decide)).trans g31_38)
  have g32_39 : R32 76 39 = some 100 := (congrFun (congrFun hR32 76) _).trans ((up_j (by decide)).trans g31_39)
  have g32_40 : R32 76 40 = some 101 := (congrFun (congrFun hR32 76) _).trans ((up_j (by decide)).trans g31_40)
  have g32_41 : R32 76 41 = some 102 := (congrFun (congrFun hR32 76) _).trans ((up_j (by decide)).trans g31_41)
  have g32_42 : R32 76 42 = some 103 := (congrFun (congrFun hR32 76) _).trans ((up_j (by decide)).trans g31_42)
  have g32_47 : R32 76 47 = some 104 := (congrFun (congrFun hR32 76) _).trans ((up_j (by decide)).trans g31_47)
  have g32_53 : R32 76 53 = some 105 := (congrFun (congrFun hR32 76) _).trans ((up_j (by decide)).trans g31_53)
  have g32_54 : R32 76 54 = some 106 := (congrFun (congrFun hR32 76) _).trans ((up_j (by decide)).trans g31_54)
  have g32_55 : R32 76 55 = some 107 := (congrFun (congrFun hR32 76) _).trans ((up_j (by decide)).trans g31_55)
  have g32_56 : R32 76 56 = some 108 := (congrFun (congrFun hR32 76) _).trans up_s
  have jf32 := (fr_rw0 c32.1).1
  have kf32 := (fr_rw0 c32.1).2.1
  have rf32 := (fr_rw0 c32.1).2.2
  have c33 := CS_arr (f := 57) c32 (by omega) (by omega) R0_109
  have e32 : EE d 138 257 [some (.ref 76)] [] (TS L 109) J K R32 = EE d 138 265 [some (.ref 76)] [] (TS L 110) J K (mm_up R32 76 57 (some 109)) := by
    have s76 : (TS L 110)[76]? = some (11, 58) := rfl
    simp (disch := first | assumption | omega | exact bi_lo | exact bi_hi | exact bi_01 | exact jcmp_lo | exact jcmp_hi | exact (jor_r _ _).1 | exact (jor_r _ _).2 | exact (jand_r _ _).1 | exact (jand_r _ _).2) only [x138_257, x138_258, x138_260, x138_262, kb_some, kb_none, clr_vi, clr_ref, clr_null, clr_none, va_rf_some, va_rf_none, ↓bi_ite_t, ↓bi_ite_f, ↓jc_lt_t, ↓jc_lt_f, ↓jc_gt_t, ↓jc_gt_f, ↓jc_le_t, ↓jc_le_f, ↓jc_ge_t, ↓jc_ge_f, ↓jc_eq_t, ↓jc_eq_f, ↓if_pos, ↓if_neg, Int.reduceToNat, tl_109, tk_109, jf32, kf32, rf32]
  obtain ⟨R33, hR33⟩ : ∃ X, X = mm_up R32 76 57 (some 109) := ⟨_, rfl⟩
  rw [← hR33] at e32 c33
  have g33_0 : R33 76 0 = some 77 := (congrFun (congrFun hR33 76) _).trans ((up_j (by decide)).trans g32_0)
  have g33_3 : R33 76 3 = some 78 := (congrFun (congrFun hR33 76) _).trans ((up_j (by decide)).trans g32_3)
  have g33_4 : R33 76 4 = some 79 := (congrFun (congrFun hR33 76) _).trans ((up_j (by decide)).trans g32_4)
  have g33_6 : R33 76 6 = some 80 := (congrFun (congrFun hR33 76) _).trans ((up_j (by decide)).trans g32_6)
  have g33_7 : R33 76 7 = some 81 := (congrFun (congrFun hR33 76) _).trans ((up_j (by decide)).trans g32_7)
  have g33_9 : R33 76 9 = some 82 := (congrFun (congrFun hR33 76) _).trans ((up_j (by decide)).trans g32_9)
  have g33_10 : R33 76 10 = some 83 := (congrFun (congrFun hR33 76) _).trans ((up_j (by decide)).trans g32_10)
  have g33_12 : R33 76 12 = some 84 := (congrFun (congrFun hR33 76) _).trans ((up_j (by decide)).trans g32_12)
  have g33_13 : R33 76 13 = some 85 := (congrFun (congrFun hR33 76) _).trans ((up_j (by decide)).trans g32_13)
  have g33_19 : R33 76 19 = some 86 := (congrFun (congrFun hR33 76) _).trans ((up_j (by decide)).trans g32_19)
  have g33_20 : R33 76 20 = some 87 := (congrFun (congrFun hR33 76) _).trans ((up_j (by decide)).trans g32_20)
  have g33_21 : R33 76 21 = some 88 := (congrFun (congrFun hR33 76) _).trans ((up_j (by decide)).trans g32_21)
  have g33_22 : R33 76 22 = some 89 := (congrFun (congrFun hR33 76) _).trans ((up_j (by decide)).trans g32_22)
  have g33_24 : R33 76 24 = some 90 := (congrFun (congrFun hR33 76) _).trans ((up_j (by decide)).trans g32_24)
  have g33_25 : R33 76 25 = some 91 := (congrFun (congrFun hR33 76) _).trans ((up_j (by decide)).trans g32_25)
  have g33_26 : R33 76 26 = some 92 := (congrFun (congrFun hR33 76) _).trans ((up_j (by decide)).trans g32_26)
  have g33_28 : R33 76 28 = some 93 := (congrFun (congrFun hR33 76) _).trans ((up_j (by decide)).trans g32_28)
  have g33_29 : R33 76 29 = some 94 := (congrFun (congrFun hR33 76) _).trans ((up_j (by decide)).trans g32_29)
  have g33_30 : R33 76 30 = some 95 := (congrFun (congrFun hR33 76) _).trans ((up_j (by decide)).trans g32_30)
  have g33_31 : R33 76 31 = some 96 := (congrFun (congrFun hR33 76) _).trans ((up_j (by decide)).trans g32_31)
  have g33_32 : R33 76 32 = some 97 := (congrFun (congrFun hR33 76) _).trans ((up_j (by decide)).trans g32_32)
  have g33_36 : R33 76 36 = some 98 := (congrFun (congrFun hR33 76) _).trans ((up_j (by decide)).trans g32_36)
  have g33_38 : R33 76 38 = some 99 := (congrFun (congrFun hR33 76) _).trans ((up_j (by decide)).trans g32_38)
  have g33_39 : R33 76 39 = some 100 := (congrFun (congrFun hR33 76) _).trans ((up_j (by decide)).trans g32_39)
  have g33_40 : R33 76 40 = some 101 := (congrFun (congrFun hR33 76) _).trans ((up_j (by decide)).trans g32_40)
  have g33_41 : R33 76 41 = some 102 := (congrFun (congrFun hR33 76) _).trans ((up_j (by decide)).trans g32_41)
  have g33_42 : R33 76 42 = some 103 := (congrFun (congrFun hR33 76) _).trans ((up_j (by decide)).trans g32_42)
  have g33_47 : R33 76 47 = some 104 := (congrFun (congrFun hR33 76) _).trans ((up_j (by decide)).trans g32_47)
  have g33_53 : R33 76 53 = some 105 := (congrFun (congrFun hR33 76) _).trans ((up_j (by decide)).trans g32_53)
  have g33_54 : R33 76 54 = some 106 := (congrFun (congrFun hR33 76) _).trans ((up_j (by decide)).trans g32_54)
  have g33_55 : R33 76 55 = some 107 := (congrFun (congrFun hR33 76) _).trans ((up_j (by decide)).trans g32_55)
  have g33_56 : R33 76 56 = some 108 := (congrFun (congrFun hR33 76) _).trans ((up_j (by decide)).trans g32_56)
  have g33_57 : R33 76 57 = some 109 := (congrFun (congrFun hR33 76) _).trans up_s
  have hp : PR 76 R33 := by
    intro j q h
    match j, h with
    | 0, h => exact (g33_0).trans h
    | 1, h => exact nomatch (show (none : Option Nat) = some q from h)
    | 2, h => exact nomatch (show (none : Option Nat) = some q from h)
    | 3, h => exact (g33_3).trans h
    | 4, h => exact (g33_4).trans h
    | 5, h => exact nomatch (show (none : Option Nat) = some q from h)
    | 6, h => exact (g33_6).trans h
    | 7, h => exact (g33_7).trans h
    | 8, h => exact nomatch (show (none : Option Nat) = some q from h)
    | 9, h => exact (g33_9).trans h
    | 10, h => exact (g33_10).trans h
    | 11, h => exact nomatch (show (none : Option Nat) = some q from h)
    | 12, h => exact (g33_12).trans h
    | 13, h => exact (g33_13).trans h
    | 14, h => exact nomatch (show (none : Option Nat) = some q from h)
    | 15, h => exact nomatch (show (none : Option Nat) = some q from h)
    | 16, h => exact nomatch (show (none : Option Nat) = some q from h)
    | 17, h => exact nomatch (show (none : Option Nat) = some q from h)
    | 18, h => exact nomatch (show (none : Option Nat) = some q from h)
    | 19, h => exact (g33_19).trans h
    | 20, h => exact (g33_20).trans h
    | 21, h => exact (g33_21).trans h
    | 22, h => exact (g33_22).trans h
    | 23, h => exact nomatch (show (none : Option Nat) = some q from h)
    | 24, h => exact (g33_24).trans h
    | 25, h => exact (g33_25).trans h
    | 26, h => exact (g33_26).trans h
    | 27, h => exact nomatch (show (none : Option Nat) = some q from h)
    | 28, h => exact (g33_28).trans h
    | 29, h => exact (g33_29).trans h
    | 30, h => exact (g33_30).trans h
    | 31, h => exact (g33_31).trans h
    | 32, h => exact (g33_32).trans h
    | 33, h => exact nomatch (show (none : Option Nat) = some q from h)
    | 34, h => exact nomatch (show (none : Option Nat) = some q from h)
    | 35, h => exact nomatch (show (none : Option Nat) = some q from h)
    | 36, h => exact (g33_36).trans h
    | 37, h => exact nomatch (show (none : Option Nat) = some q from h)
    | 38, h => exact (g33_38).trans h
    | 39, h => exact (g33_39).trans h
    | 40, h => exact (g33_40).trans h
    | 41, h => exact (g33_41).trans h
    | 42, h => exact (g33_42).trans h
    | 43, h => exact nomatch (show (none : Option Nat) = some q from h)
    | 44, h => exact nomatch (show (none : Option Nat) = some q from h)
    | 45, h => exact nomatch (show (none : Option Nat) = some q from h)
    | 46, h => exact nomatch (show (none : Option Nat) = some q from h)
    | 47, h => exact (g33_47).trans h
    | 48, h => exact nomatch (show (none : Option Nat) = some q from h)
    | 49, h => exact nomatch (show (none : Option Nat) = some q from h)
    | 50, h => exact nomatch (show (none : Option Nat) = some q from h)
    | 51, h => exact nomatch (show (none : Option Nat) = some q from h)
    | 52, h => exact nomatch (show (none : Option Nat) = some q from h)
    | 53, h => exact (g33_53).trans h
    | 54, h => exact (g33_54).trans h
    | 55, h => exact (g33_55).trans h
    | 56, h => exact (g33_56).trans h
    | 57, h => exact (g33_57).trans h
    | j + 58, h => exact nomatch (show (none : Option Nat) = some q from h)
  refine ⟨R33, ?_, CS_IC c33 hp⟩
  simp (disch := first | assumption | omega | exact bi_lo | exact bi_hi | exact bi_01 | exact jcmp_lo | exact jcmp_hi | exact (jor_r _ _).1 | exact (jor_r _ _).2 | exact (jand_r _ _).1 | exact (jand_r _ _).2) only [x138_0, x138_1, kb_some, kb_none, clr_vi, clr_ref, clr_null, clr_none, va_rf_some, va_rf_none, ↓bi_ite_t, ↓bi_ite_f, ↓jc_lt_t, ↓jc_lt_f, ↓jc_gt_t, ↓jc_gt_f, ↓jc_le_t, ↓jc_le_f, ↓jc_ge_t, ↓jc_ge_f, ↓jc_eq_t, ↓jc_eq_f, ↓if_pos, ↓if_neg]
  rw [e0, e1, e2, e3, e4, e5, e6, e7, e8, e9, e10, e11, e12, e13, e14, e15, e16, e17, e18, e19, e20, e21, e22, e23, e24, e25, e26, e27, e28, e29, e30, e31, e32]
  have s76 : (TS L 110)[76]? = some (11, 58) := rfl
  simp (disch := first | assumption | omega | exact bi_lo | exact bi_hi | exact bi_01 | exact jcmp_lo | exact jcmp_hi | exact (jor_r _ _).1 | exact (jor_r _ _).2 | exact (jand_r _ _).1 | exact (jand_r _ _).2) only [x138_265, x138_266, x138_267, x138_270, kb_some, kb_none, clr_vi, clr_ref, clr_null, clr_none, va_rf_some, va_rf_none, ↓bi_ite_t, ↓bi_ite_f, ↓jc_lt_t, ↓jc_lt_f, ↓jc_gt_t, ↓jc_gt_f, ↓jc_le_t, ↓jc_le_f, ↓jc_ge_t, ↓jc_ge_f, ↓jc_eq_t, ↓jc_eq_f, ↓if_pos, ↓if_neg]
end
