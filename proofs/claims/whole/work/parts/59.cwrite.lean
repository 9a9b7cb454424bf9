/-! the class writes things -/
theorem apL_a {a b j : Nat} {J : mJ} (h : a ≠ b) (hj : j ≠ 1) : ∀ {l : List Int} {J : mJ}, apL a b J l a j = J a j := by
  intro l
  induction l with
  | nil => intro J; rfl
  | cons v l ih =>
    intro J
    rw [apL_cons, ih]
    unfold apd
    rw [up_j hj, up_ne h]
theorem apL_ext {a b : Nat} {J : mJ} (h : a ≠ b) (h0 : J a 1 = 0) {l : List Int} (x j : Nat) : apL a b J l x j = if x = b ∧ j < l.length then l.getD j 0 else if x = a ∧ j = 1 then (l.length : Int) else J x j := by
  by_cases c1 : x = b
  · subst c1
    by_cases c2 : j < l.length
    · rw [if_pos ⟨rfl, c2⟩]
      have := apL_hi (l := l) (J := J) h (by omega) j c2
      rw [h0] at this
      rw [show (0 : Int).toNat + j = j by simp] at this
      rw [this, List.getD_eq_getElem?_getD, List.getElem?_eq_getElem c2]; rfl
    · rw [if_neg (fun q => c2 q.2), if_neg (fun q => h q.1.symm)]
      have key : ∀ (l : List Int) (J : mJ), 0 ≤ J a 1 → ∀ j : Nat, J a 1 + l.length ≤ j → apL a x J l x j = J x j := by
        intro l
        induction l with
        | nil => intro J h0 j hj; rfl
        | cons v l ih =>
          intro J h0 j hj
          have e : apd a x J v a 1 = J a 1 + 1 := up_s
          rw [List.length_cons] at hj
          rw [apL_cons, ih _ (by omega) j (by omega)]
          unfold apd
          rw [up_ne (Ne.symm h), up_j (by omega)]
      exact key l J (by omega) j (by omega)
  · rw [if_neg (fun q => c1 q.1)]
    by_cases c2 : x = a
    · subst c2
      by_cases c3 : j = 1
      · subst c3
        rw [if_pos ⟨rfl, rfl⟩, apL_sz h, h0]; omega
      · rw [if_neg (fun q => c3 q.2)]
        exact apL_a (J := J) h c3
    · rw [if_neg (fun q => c2 q.1), apL_o ⟨c2, c1⟩]
theorem apL_set {a b p : Nat} {J : mJ} (h : a ≠ b) (h0 : J a 1 = 0) {l : List Int} {v : Int} (hp : p < l.length) : mm_up (apL a b J l) b p v = apL a b J (l.set p v) := by
  funext x j
  rw [apL_ext h h0]
  unfold mm_up
  rw [apL_ext h h0, List.length_set]
  by_cases c : x = b ∧ j = p
  · rw [if_pos c, if_pos ⟨c.1, by omega⟩, c.2]
    simp [hp]
  · rw [if_neg c]
    by_cases c2 : x = b ∧ j < l.length
    · rw [if_pos c2, if_pos c2, List.getD_eq_getElem?_getD, List.getD_eq_getElem?_getD, List.getElem?_set_ne (by omega)]
    · rw [if_neg c2, if_neg c2]
/-- what the writer needs of the things that it writes -/
def WT (L : Nat) (J0 : mJ) (R : mm_R) (t ty wo le sp so co ce : Nat) : Prop := wfR R ∧ isT (SH L) R t ty wo le sp so co ce ∧ (t < 57 ∧ ty < 57 ∧ wo < 57 ∧ le < 57 ∧ sp < 57 ∧ so < 57 ∧ co < 57 ∧ ce < 57) ∧ J0 58 1 = 0 ∧ (0 ≤ J0 t 6 ∧ J0 t 6 ≤ 40) ∧ (0 ≤ J0 co 1 ∧ J0 co 1 ≤ 120) ∧ (1 ≤ J0 57 1 ∧ J0 57 1 ≤ 3)
section
variable {L d t ty wo le sp so co ce : Nat} {J0 K : mJ} {R : mm_R} {l : List Int} {v w y : Int} {g : Int → Int}
theorem wo_append (hR : wfR R) (h0 : J0 58 1 = 0) (hl : l.length < 240) : EE d 4 0 [some (.ref 58), some (vi y)] [] (SH L) (apL 58 59 J0 l) K R = ok (some (vi 1)) (SH L) (apL 58 59 J0 (l ++ [y])) K R := by
  have hB : isB (SH L) R 58 59 240 := ⟨rfl, rr_lk hR rfl, rfl, by decide, by decide, by decide⟩
  have hz : apL 58 59 J0 l 58 1 = l.length := by rw [apL_sz (by decide), h0]; omega
  rw [c_append hB (by rw [hz]; omega)]
  rw [← apL_snoc]; rfl
theorem wo_size (hR : wfR R) (h0 : J0 58 1 = 0) : EE d 1 0 [some (.ref 58)] [] (SH L) (apL 58 59 J0 l) K R = ok (some (vi (l.length : Nat))) (SH L) (apL 58 59 J0 l) K R := by
  have hB : isB (SH L) R 58 59 240 := ⟨rfl, rr_lk hR rfl, rfl, by decide, by decide, by decide⟩
  have hz : apL 58 59 J0 l 58 1 = l.length := by rw [apL_sz (by decide), h0]; omega
  rw [c_size hB, hz]
theorem wo_replace (hR : wfR R) (h0 : J0 58 1 = 0) {p : Nat} (hp : p < l.length) (hl : l.length ≤ 240) : EE (d + 1) 5 0 [some (.ref 58), some (vi p), some (vi y)] [] (SH L) (apL 58 59 J0 l) K R = ok none (SH L) (apL 58 59 J0 (l.set p y)) K R := by
  have hB : isB (SH L) R 58 59 240 := ⟨rfl, rr_lk hR rfl, rfl, by decide, by decide, by decide⟩
  have hz : apL 58 59 J0 l 58 1 = l.length := by rw [apL_sz (by decide), h0]; omega
  rw [c_replace hB (by rw [hz]; omega) (by rw [hz]; omega), Int.toNat_natCast, apL_set (by decide) h0 hp]
theorem wo_check (hR : wfR R) (h0 : J0 58 1 = 0) {A P : List Int} (hv : 1 ≤ v ∧ v ≤ 3) (hl : (A ++ P).length ≤ 240) : EE (d + 1) 8 0 [some (.ref 58), some (vi v), some (vi (A.length : Nat)), some (vi (P.length : Nat)), none, none, none] [] (SH L) (apL 58 59 J0 (A ++ P)) K R = ok (some (vi (ckL v P 0))) (SH L) (apL 58 59 J0 (A ++ P)) K R := by
  have hB : isB (SH L) R 58 59 240 := ⟨rfl, rr_lk hR rfl, rfl, by decide, by decide, by decide⟩
  have hz : apL 58 59 J0 (A ++ P) 58 1 = (A ++ P).length := by rw [apL_sz (by decide), h0]; omega
  have hll := hl
  rw [List.length_append] at hll
  rw [c_checkBy hB (by rw [hz]; omega) (by omega) (by omega) (by omega), Int.toNat_natCast]
  rw [ckf_list P]
  intro k hk
  unfold bA
  rw [hz, if_pos (by rw [List.length_append]; omega), apL_ext (by decide) h0, if_pos ⟨rfl, by rw [List.length_append]; omega⟩]
  rw [show ((A.length : Int) + (k : Int)).toNat = A.length + k by omega, List.getD_eq_getElem?_getD, List.getElem?_append_right (by omega)]
  rw [show A.length + k - A.length = k by omega, List.getElem?_eq_getElem hk]; rfl
theorem w_isWholeBy (hw : -2147483648 ≤ w ∧ w ≤ 2147483647) : EE d 38 0 [some (vi w), some (vi 1), none] [] (SH L) J0 K R = ok (some (vi (bi (-128 ≤ w ∧ w ≤ 127)))) (SH L) J0 K R ∧ EE d 38 0 [some (vi w), some (vi 2), none] [] (SH L) J0 K R = ok (some (vi (bi (-32768 ≤ w ∧ w ≤ 32767)))) (SH L) J0 K R ∧ EE d 38 0 [some (vi w), some (vi 3), none] [] (SH L) J0 K R = ok (some (vi (bi (-8388608 ≤ w ∧ w ≤ 8388607)))) (SH L) J0 K R := by
  obtain ⟨k1, k2, k3⟩ := jshr_k hw
  refine ⟨?_, ?_, ?_⟩
  · by_cases c : w / 128 = 0
    · rw [bi_t (by omega)]
      simp (disch := first | assumption | omega | exact bi_lo | exact bi_hi | exact bi_01 | exact jcmp_lo | exact jcmp_hi | exact (jor_r _ _).1 | exact (jor_r _ _).2 | exact (jand_r _ _).1 | exact (jand_r _ _).2) only [x38_0, x38_1, x38_3, x38_4, x38_5, x38_6, x38_7, x38_8, x38_9, x38_10, x38_13, x38_14, x38_15, x38_18, x38_19, x38_22, x38_23, kb_some, kb_none, clr_vi, clr_ref, clr_null, clr_none, va_rf_some, va_rf_none, ↓bi_ite_t, ↓bi_ite_f, ↓jc_lt_t, ↓jc_lt_f, ↓jc_gt_t, ↓jc_gt_f, ↓jc_le_t, ↓jc_le_f, ↓jc_ge_t, ↓jc_ge_f, ↓jc_eq_t, ↓jc_eq_f, ↓if_pos, ↓if_neg, Int.reduceMul, Int.reduceSub, k1]
    · by_cases c2 : w / 128 = -1
      · rw [bi_t (by omega)]
        simp (disch := first | assumption | omega | exact bi_lo | exact bi_hi | exact bi_01 | exact jcmp_lo | exact jcmp_hi | exact (jor_r _ _).1 | exact (jor_r _ _).2 | exact (jand_r _ _).1 | exact (jand_r _ _).2) only [x38_0, x38_1, x38_3, x38_4, x38_5, x38_6, x38_7, x38_8, x38_9, x38_10, x38_13, x38_14, x38_15, x38_18, x38_19, x38_22, x38_23, kb_some, kb_none, clr_vi, clr_ref, clr_null, clr_none, va_rf_some, va_rf_none, ↓bi_ite_t, ↓bi_ite_f, ↓jc_lt_t, ↓jc_lt_f, ↓jc_gt_t, ↓jc_gt_f, ↓jc_le_t, ↓jc_le_f, ↓jc_ge_t, ↓jc_ge_f, ↓jc_eq_t, ↓jc_eq_f, ↓if_pos, ↓if_neg, Int.reduceMul, Int.reduceSub, k1]
      · rw [bi_f (by omega)]
        simp (disch := first | assumption | omega | exact bi_lo | exact bi_hi | exact bi_01 | exact jcmp_lo | exact jcmp_hi | exact (jor_r _ _).1 | exact (jor_r _ _).2 | exact (jand_r _ _).1 | exact (jand_r _ _).2) only [x38_0, x38_1, x38_3, x38_4, x38_5, x38_6, x38_7, x38_8, x38_9, x38_10, x38_13, x38_14, x38_15, x38_18, x38_19, x38_22, x38_23, kb_some, kb_none, clr_vi, clr_ref, clr_null, clr_none, va_rf_some, va_rf_none, ↓bi_ite_t, ↓bi_ite_f, ↓jc_lt_t, ↓jc_lt_f, ↓jc_gt_t, ↓jc_gt_f, ↓jc_le_t, ↓jc_le_f, ↓jc_ge_t, ↓jc_ge_f, ↓jc_eq_t, ↓jc_eq_f, ↓if_pos, ↓if_neg, Int.reduceMul, Int.reduceSub, k1]
  · by_cases c : w / 32768 = 0
    · rw [bi_t (by omega)]
      simp (disch := first | assumption | omega | exact bi_lo | exact bi_hi | exact bi_01 | exact jcmp_lo | exact jcmp_hi | exact (jor_r _ _).1 | exact (jor_r _ _).2 | exact (jand_r _ _).1 | exact (jand_r _ _).2) only [x38_0, x38_1, x38_3, x38_4, x38_5, x38_6, x38_7, x38_8, x38_9, x38_10, x38_13, x38_14, x38_15, x38_18, x38_19, x38_22, x38_23, kb_some, kb_none, clr_vi, clr_ref, clr_null, clr_none, va_rf_some, va_rf_none, ↓bi_ite_t, ↓bi_ite_f, ↓jc_lt_t, ↓jc_lt_f, ↓jc_gt_t, ↓jc_gt_f, ↓jc_le_t, ↓jc_le_f, ↓jc_ge_t, ↓jc_ge_f, ↓jc_eq_t, ↓jc_eq_f, ↓if_pos, ↓if_neg, Int.reduceMul, Int.reduceSub, k2]
    · by_cases c2 : w / 32768 = -1
      · rw [bi_t (by omega)]
        simp (disch := first | assumption | omega | exact bi_lo | exact bi_hi | exact bi_01 | exact jcmp_lo | exact jcmp_hi | exact (jor_r _ _).1 | exact (jor_r _ _).2 | exact (jand_r _ _).1 | exact (jand_r _ _).2) only [x38_0, x38_1, x38_3, x38_4, x38_5, x38_6, x38_7, x38_8, x38_9, x38_10, x38_13, x38_14, x38_15, x38_18, x38_19, x38_22, x38_23, kb_some, kb_none, clr_vi, clr_ref, clr_null, clr_none, va_rf_some, va_rf_none, ↓bi_ite_t, ↓bi_ite_f, ↓jc_lt_t, ↓jc_lt_f, ↓jc_gt_t, ↓jc_gt_f, ↓jc_le_t, ↓jc_le_f, ↓jc_ge_t, ↓jc_ge_f, ↓jc_eq_t, ↓jc_eq_f, ↓if_pos, ↓if_neg, Int.reduceMul, Int.reduceSub, k2]
      · rw [bi_f (by omega)]
        simp (disch := first | assumption | omega | exact bi_lo | exact bi_hi | exact bi_01 | exact jcmp_lo | exact jcmp_hi | exact (jor_r _ _).1 | exact (jor_r _ _).2 | exact (jand_r _ _).1 | exact (jand_r _ _).2) only [x38_0, x38_1, x38_3, x38_4, x38_5, x38_6, x38_7, x38_8, x38_9, x38_10, x38_13, x38_14, x38_15, x38_18, x38_19, x38_22, x38_23, kb_some, kb_none, clr_vi, clr_ref, clr_null, clr_none, va_rf_some, va_rf_none, ↓bi_ite_t, ↓bi_ite_f, ↓jc_lt_t, ↓jc_lt_f, ↓jc_gt_t, ↓jc_gt_f, ↓jc_le_t, ↓jc_le_f, ↓jc_ge_t, ↓jc_ge_f, ↓jc_eq_t, ↓jc_eq_f, ↓if_pos, ↓if_neg, Int.reduceMul, Int.reduceSub, k2]
  · by_cases c : w / 8388608 = 0
    · rw [bi_t (by omega)]
      simp (disch := first | assumption | omega | exact bi_lo | exact bi_hi | exact bi_01 | exact jcmp_lo | exact jcmp_hi | exact (jor_r _ _).1 | exact (jor_r _ _).2 | exact (jand_r _ _).1 | exact (jand_r _ _).2) only [x38_0, x38_1, x38_3, x38_4, x38_5, x38_6, x38_7, x38_8, x38_9, x38_10, x38_13, x38_14, x38_15, x38_18, x38_19, x38_22, x38_23, kb_some, kb_none, clr_vi, clr_ref, clr_null, clr_none, va_rf_some, va_rf_none, ↓bi_ite_t, ↓bi_ite_f, ↓jc_lt_t, ↓jc_lt_f, ↓jc_gt_t, ↓jc_gt_f, ↓jc_le_t, ↓jc_le_f, ↓jc_ge_t, ↓jc_ge_f, ↓jc_eq_t, ↓jc_eq_f, ↓if_pos, ↓if_neg, Int.reduceMul, Int.reduceSub, k3]
    · by_cases c2 : w / 8388608 = -1
      · rw [bi_t (by omega)]
        simp (disch := first | assumption | omega | exact bi_lo | exact bi_hi | exact bi_01 | exact jcmp_lo | exact jcmp_hi | exact (jor_r _ _).1 | exact (jor_r _ _).2 | exact (jand_r _ _).1 | exact (jand_r _ _).2) only [x38_0, x38_1, x38_3, x38_4, x38_5, x38_6, x38_7, x38_8, x38_9, x38_10, x38_13, x38_14, x38_15, x38_18, x38_19, x38_22, x38_23, kb_some, kb_none, clr_vi, clr_ref, clr_null, clr_none, va_rf_some, va_rf_none, ↓bi_ite_t, ↓bi_ite_f, ↓jc_lt_t, ↓jc_lt_f, ↓jc_gt_t, ↓jc_gt_f, ↓jc_le_t, ↓jc_le_f, ↓jc_ge_t, ↓jc_ge_f, ↓jc_eq_t, ↓jc_eq_f, ↓if_pos, ↓if_neg, Int.reduceMul, Int.reduceSub, k3]
      · rw [bi_f (by omega)]
        simp (disch := first | assumption | omega | exact bi_lo | exact bi_hi | exact bi_01 | exact jcmp_lo | exact jcmp_hi | exact (jor_r _ _).1 | exact (jor_r _ _).2 | exact (jand_r _ _).1 | exact (jand_r _ _).2) only [x38_0, x38_1, x38_3, x38_4, x38_5, x38_6, x38_7, x38_8, x38_9, x38_10, x38_13, x38_14, x38_15, x38_18, x38_19, x38_22, x38_23, kb_some, kb_none, clr_vi, clr_ref, clr_null, clr_none, va_rf_some, va_rf_none, ↓bi_ite_t, ↓bi_ite_f, ↓jc_lt_t, ↓jc_lt_f, ↓jc_gt_t, ↓jc_gt_f, ↓jc_le_t, ↓jc_le_f, ↓jc_ge_t, ↓jc_ge_f, ↓jc_eq_t, ↓jc_eq_f, ↓if_pos, ↓if_neg, Int.reduceMul, Int.reduceSub, k3]
theorem l_wnum (hR : wfR R) (h0 : J0 58 1 = 0) {l2 : Int} : ∀ (k : Nat) (l : List Int), k ≤ 4 → l.length + k ≤ 240 →
    EE (d + 1) 39 25 [some (.ref 57), some (vi w), some (vi l2), some (vi ((k : Int) - 1))] [] (SH L) (apL 58 59 J0 l) K R = ok none (SH L) (apL 58 59 J0 (l ++ nbL w k)) K R := by
  have s57 : (SH L)[57]? = some (3, 2) := rfl; have r57_0 : R 57 0 = some 58 := rr_lk hR rfl; have s58 : (SH L)[58]? = some (0, 2) := rfl; have r58_0 : R 58 0 = some 59 := rr_lk hR rfl
  intro k
  induction k with
  | zero =>
    intro l hk hl
    simp (disch := first | assumption | omega | exact bi_lo | exact bi_hi | exact bi_01 | exact jcmp_lo | exact jcmp_hi | exact (jor_r _ _).1 | exact (jor_r _ _).2 | exact (jand_r _ _).1 | exact (jand_r _ _).2) only [x39_25, x39_26, x39_53, kb_some, kb_none, clr_vi, clr_ref, clr_null, clr_none, va_rf_some, va_rf_none, ↓bi_ite_t, ↓bi_ite_f, ↓jc_lt_t, ↓jc_lt_f, ↓jc_gt_t, ↓jc_gt_f, ↓jc_le_t, ↓jc_le_f, ↓jc_ge_t, ↓jc_ge_f, ↓jc_eq_t, ↓jc_eq_f, ↓if_pos, ↓if_neg]
    unfold nbL; rw [List.append_nil]
  | succ k ih =>
    intro l hk hl
    have e1 : ((k + 1 : Nat) : Int) - 1 = k := by omega
    rw [e1]
    have ha := wo_append (L := L) (d := d) (K := K) (y := jand (jshr w (8 * (k : Int))) 255) hR h0 (l := l) (by omega)
    have ih' := ih (l ++ [jand (jshr w (8 * (k : Int))) 255]) (by omega) (by simp; omega)
    rw [show (k : Int) - 1 = (k : Int) + -1 by omega] at ih'
    simp (disch := first | assumption | omega | exact bi_lo | exact bi_hi | exact bi_01 | exact jcmp_lo | exact jcmp_hi | exact (jor_r _ _).1 | exact (jor_r _ _).2 | exact (jand_r _ _).1 | exact (jand_r _ _).2) only [x39_25, x39_26, kb_some, kb_none, clr_vi, clr_ref, clr_null, clr_none, va_rf_some, va_rf_none, ↓bi_ite_t, ↓bi_ite_f, ↓jc_lt_t, ↓jc_lt_f, ↓jc_gt_t, ↓jc_gt_f, ↓jc_le_t, ↓jc_le_f, ↓jc_ge_t, ↓jc_ge_f, ↓jc_eq_t, ↓jc_eq_f, ↓if_pos, ↓if_neg]
    simp (disch := first | assumption | omega | exact bi_lo | exact bi_hi | exact bi_01 | exact jcmp_lo | exact jcmp_hi | exact (jor_r _ _).1 | exact (jor_r _ _).2 | exact (jand_r _ _).1 | exact (jand_r _ _).2) only [x39_29, x39_30, x39_33, x39_34, x39_36, x39_37, x39_38, x39_39, x39_42, x39_43, x39_46, x39_47, x39_50, kb_some, kb_none, clr_vi, clr_ref, clr_null, clr_none, va_rf_some, va_rf_none, ha]
    rw [ih', List.append_assoc]; rfl
theorem w_number (hR : wfR R) (h0 : J0 58 1 = 0) (hw : -2147483648 ≤ w ∧ w ≤ 2147483647) (hl : l.length + lenN w ≤ 240) : EE (d + 1) 39 0 [some (.ref 57), some (vi w), none, none] [] (SH L) (apL 58 59 J0 l) K R = ok none (SH L) (apL 58 59 J0 (l ++ nbL w (lenN w))) K R := by
  obtain ⟨w1, w2, w3⟩ := w_isWholeBy (L := L) (d := d) (J0 := apL 58 59 J0 l) (K := K) (R := R) hw
  have hl' := fun l2 k hk hk2 => l_wnum (L := L) (d := d) (K := K) (w := w) (l2 := l2) hR h0 k l hk hk2
  unfold lenN at hl ⊢
  by_cases c1 : -128 ≤ w ∧ w ≤ 127
  · rw [if_pos c1] at hl ⊢
    rw [bi_t c1] at w1
    simp (disch := first | assumption | omega | exact bi_lo | exact bi_hi | exact bi_01 | exact jcmp_lo | exact jcmp_hi | exact (jor_r _ _).1 | exact (jor_r _ _).2 | exact (jand_r _ _).1 | exact (jand_r _ _).2) only [x39_0, x39_1, kb_some, kb_none, clr_vi, clr_ref, clr_null, clr_none, va_rf_some, va_rf_none]
    simp (disch := first | assumption | omega | exact bi_lo | exact bi_hi | exact bi_01 | exact jcmp_lo | exact jcmp_hi | exact (jor_r _ _).1 | exact (jor_r _ _).2 | exact (jand_r _ _).1 | exact (jand_r _ _).2) only [x39_2, x39_3, x39_4, x39_7, x39_8, x39_9, x39_12, x39_15, x39_18, x39_21, x39_22, x39_23, x39_24, kb_some, kb_none, clr_vi, clr_ref, clr_null, clr_none, va_rf_some, va_rf_none, ↓bi_ite_t, ↓bi_ite_f, ↓jc_lt_t, ↓jc_lt_f, ↓jc_gt_t, ↓jc_gt_f, ↓jc_le_t, ↓jc_le_f, ↓jc_ge_t, ↓jc_ge_f, ↓jc_eq_t, ↓jc_eq_f, ↓if_pos, ↓if_neg, w1, Int.reduceSub]
    exact hl' 1 1 (by omega) hl
  rw [if_neg c1] at hl ⊢
  rw [bi_f c1] at w1
  by_cases c2 : -32768 ≤ w ∧ w ≤ 32767
  · rw [if_pos c2] at hl ⊢
    rw [bi_t c2] at w2
    simp (disch := first | assumption | omega | exact bi_lo | exact bi_hi | exact bi_01 | exact jcmp_lo | exact jcmp_hi | exact (jor_r _ _).1 | exact (jor_r _ _).2 | exact (jand_r _ _).1 | exact (jand_r _ _).2) only [x39_0, x39_1, kb_some, kb_none, clr_vi, clr_ref, clr_null, clr_none, va_rf_some, va_rf_none]
    simp (disch := first | assumption | omega | exact bi_lo | exact bi_hi | exact bi_01 | exact jcmp_lo | exact jcmp_hi | exact (jor_r _ _).1 | exact (jor_r _ _).2 | exact (jand_r _ _).1 | exact (jand_r _ _).2) only [x39_2, x39_3, x39_4, x39_7, x39_8, x39_9, x39_12, x39_15, x39_18, x39_21, x39_22, x39_23, x39_24, kb_some, kb_none, clr_vi, clr_ref, clr_null, clr_none, va_rf_some, va_rf_none, ↓bi_ite_t, ↓bi_ite_f, ↓jc_lt_t, ↓jc_lt_f, ↓jc_gt_t, ↓jc_gt_f, ↓jc_le_t, ↓jc_le_f, ↓jc_ge_t, ↓jc_ge_f, ↓jc_eq_t, ↓jc_eq_f, ↓if_pos, ↓if_neg, w1, w2, Int.reduceSub, Int.reduceAdd]
    exact hl' 2 2 (by omega) hl
  rw [if_neg c2] at hl ⊢
  rw [bi_f c2] at w2
  by_cases c3 : -8388608 ≤ w ∧ w ≤ 8388607
  · rw [if_pos c3] at hl ⊢
    rw [bi_t c3] at w3
    simp (disch := first | assumption | omega | exact bi_lo | exact bi_hi | exact bi_01 | exact jcmp_lo | exact jcmp_hi | exact (jor_r _ _).1 | exact (jor_r _ _).2 | exact (jand_r _ _).1 | exact (jand_r _ _).2) only [x39_0, x39_1, kb_some, kb_none, clr_vi, clr_ref, clr_null, clr_none, va_rf_some, va_rf_none]
    simp (disch := first | assumption | omega | exact bi_lo | exact bi_hi | exact bi_01 | exact jcmp_lo | exact jcmp_hi | exact (jor_r _ _).1 | exact (jor_r _ _).2 | exact (jand_r _ _).1 | exact (jand_r _ _).2) only [x39_2, x39_3, x39_4, x39_7, x39_8, x39_9, x39_12, x39_15, x39_18, x39_21, x39_22, x39_23, x39_24, kb_some, kb_none, clr_vi, clr_ref, clr_null, clr_none, va_rf_some, va_rf_none, ↓bi_ite_t, ↓bi_ite_f, ↓jc_lt_t, ↓jc_lt_f, ↓jc_gt_t, ↓jc_gt_f, ↓jc_le_t, ↓jc_le_f, ↓jc_ge_t, ↓jc_ge_f, ↓jc_eq_t, ↓jc_eq_f, ↓if_pos, ↓if_neg, w1, w2, w3, Int.reduceSub, Int.reduceAdd]
    exact hl' 3 3 (by omega) hl
  rw [if_neg c3] at hl ⊢
  rw [bi_f c3] at w3
  simp (disch := first | assumption | omega | exact bi_lo | exact bi_hi | exact bi_01 | exact jcmp_lo | exact jcmp_hi | exact (jor_r _ _).1 | exact (jor_r _ _).2 | exact (jand_r _ _).1 | exact (jand_r _ _).2) only [x39_0, x39_1, kb_some, kb_none, clr_vi, clr_ref, clr_null, clr_none, va_rf_some, va_rf_none]
  simp (disch := first | assumption | omega | exact bi_lo | exact bi_hi | exact bi_01 | exact jcmp_lo | exact jcmp_hi | exact (jor_r _ _).1 | exact (jor_r _ _).2 | exact (jand_r _ _).1 | exact (jand_r _ _).2) only [x39_2, x39_3, x39_4, x39_7, x39_8, x39_9, x39_12, x39_15, x39_18, x39_21, x39_22, x39_23, x39_24, kb_some, kb_none, clr_vi, clr_ref, clr_null, clr_none, va_rf_some, va_rf_none, ↓bi_ite_t, ↓bi_ite_f, ↓jc_lt_t, ↓jc_lt_f, ↓jc_gt_t, ↓jc_gt_f, ↓jc_le_t, ↓jc_le_f, ↓jc_ge_t, ↓jc_ge_f, ↓jc_eq_t, ↓jc_eq_f, ↓if_pos, ↓if_neg, w1, w2, w3, Int.reduceSub, Int.reduceAdd]
  exact hl' 4 4 (by omega) hl
theorem wt_ty (h : WT L J0 R t ty wo le sp so co ce) {i : Nat} (hi : (i : Int) < J0 t 6) : EE (d + 1) 90 0 [some (.ref t), some (vi i)] [] (SH L) (apL 58 59 J0 l) K R = ok (some (vi (J0 ty i))) (SH L) (apL 58 59 J0 l) K R := by
  obtain ⟨h1, h2, h3, h4, h5, h6, h7⟩ := h
  have := t_typeOf (d := d) (J := apL 58 59 J0 l) (K := K) (i := i) h2 (by rw [apL_o (by omega)]; exact h5) (by rw [apL_o (by omega)]; omega)
  rw [this, Int.toNat_natCast, apL_o (by omega)]
theorem wt_wo (h : WT L J0 R t ty wo le sp so co ce) {i : Nat} (hi : (i : Int) < J0 t 6) : EE (d + 1) 91 0 [some (.ref t), some (vi i)] [] (SH L) (apL 58 59 J0 l) K R = ok (some (vi (J0 wo i))) (SH L) (apL 58 59 J0 l) K R := by
  obtain ⟨h1, h2, h3, h4, h5, h6, h7⟩ := h
  have := t_worthOf (d := d) (J := apL 58 59 J0 l) (K := K) (i := i) h2 (by rw [apL_o (by omega)]; exact h5) (by rw [apL_o (by omega)]; omega)
  rw [this, Int.toNat_natCast, apL_o (by omega)]
theorem wt_sp (h : WT L J0 R t ty wo le sp so co ce) {i : Nat} (hi : (i : Int) < J0 t 6) : EE (d + 1) 92 0 [some (.ref t), some (vi i)] [] (SH L) (apL 58 59 J0 l) K R = ok (some (vi (J0 sp i))) (SH L) (apL 58 59 J0 l) K R := by
  obtain ⟨h1, h2, h3, h4, h5, h6, h7⟩ := h
  have := t_spanOf (d := d) (J := apL 58 59 J0 l) (K := K) (i := i) h2 (by rw [apL_o (by omega)]; exact h5) (by rw [apL_o (by omega)]; omega)
  rw [this, Int.toNat_natCast, apL_o (by omega)]
theorem wt_co (h : WT L J0 R t ty wo le sp so co ce) {i : Nat} (hi : (i : Int) < J0 t 6) {a : Da} {lv : Int} {n : Nat} (hc : cN g (J0 co 1) (J0 ty) (J0 wo) (J0 le) (J0 sp) (J0 so) (J0 ce) lv a n i) (ha : a.1 = 115 ∨ a.1 = 114) {k : Int} (hk : 0 ≤ k ∧ k < a.2.1) : EE (d + 1) 93 0 [some (.ref t), some (vi i), some (vi k)] [] (SH L) (apL 58 59 J0 l) K R = ok (some (vi (g (a.2.2 + k)))) (SH L) (apL 58 59 J0 l) K R := by
  obtain ⟨h1, h2, h3, h4, h5, h6, h7⟩ := h
  obtain ⟨q1, q2, q3, q4⟩ := hc.2.2.2.2 ha
  have e : ∀ c j, c < 57 → apL 58 59 J0 l c j = J0 c j := fun c j hc => by rw [apL_o (by omega)]
  have := t_contentOf (d := d) (J := apL 58 59 J0 l) (K := K) (i := i) (k := k) h2 (by rw [e _ _ (by omega)]; exact h5) (by rw [e _ _ (by omega)]; omega) (by rw [e _ _ (by omega)]; exact h6) (by rw [e _ _ (by omega), Int.toNat_natCast]; omega)
  rw [this]
  unfold bA
  rw [e _ _ (by omega), e _ _ (by omega), Int.toNat_natCast, e _ _ (by omega), if_pos (by omega)]
  have := q4 k.toNat (by omega)
  rw [show (J0 so i + k).toNat = (J0 so i).toNat + k.toNat by omega, this, Int.toNat_of_nonneg hk.1]
theorem l_wrow (h : WT L J0 R t ty wo le sp so co ce) {i : Nat} (hi : (i : Int) < J0 t 6) {a : Da} {lv : Int} {n : Nat} (hc : cN g (J0 co 1) (J0 ty) (J0 wo) (J0 le) (J0 sp) (J0 so) (J0 ce) lv a n i) (ha : a.1 = 115 ∨ a.1 = 114) (hw : a.2.1 ≤ 20) {l3 l4 l5 : Int} : ∀ (m : Nat) (k : Int) (l : List Int), (a.2.1 - k).toNat = m → 0 ≤ k ∧ k ≤ a.2.1 → l.length + m ≤ 240 →
    EE (d + 2) 36 55 [some (.ref 57), some (.ref t), some (vi i), some (vi l3), some (vi l4), some (vi l5), some (vi k)] [] (SH L) (apL 58 59 J0 l) K R = EE (d + 2) 36 86 [some (.ref 57), some (.ref t), some (vi i), some (vi l3), some (vi l4), some (vi l5), some (vi a.2.1)] [] (SH L) (apL 58 59 J0 (l ++ rowL g m (a.2.2 + k))) K R := by
  have hR := h.1
  have st := h.2.1.1
  have s57 : (SH L)[57]? = some (3, 2) := rfl; have r57_0 : R 57 0 = some 58 := rr_lk hR rfl; have s58 : (SH L)[58]? = some (0, 2) := rfl; have r58_0 : R 58 0 = some 59 := rr_lk hR rfl
  have hwo := fun d l => wt_wo (L := L) (d := d) (K := K) (l := l) h hi
  rw [hc.2.1] at hwo
  intro m
  induction m with
  | zero =>
    intro k l hm hk hl
    have e : k = a.2.1 := by omega
    simp (disch := first | assumption | omega | exact bi_lo | exact bi_hi | exact bi_01 | exact jcmp_lo | exact jcmp_hi | exact (jor_r _ _).1 | exact (jor_r _ _).2 | exact (jand_r _ _).1 | exact (jand_r _ _).2) only [x36_55, x36_57, x36_57n, x36_58, x36_59, x36_62, kb_some, kb_none, clr_vi, clr_ref, clr_null, clr_none, va_rf_some, va_rf_none, ↓bi_ite_t, ↓bi_ite_f, ↓jc_lt_t, ↓jc_lt_f, ↓jc_gt_t, ↓jc_gt_f, ↓jc_le_t, ↓jc_le_f, ↓jc_ge_t, ↓jc_ge_f, ↓jc_eq_t, ↓jc_eq_f, ↓if_pos, ↓if_neg, hwo]
    unfold rowL; rw [List.append_nil, e]
  | succ m ih =>
    intro k l hm hk hl
    have hco := wt_co (L := L) (d := d) (K := K) (l := l) h hi hc ha (k := k) (by omega)
    have hap := wo_append (L := L) (d := d + 1) (K := K) (y := g (a.2.2 + k)) hR h.2.2.2.1 (l := l) (by omega)
    have ih' := ih (k + 1) (l ++ [g (a.2.2 + k)]) (by omega) (by omega) (by simp; omega)
    have go : ∀ X, EE (d + 2) 36 55 [some (.ref 57), some (.ref t), some (vi i), some (vi l3), some (vi l4), some (vi l5), some (vi (k + 1))] [] (SH L) (apL 58 59 J0 (l ++ [g (a.2.2 + k)])) K R = X → EE (d + 2) 36 55 [some (.ref 57), some (.ref t), some (vi i), some (vi l3), some (vi l4), some (vi l5), some (vi k)] [] (SH L) (apL 58 59 J0 l) K R = X := by
      intro X hX
      simp (disch := first | assumption | omega | exact bi_lo | exact bi_hi | exact bi_01 | exact jcmp_lo | exact jcmp_hi | exact (jor_r _ _).1 | exact (jor_r _ _).2 | exact (jand_r _ _).1 | exact (jand_r _ _).2) only [x36_55, x36_57, x36_57n, x36_58, x36_59, x36_62, kb_some, kb_none, clr_vi, clr_ref, clr_null, clr_none, va_rf_some, va_rf_none, ↓bi_ite_t, ↓bi_ite_f, ↓jc_lt_t, ↓jc_lt_f, ↓jc_gt_t, ↓jc_gt_f, ↓jc_le_t, ↓jc_le_f, ↓jc_ge_t, ↓jc_ge_f, ↓jc_eq_t, ↓jc_eq_f, ↓if_pos, ↓if_neg, hwo]
      simp (disch := first | assumption | omega | exact bi_lo | exact bi_hi | exact bi_01 | exact jcmp_lo | exact jcmp_hi | exact (jor_r _ _).1 | exact (jor_r _ _).2 | exact (jand_r _ _).1 | exact (jand_r _ _).2) only [x36_65, x36_66, x36_69, x36_69n, x36_70, x36_71, x36_73, x36_76, x36_79, x36_80, x36_83, kb_some, kb_none, clr_vi, clr_ref, clr_null, clr_none, va_rf_some, va_rf_none, hco, hap]
      exact hX
    rw [go _ ih', show a.2.2 + (k + 1) = a.2.2 + k + 1 by omega, rowL_s]
    simp
end
