/-! the calls, one by one: what reads the file -/
theorem entsS_len {f : Int → Int} {v : Int} : ∀ (i : Nat) (e : Int) (q : Fl), entsS f v i e = .error q → 1 ≤ q.length ∧ q.length ≤ 6 := by
  intro i
  induction i with
  | zero => intro e q h; unfold entsS at h; cases h
  | succ i ih =>
    intro e q h
    unfold entsS at h
    split at h
    · rename_i q' hq
      cases h
      have := chk_len _ _ _ _ _ hq
      simp; omega
    · split at h
      · rename_i q' hq
        cases h
        exact ih _ _ hq
      · cases h
theorem wh_len {f : Int → Int} {n : Int} {q : Fl} (h : wh f n = .error q) : 1 ≤ q.length ∧ q.length ≤ 6 := by
  unfold wh at h
  split at h
  · cases h; simp
  · split at h
    · cases h; simp
    · exact entsS_len _ _ _ h
theorem hF_at {x y z : Nat → Int} : ∀ (e : Fl) (m k : Nat) (hk : k < e.length), hF x y z m e → x (m + k) = e[k].1 ∧ y (m + k) = e[k].2.1 ∧ z (m + k) = e[k].2.2 := by
  intro e
  induction e with
  | nil => intro m k hk; simp at hk
  | cons q e ih =>
    intro m k hk h
    cases k with
    | zero => exact h.1
    | succ k =>
      have := ih (m + 1) k (by simpa using hk) h.2
      rw [show m + 1 + k = m + (k + 1) by omega] at this
      exact this
section
variable {L d : Nat} {J J' J1 J2 K K' : mJ} {R R' : mm_R} {x y z : Int} {f : Int → Int}
theorem INV_S (h : INV J K R) (hR' : wfR R') (hX : IX J') (h1 : ∀ a, a < 29 ∨ 62 < a → a ≠ 84 → a < 86 ∨ 102 < a → a ≠ 104 → a ≠ 108 → a ≠ 76 → J' a = J a) (h2 : ∀ j, (j = 1 ∨ j = 2 ∨ j = 5 ∨ j = 8 ∨ j = 14 ∨ j = 43) → J' 76 j = J 76 j) : INV J' K R' := by
  obtain ⟨g1, g2, g3, ⟨g4, g5, g6⟩, g7, g8, g9⟩ := h
  have kk := fun a (ha : (a < 29 ∨ 62 < a) ∧ a ≠ 84 ∧ (a < 86 ∨ 102 < a) ∧ a ≠ 104 ∧ a ≠ 108 ∧ a ≠ 76) => h1 a ha.1 ha.2.1 ha.2.2.1 ha.2.2.2.1 ha.2.2.2.2.1 ha.2.2.2.2.2
  exact ⟨hR', IF_o g2 (by rw [kk 4 (by decide)]) (kk _ (by decide)) (h2 _ (by decide)) (kk _ (by decide)), IT_o g3 (by rw [kk 27 (by decide)]) (kk _ (by decide)) (h2 _ (by decide)) (kk _ (by decide)), ⟨IW_o g4 (by rw [kk 6 (by decide)]) (kk _ (by decide)) (kk _ (by decide)) (h2 _ (by decide)) (kk _ (by decide)) (kk _ (by decide)), IW_o g5 (by rw [kk 9 (by decide)]) (kk _ (by decide)) (kk _ (by decide)) (h2 _ (by decide)) (kk _ (by decide)) (kk _ (by decide)), IW_o g6 (by rw [kk 12 (by decide)]) (kk _ (by decide)) (kk _ (by decide)) (h2 _ (by decide)) (kk _ (by decide)) (kk _ (by decide))⟩, IG_o g7 ⟨kk 1 (by decide), by rw [kk 2 (by decide)]⟩ (h2 _ (by decide)) (kk _ (by decide)) (fun a p q => kk _ (by omega)), hX, IK_o g9 (fun a p q => kk _ (by omega)) (kk _ (by decide)) (kk _ (by decide)) (kk _ (by decide))⟩
/-- both read the same bytes -/
theorem INV_RB (h : INV J K R) : RB L 4 5 (mA J) J R := by
  obtain ⟨a1, a2, a3⟩ := h.2.1
  refine ⟨h.1, ⟨rfl, rr_lk h.1 rfl, rfl, by decide, by decide, by decide⟩, by decide, by omega, fun i hi => (a3 i hi).1, ?_⟩
  funext q
  unfold bA mA
  rw [a1]
  by_cases c : 0 ≤ q ∧ q < J 76 1
  · rw [if_pos c, if_pos c]
    exact (a3 q.toNat (by omega)).2.2 (by omega)
  · rw [if_neg c, if_neg c]
theorem INV_MR (h : INV J K R) (h' : wfR R') (e1 : J' 76 1 = J 76 1) (e2 : J' 77 = J 77) : MR (mA J) J' R' := by
  obtain ⟨a1, a2, a3⟩ := h.2.1
  refine ⟨h', by omega, fun i hi => by rw [e2]; exact (a3 i hi).2.1, ?_⟩
  funext q
  unfold mA
  rw [e1, e2]
/-- the class reads, then the reference: what is left -/
theorem INV_read (h : INV J K R) (hR' : wfR R') (hS : RS J1) (h1 : fr A31 J J1) (h2 : frm AR (mm_up J1 76 11 0) J2) : INV J2 K R' := by
  have hX := h.2.2.2.2.2.1
  have e1 : ∀ a, a < 31 ∨ 43 < a → J1 a = J a := fun a ha => h1 a (by omega)
  have e2 : ∀ a, a ≠ 76 → a < 86 ∨ 97 < a → J2 a = J1 a := fun a p q => by
    funext j; rw [h2 a j (by omega), up_ne p]
  refine INV_S h hR' ?_ (fun a p q r s t u => ?_) (fun j hj => ?_)
  · unfold IX at hX ⊢
    unfold RS at hS ⊢
    rw [e2 32 (by decide) (by decide), e2 36 (by decide) (by decide), e2 42 (by decide) (by decide), e2 47 (by decide) (by decide), e2 53 (by decide) (by decide), e2 58 (by decide) (by decide), e2 61 (by decide) (by decide), e2 29 (by decide) (by decide), e2 30 (by decide) (by decide), e1 47 (by decide), e1 53 (by decide), e1 58 (by decide), e1 61 (by decide), e1 29 (by decide), e1 30 (by decide)]
    exact ⟨hS, hX.2⟩
  · rw [e2 a u (by omega), e1 a (by omega)]
  · rw [h2 76 j (by omega), up_j (by omega), e1 76 (by decide)]
theorem op_read (h : INV J K R) : OP L d 105 194 [] [] J K R := by
  have hR := h.1
  have s2 : (SH L)[2]? = some (10, 10) := rfl; have r2_0 : R 2 0 = some 3 := rr_lk hR rfl; have r2_1 : R 2 1 = some 15 := rr_lk hR rfl; have r2_3 : R 2 3 = some 27 := rr_lk hR rfl; have r2_4 : R 2 4 = some 29 := rr_lk hR rfl; have r2_5 : R 2 5 = some 31 := rr_lk hR rfl; have r2_6 : R 2 6 = some 46 := rr_lk hR rfl; have r2_7 : R 2 7 = some 57 := rr_lk hR rfl; have r2_8 : R 2 8 = some 60 := rr_lk hR rfl; have r2_9 : R 2 9 = some 63 := rr_lk hR rfl; have s3 : (SH L)[3]? = some (6, 4) := rfl; have r3_0 : R 3 0 = some 4 := rr_lk hR rfl; have r3_1 : R 3 1 = some 6 := rr_lk hR rfl; have r3_2 : R 3 2 = some 9 := rr_lk hR rfl; have r3_3 : R 3 3 = some 12 := rr_lk hR rfl; have s4 : (SH L)[4]? = some (0, 2) := rfl; have r4_0 : R 4 0 = some 5 := rr_lk hR rfl; have s31 : (SH L)[31]? = some (2, 5) := rfl; have r31_0 : R 31 0 = some 32 := rr_lk hR rfl; have r31_1 : R 31 1 = some 36 := rr_lk hR rfl; have s76 : (SH L)[76]? = some (11, 58) := rfl; have r76_0 : R 76 0 = some 77 := rr_lk hR rfl; have r76_3 : R 76 3 = some 78 := rr_lk hR rfl; have r76_4 : R 76 4 = some 79 := rr_lk hR rfl; have r76_6 : R 76 6 = some 80 := rr_lk hR rfl; have r76_7 : R 76 7 = some 81 := rr_lk hR rfl; have r76_9 : R 76 9 = some 82 := rr_lk hR rfl; have r76_10 : R 76 10 = some 83 := rr_lk hR rfl; have r76_12 : R 76 12 = some 84 := rr_lk hR rfl; have r76_13 : R 76 13 = some 85 := rr_lk hR rfl; have r76_19 : R 76 19 = some 86 := rr_lk hR rfl; have r76_20 : R 76 20 = some 87 := rr_lk hR rfl; have r76_21 : R 76 21 = some 88 := rr_lk hR rfl; have r76_22 : R 76 22 = some 89 := rr_lk hR rfl; have r76_24 : R 76 24 = some 90 := rr_lk hR rfl; have r76_25 : R 76 25 = some 91 := rr_lk hR rfl; have r76_26 : R 76 26 = some 92 := rr_lk hR rfl; have r76_28 : R 76 28 = some 93 := rr_lk hR rfl; have r76_29 : R 76 29 = some 94 := rr_lk hR rfl; have r76_30 : R 76 30 = some 95 := rr_lk hR rfl; have r76_31 : R 76 31 = some 96 := rr_lk hR rfl; have r76_32 : R 76 32 = some 97 := rr_lk hR rfl; have r76_36 : R 76 36 = some 98 := rr_lk hR rfl; have r76_38 : R 76 38 = some 99 := rr_lk hR rfl; have r76_39 : R 76 39 = some 100 := rr_lk hR rfl; have r76_40 : R 76 40 = some 101 := rr_lk hR rfl; have r76_41 : R 76 41 = some 102 := rr_lk hR rfl; have r76_42 : R 76 42 = some 103 := rr_lk hR rfl; have r76_47 : R 76 47 = some 104 := rr_lk hR rfl; have r76_53 : R 76 53 = some 105 := rr_lk hR rfl; have r76_54 : R 76 54 = some 106 := rr_lk hR rfl; have r76_55 : R 76 55 = some 107 := rr_lk hR rfl; have r76_56 : R 76 56 = some 108 := rr_lk hR rfl; have r76_57 : R 76 57 = some 109 := rr_lk hR rfl; have s90 : (SH L)[90]? = some (20, 8) := rfl
  have hX := h.2.2.2.2.2.1
  have a1 := h.2.1.1
  have a2 := h.2.1.2.1
  obtain ⟨v1, J1, K1, R1, b1, b2, b3, b4, b5, b6⟩ := rd_isWhole (L := L) (d := d + 8) (K := K) (INV_RB h) hX.1
  subst b2
  rw [a1] at b6
  have e76 : J1 76 = J 76 := b4 76 (by decide)
  have e77 : J1 77 = J 77 := b4 77 (by decide)
  have hM := INV_MR (J' := mm_up J1 76 11 0) h b3 (by rw [up_j (by decide), e76]) (by rw [up_ne (by decide), e77])
  obtain ⟨w1, J2, c1, c2, c3⟩ := m_isWhole (L := L) (d := d + 14) (K := K1) hM
  rw [up_j (by decide), e76] at c3
  have hI := INV_read h b3 b5 b4 c2
  have hR := b3
  have s2 : (SH L)[2]? = some (10, 10) := rfl; have r2_0 : R1 2 0 = some 3 := rr_lk hR rfl; have r2_1 : R1 2 1 = some 15 := rr_lk hR rfl; have r2_3 : R1 2 3 = some 27 := rr_lk hR rfl; have r2_4 : R1 2 4 = some 29 := rr_lk hR rfl; have r2_5 : R1 2 5 = some 31 := rr_lk hR rfl; have r2_6 : R1 2 6 = some 46 := rr_lk hR rfl; have r2_7 : R1 2 7 = some 57 := rr_lk hR rfl; have r2_8 : R1 2 8 = some 60 := rr_lk hR rfl; have r2_9 : R1 2 9 = some 63 := rr_lk hR rfl; have s31 : (SH L)[31]? = some (2, 5) := rfl; have r31_0 : R1 31 0 = some 32 := rr_lk hR rfl; have r31_1 : R1 31 1 = some 36 := rr_lk hR rfl; have s32 : (SH L)[32]? = some (1, 4) := rfl; have r32_0 : R1 32 0 = some 33 := rr_lk hR rfl; have r32_1 : R1 32 1 = some 34 := rr_lk hR rfl; have r32_2 : R1 32 2 = some 35 := rr_lk hR rfl; have s36 : (SH L)[36]? = some (9, 7) := rfl; have r36_0 : R1 36 0 = some 37 := rr_lk hR rfl; have r36_1 : R1 36 1 = some 38 := rr_lk hR rfl; have r36_2 : R1 36 2 = some 39 := rr_lk hR rfl; have r36_3 : R1 36 3 = some 40 := rr_lk hR rfl; have r36_4 : R1 36 4 = some 41 := rr_lk hR rfl; have r36_5 : R1 36 5 = some 42 := rr_lk hR rfl; have s76 : (SH L)[76]? = some (11, 58) := rfl; have r76_0 : R1 76 0 = some 77 := rr_lk hR rfl; have r76_3 : R1 76 3 = some 78 := rr_lk hR rfl; have r76_4 : R1 76 4 = some 79 := rr_lk hR rfl; have r76_6 : R1 76 6 = some 80 := rr_lk hR rfl; have r76_7 : R1 76 7 = some 81 := rr_lk hR rfl; have r76_9 : R1 76 9 = some 82 := rr_lk hR rfl; have r76_10 : R1 76 10 = some 83 := rr_lk hR rfl; have r76_12 : R1 76 12 = some 84 := rr_lk hR rfl; have r76_13 : R1 76 13 = some 85 := rr_lk hR rfl; have r76_19 : R1 76 19 = some 86 := rr_lk hR rfl; have r76_20 : R1 76 20 = some 87 := rr_lk hR rfl; have r76_21 : R1 76 21 = some 88 := rr_lk hR rfl; have r76_22 : R1 76 22 = some 89 := rr_lk hR rfl; have r76_24 : R1 76 24 = some 90 := rr_lk hR rfl; have r76_25 : R1 76 25 = some 91 := rr_lk hR rfl; have r76_26 : R1 76 26 = some 92 := rr_lk hR rfl; have r76_28 : R1 76 28 = some 93 := rr_lk hR rfl; have r76_29 : R1 76 29 = some 94 := rr_lk hR rfl; have r76_30 : R1 76 30 = some 95 := rr_lk hR rfl; have r76_31 : R1 76 31 = some 96 := rr_lk hR rfl; have r76_32 : R1 76 32 = some 97 := rr_lk hR rfl; have r76_36 : R1 76 36 = some 98 := rr_lk hR rfl; have r76_38 : R1 76 38 = some 99 := rr_lk hR rfl; have r76_39 : R1 76 39 = some 100 := rr_lk hR rfl; have r76_40 : R1 76 40 = some 101 := rr_lk hR rfl; have r76_41 : R1 76 41 = some 102 := rr_lk hR rfl; have r76_42 : R1 76 42 = some 103 := rr_lk hR rfl; have r76_47 : R1 76 47 = some 104 := rr_lk hR rfl; have r76_53 : R1 76 53 = some 105 := rr_lk hR rfl; have r76_54 : R1 76 54 = some 106 := rr_lk hR rfl; have r76_55 : R1 76 55 = some 107 := rr_lk hR rfl; have r76_56 : R1 76 56 = some 108 := rr_lk hR rfl; have r76_57 : R1 76 57 = some 109 := rr_lk hR rfl
  cases hw : wh (mA J) (J 76 1) with
  | error q =>
    rw [hw] at b6 c3
    obtain ⟨p1, p2⟩ := b6
    obtain ⟨p3, p4⟩ := c3
    subst p1
    subst p3
    obtain ⟨l1, l2⟩ := wh_len hw
    have hd := fun d => f_deepest (d := d) (J := J1) (K := K1) (isF_32 (L := L) b3) (by rw [p2.1]; omega)
    have e1 := (hF_at q 0 0 (by omega) p2.2).1
    have e2 := (hF_at q.reverse 0 (q.length - 1) (by rw [List.length_reverse]; omega) p4.2).1
    rw [Nat.zero_add] at e1 e2
    have e3 : q.reverse[q.length - 1]'(by rw [List.length_reverse]; omega) = q[0]'(by omega) := by
      rw [List.getElem_reverse]
      congr 1; omega
    rw [e3, ← e1] at e2
    have e4 : J2 76 23 = (q.length : Nat) := p4.1
    have e5 : (J2 76 23 - 1).toNat = q.length - 1 := by omega
    refine ⟨vi (-100 - J1 33 0), J1, K1, R1, J2, K1, R1, ?_, ?_, hI⟩
    · simp (disch := first | assumption | omega | exact bi_lo | exact bi_hi | exact bi_01 | exact jcmp_lo | exact jcmp_hi | exact (jor_r _ _).1 | exact (jor_r _ _).2 | exact (jand_r _ _).1 | exact (jand_r _ _).2) only [x105_0, x105_1, x105_4, x105_5, x105_8, x105_11, x105_14, x105_17, x105_18, x105_21, x105_24, x105_27, x105_30, x105_32, x105_33, x105_36, x105_39, x105_42, x105_43, x15_0, x15_1, x15_4, x15_4n, kb_some, kb_none, clr_vi, clr_ref, clr_null, clr_none, va_rf_some, va_rf_none, ↓bi_ite_t, ↓bi_ite_f, ↓jc_lt_t, ↓jc_lt_f, ↓jc_gt_t, ↓jc_gt_f, ↓jc_le_t, ↓jc_le_f, ↓jc_ge_t, ↓jc_ge_f, ↓jc_eq_t, ↓jc_eq_f, ↓if_pos, ↓if_neg, b1, hd]
    · rw [← e5] at e2
      simp (disch := first | assumption | omega | exact bi_lo | exact bi_hi | exact bi_01 | exact jcmp_lo | exact jcmp_hi | exact (jor_r _ _).1 | exact (jor_r _ _).2 | exact (jand_r _ _).1 | exact (jand_r _ _).2) only [x194_0, x194_1, x194_2, x194_5, x194_6, x194_9, x194_12, x194_13, x194_16, x194_19, x194_21, x194_22, x194_25, x194_26, x194_29, x194_30, x194_31, x194_32, x194_33, kb_some, kb_none, clr_vi, clr_ref, clr_null, clr_none, va_rf_some, va_rf_none, ↓bi_ite_t, ↓bi_ite_f, ↓jc_lt_t, ↓jc_lt_f, ↓jc_gt_t, ↓jc_gt_f, ↓jc_le_t, ↓jc_le_f, ↓jc_ge_t, ↓jc_ge_f, ↓jc_eq_t, ↓jc_eq_f, ↓if_pos, ↓if_neg, c1, e2]
  | ok F =>
    rw [hw] at b6 c3
    obtain ⟨p1, p2⟩ := b6
    obtain ⟨p3, p4⟩ := c3
    subst p1
    subst p3
    have hcap := (wh_ok (by omega) (fun q => by unfold mA; split <;> first | (have := (h.2.1.2.2 q.toNat (by omega)).2.1; omega) | omega) (fun q q1 q2 => by unfold mA; rw [if_pos ⟨q1, q2⟩]; exact (h.2.1.2.2 q.toNat (by omega)).2.1.1) hw).2.2.2
    have ht := fun d => t_topCount (d := d) (K := K1) (isT_36 (L := L) b3) p2.1 p2.2.1 (by rw [p2.2.1]; omega)
    have hm := fun d => m_topMany (L := L) (d := d) (K := K1) b3 p4 (by rw [p4.2]; omega)
    refine ⟨vi (F.length : Nat), J1, K1, R1, J2, K1, R1, ?_, ?_, hI⟩
    · simp (disch := first | assumption | omega | exact bi_lo | exact bi_hi | exact bi_01 | exact jcmp_lo | exact jcmp_hi | exact (jor_r _ _).1 | exact (jor_r _ _).2 | exact (jand_r _ _).1 | exact (jand_r _ _).2) only [x105_0, x105_1, x105_4, x105_5, x105_8, x105_11, x105_14, x105_17, x105_18, x105_21, x105_24, x105_27, x105_30, x105_32, x105_33, x105_36, x105_39, x105_42, x105_43, x16_0, x16_1, x16_4, x16_4n, kb_some, kb_none, clr_vi, clr_ref, clr_null, clr_none, va_rf_some, va_rf_none, ↓bi_ite_t, ↓bi_ite_f, ↓jc_lt_t, ↓jc_lt_f, ↓jc_gt_t, ↓jc_gt_f, ↓jc_le_t, ↓jc_le_f, ↓jc_ge_t, ↓jc_ge_f, ↓jc_eq_t, ↓jc_eq_f, ↓if_pos, ↓if_neg, b1, ht]
    · simp (disch := first | assumption | omega | exact bi_lo | exact bi_hi | exact bi_01 | exact jcmp_lo | exact jcmp_hi | exact (jor_r _ _).1 | exact (jor_r _ _).2 | exact (jand_r _ _).1 | exact (jand_r _ _).2) only [x194_0, x194_1, x194_2, x194_5, x194_6, x194_9, x194_12, x194_13, x194_16, x194_19, x194_21, x194_22, x194_25, x194_26, x194_29, x194_30, x194_31, x194_32, x194_33, kb_some, kb_none, clr_vi, clr_ref, clr_null, clr_none, va_rf_some, va_rf_none, ↓bi_ite_t, ↓bi_ite_f, ↓jc_lt_t, ↓jc_lt_f, ↓jc_gt_t, ↓jc_gt_f, ↓jc_le_t, ↓jc_le_f, ↓jc_ge_t, ↓jc_ge_f, ↓jc_eq_t, ↓jc_eq_f, ↓if_pos, ↓if_neg, c1, hm]
end
