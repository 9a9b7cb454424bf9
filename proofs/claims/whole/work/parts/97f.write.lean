/-! the calls, one by one: write -/
/-- signs told, as bytes -/
def gS (c : List Int) (q : Int) : Int := if 0 ≤ q ∧ q < c.length then c.getD q.toNat 0 else -1
theorem gS_at {c : List Int} (k : Nat) (hk : k < c.length) : gS c k = c[k] := by
  unfold gS
  rw [if_pos (by omega), Int.toNat_natCast, List.getD_eq_getElem?_getD, List.getElem?_eq_getElem hk]; rfl
/-- what was made becomes the file -/
def cpM (J : mJ) (k : Nat) (n : Int) : mJ := fun a j => if a = 77 ∧ k ≤ j ∧ (j : Int) < n then J 98 j else J a j
section
variable {L d : Nat} {J J' J1 J2 K K' : mJ} {R R1 R' : mm_R} {x y z v w n : Int} {f : Int → Int}
theorem INV_A (h : INV J K R) (hR' : wfR R') (hF : IF J') (hT : IT J') (hX : IX J') (h1 : ∀ a, a = 1 ∨ a = 2 ∨ (6 ≤ a ∧ a ≤ 26) ∨ (64 ≤ a ∧ a ≤ 75) ∨ (78 ≤ a ∧ a ≤ 83) ∨ a = 85 ∨ a = 105 ∨ a = 106 ∨ a = 109 → J' a = J a) (h2 : ∀ j, (j = 2 ∨ j = 5 ∨ j = 8 ∨ j = 14) → J' 76 j = J 76 j) : INV J' K R' := by
  obtain ⟨g1, g2, g3, ⟨g4, g5, g6⟩, g7, g8, g9⟩ := h
  exact ⟨hR', hF, hT, ⟨IW_o g4 (by rw [h1 6 (by decide)]) (h1 _ (by decide)) (h1 _ (by decide)) (h2 _ (by decide)) (h1 _ (by decide)) (h1 _ (by decide)), IW_o g5 (by rw [h1 9 (by decide)]) (h1 _ (by decide)) (h1 _ (by decide)) (h2 _ (by decide)) (h1 _ (by decide)) (h1 _ (by decide)), IW_o g6 (by rw [h1 12 (by decide)]) (h1 _ (by decide)) (h1 _ (by decide)) (h2 _ (by decide)) (h1 _ (by decide)) (h1 _ (by decide))⟩, IG_o g7 ⟨h1 1 (by decide), by rw [h1 2 (by decide)]⟩ (h2 _ (by decide)) (h1 _ (by decide)) (fun a p q => h1 _ (by omega)), hX, IK_o g9 (fun a p q => h1 _ (by omega)) (h1 _ (by decide)) (h1 _ (by decide)) (h1 _ (by decide))⟩
theorem l_cpM (hR : wfR R) (hn : 0 ≤ n ∧ n ≤ 120) : ∀ (i k : Nat) (J : mJ), n.toNat - k = i → (k : Int) ≤ n → J 76 1 = n → EE d 187 70 [some (.ref 76), some (vi v), some (vi k)] [] (SH L) J K R = ok (some (vi n)) (SH L) (cpM J k n) K R := by
  have s76 : (SH L)[76]? = some (11, 58) := rfl; have r76_0 : R 76 0 = some 77 := rr_lk hR rfl; have r76_3 : R 76 3 = some 78 := rr_lk hR rfl; have r76_4 : R 76 4 = some 79 := rr_lk hR rfl; have r76_6 : R 76 6 = some 80 := rr_lk hR rfl; have r76_7 : R 76 7 = some 81 := rr_lk hR rfl; have r76_9 : R 76 9 = some 82 := rr_lk hR rfl; have r76_10 : R 76 10 = some 83 := rr_lk hR rfl; have r76_12 : R 76 12 = some 84 := rr_lk hR rfl; have r76_13 : R 76 13 = some 85 := rr_lk hR rfl; have r76_19 : R 76 19 = some 86 := rr_lk hR rfl; have r76_20 : R 76 20 = some 87 := rr_lk hR rfl; have r76_21 : R 76 21 = some 88 := rr_lk hR rfl; have r76_22 : R 76 22 = some 89 := rr_lk hR rfl; have r76_24 : R 76 24 = some 90 := rr_lk hR rfl; have r76_25 : R 76 25 = some 91 := rr_lk hR rfl; have r76_26 : R 76 26 = some 92 := rr_lk hR rfl; have r76_28 : R 76 28 = some 93 := rr_lk hR rfl; have r76_29 : R 76 29 = some 94 := rr_lk hR rfl; have r76_30 : R 76 30 = some 95 := rr_lk hR rfl; have r76_31 : R 76 31 = some 96 := rr_lk hR rfl; have r76_32 : R 76 32 = some 97 := rr_lk hR rfl; have r76_36 : R 76 36 = some 98 := rr_lk hR rfl; have r76_38 : R 76 38 = some 99 := rr_lk hR rfl; have r76_39 : R 76 39 = some 100 := rr_lk hR rfl; have r76_40 : R 76 40 = some 101 := rr_lk hR rfl; have r76_41 : R 76 41 = some 102 := rr_lk hR rfl; have r76_42 : R 76 42 = some 103 := rr_lk hR rfl; have r76_47 : R 76 47 = some 104 := rr_lk hR rfl; have r76_53 : R 76 53 = some 105 := rr_lk hR rfl; have r76_54 : R 76 54 = some 106 := rr_lk hR rfl; have r76_55 : R 76 55 = some 107 := rr_lk hR rfl; have r76_56 : R 76 56 = some 108 := rr_lk hR rfl; have r76_57 : R 76 57 = some 109 := rr_lk hR rfl; have s77 : (SH L)[77]? = some (20, 120) := rfl; have s98 : (SH L)[98]? = some (20, 400) := rfl
  intro i
  induction i with
  | zero =>
    intro k J hi hk h1
    have e : cpM J k n = J := by funext a j; unfold cpM; rw [if_neg (by omega)]
    rw [e]
    simp (disch := first | assumption | omega | exact bi_lo | exact bi_hi | exact bi_01 | exact jcmp_lo | exact jcmp_hi | exact (jor_r _ _).1 | exact (jor_r _ _).2 | exact (jand_r _ _).1 | exact (jand_r _ _).2) only [x187_70, x187_71, x187_72, x187_75, x187_96, x187_97, x187_100, kb_some, kb_none, clr_vi, clr_ref, clr_null, clr_none, va_rf_some, va_rf_none, ↓bi_ite_t, ↓bi_ite_f, ↓jc_lt_t, ↓jc_lt_f, ↓jc_gt_t, ↓jc_gt_f, ↓jc_le_t, ↓jc_le_f, ↓jc_ge_t, ↓jc_ge_f, ↓jc_eq_t, ↓jc_eq_f, ↓if_pos, ↓if_neg, h1]
  | succ i ih =>
    intro k J hi hk h1
    have ih' := ih (k + 1) (mm_up J 77 k (J 98 k)) (by omega) (by omega) (by rw [up_ne (by decide)]; exact h1)
    have e : cpM (mm_up J 77 k (J 98 k)) (k + 1) n = cpM J k n := by
      funext a j; unfold cpM mm_up
      by_cases ca : a = 77
      · subst ca
        by_cases cj : j = k
        · subst cj
          rw [if_neg (by omega), if_pos ⟨rfl, rfl⟩, if_pos (by omega)]
        · by_cases cj2 : k ≤ j ∧ (j : Int) < n
          · rw [if_pos (by omega), if_neg (by omega), if_pos (by omega)]
          · rw [if_neg (by omega), if_neg (by omega), if_neg (by omega)]
      · rw [if_neg (by omega), if_neg (by omega), if_neg (by omega)]
    rw [e, Int.natCast_succ] at ih'
    have go : ∀ X, EE d 187 70 [some (.ref 76), some (vi v), some (vi ((k : Int) + 1))] [] (SH L) (mm_up J 77 k (J 98 k)) K R = X → EE d 187 70 [some (.ref 76), some (vi v), some (vi k)] [] (SH L) J K R = X := by
      intro X hX
      simp (disch := first | assumption | omega | exact bi_lo | exact bi_hi | exact bi_01 | exact jcmp_lo | exact jcmp_hi | exact (jor_r _ _).1 | exact (jor_r _ _).2 | exact (jand_r _ _).1 | exact (jand_r _ _).2) only [x187_70, x187_71, x187_72, x187_75, kb_some, kb_none, clr_vi, clr_ref, clr_null, clr_none, va_rf_some, va_rf_none, ↓bi_ite_t, ↓bi_ite_f, ↓jc_lt_t, ↓jc_lt_f, ↓jc_gt_t, ↓jc_gt_f, ↓jc_le_t, ↓jc_le_f, ↓jc_ge_t, ↓jc_ge_f, ↓jc_eq_t, ↓jc_eq_f, ↓if_pos, ↓if_neg, h1]
      simp (disch := first | assumption | omega | exact bi_lo | exact bi_hi | exact bi_01 | exact jcmp_lo | exact jcmp_hi | exact (jor_r _ _).1 | exact (jor_r _ _).2 | exact (jand_r _ _).1 | exact (jand_r _ _).2) only [x187_78, x187_79, x187_82, x187_83, x187_84, x187_87, x187_88, x187_89, x187_90, x187_93, kb_some, kb_none, clr_vi, clr_ref, clr_null, clr_none, va_rf_some, va_rf_none, ↓bi_ite_t, ↓bi_ite_f, ↓jc_lt_t, ↓jc_lt_f, ↓jc_gt_t, ↓jc_gt_f, ↓jc_le_t, ↓jc_le_f, ↓jc_ge_t, ↓jc_ge_f, ↓jc_eq_t, ↓jc_eq_f, ↓if_pos, ↓if_neg, Int.toNat_natCast]
      exact hX
    exact go _ ih'
/-- the class empties its text -/
def te (J : mJ) : mJ := if 0 < J 27 1 then mm_up J 27 1 0 else J
theorem te_o {a : Nat} (h : a ≠ 27) : te J a = J a := by
  unfold te
  split
  · rw [up_ne h]
  · rfl
theorem te_27 (h : 0 ≤ J 27 1) : te J 27 1 = 0 := by
  unfold te
  split
  · rw [up_s]
  · omega
theorem c_te {d : Nat} (hR : wfR R) (h : 0 ≤ J 27 1 ∧ J 27 1 ≤ 100) : EE d 6 0 [some (.ref 27), some (vi 0)] [] (SH L) J K R = ok none (SH L) (te J) K R := by
  have hB : isB (SH L) R 27 28 100 := ⟨rfl, rr_lk hR rfl, rfl, by decide, by decide, by decide⟩
  rw [c_endBehind (d := d) (J := J) (K := K) (x := 0) hB (by omega) h]
  unfold te
  by_cases c : 0 < J 27 1
  · rw [if_pos c, if_pos ⟨by omega, c⟩]
  · rw [if_neg c, if_neg (fun q => c q.2)]
theorem IT_0 (h : IT J) (h1 : J' 27 1 = 0) (h2 : J' 76 43 = 0) (h3 : J' 28 = J 28) (h4 : J' 103 = J 103) : IT J' := by
  obtain ⟨a1, a2, a3⟩ := h
  refine ⟨by omega, by omega, fun i hi => ?_⟩
  rw [h3, h4]
  have := a3 i hi
  exact ⟨this.1, this.2.1, fun q => by omega⟩
/-- what was written becomes the file -/
def wf (J : mJ) : mJ := mm_rw (mm_up J 4 1 (J 58 1)) 5 (va_cpy (J 59) (mm_up J 4 1 (J 58 1) 5) 0 0 (J 58 1).toNat)
theorem wf_o {a : Nat} (h : a ≠ 4) (h' : a ≠ 5) : wf J a = J a := by
  unfold wf
  funext j
  rw [rw_a h', up_ne h]
theorem wf_4 : wf J 4 1 = J 58 1 := by
  unfold wf
  rw [rw_a (by decide), up_s]
theorem wf_5 {i : Nat} : wf J 5 i = if (i : Int) < J 58 1 then J 59 i else J 5 i := by
  unfold wf
  rw [rw_s]
  unfold va_cpy
  by_cases c : (i : Int) < J 58 1
  · rw [if_pos c, if_pos (by omega), Nat.zero_add, Nat.sub_zero]
  · rw [if_neg c, if_neg (by omega), up_ne (by decide)]
theorem op_write (h : INV J K R) (hx : -2147483648 ≤ x ∧ x ≤ 2147483647) : OP L d 104 187 [some (vi x), none] [some (vi x), none] J K R := by
  have hR := h.1
  have s2 : (SH L)[2]? = some (10, 10) := rfl; have r2_0 : R 2 0 = some 3 := rr_lk hR rfl; have r2_1 : R 2 1 = some 15 := rr_lk hR rfl; have r2_3 : R 2 3 = some 27 := rr_lk hR rfl; have r2_4 : R 2 4 = some 29 := rr_lk hR rfl; have r2_5 : R 2 5 = some 31 := rr_lk hR rfl; have r2_6 : R 2 6 = some 46 := rr_lk hR rfl; have r2_7 : R 2 7 = some 57 := rr_lk hR rfl; have r2_8 : R 2 8 = some 60 := rr_lk hR rfl; have r2_9 : R 2 9 = some 63 := rr_lk hR rfl; have s3 : (SH L)[3]? = some (6, 4) := rfl; have r3_0 : R 3 0 = some 4 := rr_lk hR rfl; have r3_1 : R 3 1 = some 6 := rr_lk hR rfl; have r3_2 : R 3 2 = some 9 := rr_lk hR rfl; have r3_3 : R 3 3 = some 12 := rr_lk hR rfl; have s4 : (SH L)[4]? = some (0, 2) := rfl; have r4_0 : R 4 0 = some 5 := rr_lk hR rfl; have s27 : (SH L)[27]? = some (0, 2) := rfl; have r27_0 : R 27 0 = some 28 := rr_lk hR rfl; have s46 : (SH L)[46]? = some (8, 5) := rfl; have r46_0 : R 46 0 = some 47 := rr_lk hR rfl; have s57 : (SH L)[57]? = some (3, 2) := rfl; have r57_0 : R 57 0 = some 58 := rr_lk hR rfl; have s58 : (SH L)[58]? = some (0, 2) := rfl; have r58_0 : R 58 0 = some 59 := rr_lk hR rfl; have s76 : (SH L)[76]? = some (11, 58) := rfl; have r76_0 : R 76 0 = some 77 := rr_lk hR rfl; have r76_3 : R 76 3 = some 78 := rr_lk hR rfl; have r76_4 : R 76 4 = some 79 := rr_lk hR rfl; have r76_6 : R 76 6 = some 80 := rr_lk hR rfl; have r76_7 : R 76 7 = some 81 := rr_lk hR rfl; have r76_9 : R 76 9 = some 82 := rr_lk hR rfl; have r76_10 : R 76 10 = some 83 := rr_lk hR rfl; have r76_12 : R 76 12 = some 84 := rr_lk hR rfl; have r76_13 : R 76 13 = some 85 := rr_lk hR rfl; have r76_19 : R 76 19 = some 86 := rr_lk hR rfl; have r76_20 : R 76 20 = some 87 := rr_lk hR rfl; have r76_21 : R 76 21 = some 88 := rr_lk hR rfl; have r76_22 : R 76 22 = some 89 := rr_lk hR rfl; have r76_24 : R 76 24 = some 90 := rr_lk hR rfl; have r76_25 : R 76 25 = some 91 := rr_lk hR rfl; have r76_26 : R 76 26 = some 92 := rr_lk hR rfl; have r76_28 : R 76 28 = some 93 := rr_lk hR rfl; have r76_29 : R 76 29 = some 94 := rr_lk hR rfl; have r76_30 : R 76 30 = some 95 := rr_lk hR rfl; have r76_31 : R 76 31 = some 96 := rr_lk hR rfl; have r76_32 : R 76 32 = some 97 := rr_lk hR rfl; have r76_36 : R 76 36 = some 98 := rr_lk hR rfl; have r76_38 : R 76 38 = some 99 := rr_lk hR rfl; have r76_39 : R 76 39 = some 100 := rr_lk hR rfl; have r76_40 : R 76 40 = some 101 := rr_lk hR rfl; have r76_41 : R 76 41 = some 102 := rr_lk hR rfl; have r76_42 : R 76 42 = some 103 := rr_lk hR rfl; have r76_47 : R 76 47 = some 104 := rr_lk hR rfl; have r76_53 : R 76 53 = some 105 := rr_lk hR rfl; have r76_54 : R 76 54 = some 106 := rr_lk hR rfl; have r76_55 : R 76 55 = some 107 := rr_lk hR rfl; have r76_56 : R 76 56 = some 108 := rr_lk hR rfl; have r76_57 : R 76 57 = some 109 := rr_lk hR rfl
  have hv := fun d J R => c_isVer (d := d) (J := J) (K := K) (R := R) (S := SH L) hx
  have hin := fun d J R => m_in (d := d) (S := SH L) (J := J) (K := K) (R := R) (x := x) (y := 1) (z := 3) (by omega) (by omega) (by omega)
  by_cases c1 : 1 ≤ x ∧ x ≤ 3
  rotate_left
  · simp only [bi_f c1] at hv hin
    refine ⟨vi (-1), J, K, R, mm_up J 76 11 0, K, R, ?_, ?_, INV_11 h⟩
    · simp (disch := first | assumption | omega | exact bi_lo | exact bi_hi | exact bi_01 | exact jcmp_lo | exact jcmp_hi | exact (jor_r _ _).1 | exact (jor_r _ _).2 | exact (jand_r _ _).1 | exact (jand_r _ _).2) only [x104_0, x104_1, x104_4, x104_7, x104_8, kb_some, kb_none, clr_vi, clr_ref, clr_null, clr_none, va_rf_some, va_rf_none, ↓bi_ite_t, ↓bi_ite_f, ↓jc_lt_t, ↓jc_lt_f, ↓jc_gt_t, ↓jc_gt_f, ↓jc_le_t, ↓jc_le_f, ↓jc_ge_t, ↓jc_ge_f, ↓jc_eq_t, ↓jc_eq_f, ↓if_pos, ↓if_neg, hv]
    · simp (disch := first | assumption | omega | exact bi_lo | exact bi_hi | exact bi_01 | exact jcmp_lo | exact jcmp_hi | exact (jor_r _ _).1 | exact (jor_r _ _).2 | exact (jand_r _ _).1 | exact (jand_r _ _).2) only [x187_0, x187_1, x187_2, x187_5, x187_6, x187_7, x187_8, x187_11, x187_14, x187_17, x187_18, kb_some, kb_none, clr_vi, clr_ref, clr_null, clr_none, va_rf_some, va_rf_none, ↓bi_ite_t, ↓bi_ite_f, ↓jc_lt_t, ↓jc_lt_f, ↓jc_gt_t, ↓jc_gt_f, ↓jc_le_t, ↓jc_le_f, ↓jc_ge_t, ↓jc_ge_f, ↓jc_eq_t, ↓jc_eq_f, ↓if_pos, ↓if_neg, hin]
  simp only [bi_t c1] at hv hin
  have hT := h.2.2.1
  obtain ⟨b1, b2, b3⟩ := h.2.2.1
  obtain ⟨a1, a2, a3⟩ := h.2.1
  have hX := h.2.2.2.2.2.1
  obtain ⟨x1, x2, x3, x4, x5, x6⟩ := h.2.2.2.2.2.1
  obtain ⟨u, J1, t1, t2, t3, t4, t5⟩ := tx_isWhole (L := L) (d := d + 7) (K := K) hR (by omega) (fun i hi => (b3 i hi).1) x2 x3
  have hR1 : wfR (mm_up R 46 1 (some 27)) := wfR_up hR rfl
  generalize mm_up R 46 1 (some 27) = R1 at *
  have emt : bA J 27 28 = mt J := by
    funext q
    unfold bA mt
    rw [b1]
    by_cases c : 0 ≤ q ∧ q < J 76 43
    · rw [if_pos c, if_pos c]
      exact (b3 q.toNat (by omega)).2.2 (by omega)
    · rw [if_neg c, if_neg c]
  rw [emt, b1] at t5
  have e27 : J1 27 = J 27 := t2 27 (by decide)
  have hte := fun d => c_te (L := L) (d := d) (J := J1) (K := K) hR1 (by rw [e27, b1]; exact b2)
  cases hs : tpS (mt J) (J 76 43) 6 0 0 with
  | error e =>
    rw [hs] at t5
    obtain ⟨t6, t7⟩ := t5
    subst t6
    have oT : ∀ a, a ≠ 27 → ¬ (46 ≤ a ∧ a ≤ 54) → te J1 a = J a := fun a q1 q2 => by rw [te_o q1, t2 a q2]
    have e46 : te J1 46 4 = e := by rw [te_o (by decide)]; exact t7
    have eM : mm_up (te J1) 76 11 0 76 43 = J 76 43 := by rw [up_j (by decide), oT 76 (by decide) (by decide)]
    have eM3 : mm_up (te J1) 76 11 0 103 = J 103 := by rw [up_ne (by decide), oT 103 (by decide) (by decide)]
    obtain ⟨J2, g1, g2, g3⟩ := mx_readText (L := L) (d := d + 14) (J := mm_up (te J1) 76 11 0) (K := K) hR1 (by rw [eM]; exact b2) (fun i hi => by rw [eM3]; exact (b3 i hi).2.1)
    have emt2 : mt (mm_up (te J1) 76 11 0) = mt J := by funext q; unfold mt; rw [eM, eM3]
    rw [emt2, eM, hs] at g3
    obtain ⟨g4, g5⟩ := g3
    have oM : ∀ a j, ¬ (AT a j ∨ (a = 76 ∧ j = 11) ∨ (a = 76 ∧ j = 43) ∨ a = 27 ∨ (46 ≤ a ∧ a ≤ 54)) → mm_up J2 76 43 0 a j = J a j := fun a j ha => by
      have e2 : mm_up J2 76 43 0 a j = J2 a j := by unfold mm_up; rw [if_neg (fun q => ha (Or.inr (Or.inr (Or.inl q))))]
      have e3 : mm_up (te J1) 76 11 0 a j = te J1 a j := by unfold mm_up; rw [if_neg (fun q => ha (Or.inr (Or.inl q)))]
      rw [e2, g2 a j (fun q => ha (Or.inl q)), e3, oT a (fun q => ha (Or.inr (Or.inr (Or.inr (Or.inl q))))) (fun q => ha (Or.inr (Or.inr (Or.inr (Or.inr q)))))]
    have oR : ∀ a, a ≠ 27 → a ≠ 76 → ¬ (46 ≤ a ∧ a ≤ 54) → a < 86 ∨ a = 103 ∨ a = 105 ∨ a = 106 ∨ a = 109 → mm_up J2 76 43 0 a = J a := fun a q1 q2 q3 q4 => by
      funext j; exact oM a j (by unfold AT; omega)
    have oX : ∀ a, a ≠ 76 → (46 ≤ a ∧ a ≤ 54) → mm_up J2 76 43 0 a = J1 a := fun a q1 q2 => by
      rw [up_ne q1]; funext j; rw [g2 a j (by unfold AT; omega), up_ne q1, te_o (by omega)]
    have hIX : IX (mm_up J2 76 43 0) := by
      refine ⟨?_, ?_, ?_, ?_, ?_, ?_⟩
      · unfold RS at x1 ⊢
        rw [oR 32 (by decide) (by decide) (by decide) (by decide), oR 36 (by decide) (by decide) (by decide) (by decide), oR 42 (by decide) (by decide) (by decide) (by decide)]
        exact x1
      · rw [oX 47 (by decide) (by decide)]; exact t3
      · rw [oX 53 (by decide) (by decide)]; exact t4
      · rw [oR 58 (by decide) (by decide) (by decide) (by decide)]; exact x4
      · rw [oR 61 (by decide) (by decide) (by decide) (by decide)]; exact x5
      · rw [oR 29 (by decide) (by decide) (by decide) (by decide), oR 30 (by decide) (by decide) (by decide) (by decide)]; exact x6
    have hi : INV (mm_up J2 76 43 0) K R1 := by
      refine INV_A h hR1 (IF_o h.2.1 (by rw [oR 4 (by decide) (by decide) (by decide) (by decide)]) (oR 5 (by decide) (by decide) (by decide) (by decide)) (oM 76 1 (by decide)) (oR 77 (by decide) (by decide) (by decide) (by decide))) (IT_0 hT ?_ up_s (oR 28 (by decide) (by decide) (by decide) (by decide)) (oR 103 (by decide) (by decide) (by decide) (by decide))) hIX (fun a ha => oR a (by omega) (by omega) (by omega) (by omega)) (fun j hj => oM 76 j (by unfold AT; omega))
      rw [up_ne (by decide), g2 27 1 (by decide), up_ne (by decide)]
      exact te_27 (by rw [e27, b1]; exact b2.1)
    have g4' : mm_up J2 76 43 0 76 45 = 1 := by rw [up_j (by decide)]; exact g4
    have g5' : mm_up J2 76 43 0 76 44 = e := by rw [up_j (by decide)]; exact g5
    refine ⟨vi (-10 - e), te J1, K, R1, mm_up J2 76 43 0, K, R1, ?_, ?_, hi⟩
    · have hR := hR1
      have s2 : (SH L)[2]? = some (10, 10) := rfl; have r2_0 : R1 2 0 = some 3 := rr_lk hR rfl; have r2_1 : R1 2 1 = some 15 := rr_lk hR rfl; have r2_3 : R1 2 3 = some 27 := rr_lk hR rfl; have r2_4 : R1 2 4 = some 29 := rr_lk hR rfl; have r2_5 : R1 2 5 = some 31 := rr_lk hR rfl; have r2_6 : R1 2 6 = some 46 := rr_lk hR rfl; have r2_7 : R1 2 7 = some 57 := rr_lk hR rfl; have r2_8 : R1 2 8 = some 60 := rr_lk hR rfl; have r2_9 : R1 2 9 = some 63 := rr_lk hR rfl; have s27 : (SH L)[27]? = some (0, 2) := rfl; have r27_0 : R1 27 0 = some 28 := rr_lk hR rfl; have s46 : (SH L)[46]? = some (8, 5) := rfl; have r46_0 : R1 46 0 = some 47 := rr_lk hR rfl
      simp (disch := first | assumption | omega | exact bi_lo | exact bi_hi | exact bi_01 | exact jcmp_lo | exact jcmp_hi | exact (jor_r _ _).1 | exact (jor_r _ _).2 | exact (jand_r _ _).1 | exact (jand_r _ _).2) only [x104_0, x104_1, x104_4, x104_7, x104_8, x104_9, x104_10, x104_13, x104_14, x104_17, x104_20, x104_23, x104_24, x104_27, x104_28, x104_31, x104_33, x104_34, x104_37, x104_40, x104_41, x104_42, x104_43, x104_46, x104_47, x104_50, x104_53, x104_54, x104_57, x104_57n, x104_58, x104_58n, x104_59, x104_62, x104_64, x104_67, x104_69, x104_70, x104_71, x104_74, x104_75, x104_78, x104_79, x104_82, x104_85, x104_85n, x104_86, x104_89, x104_90, x104_93, x104_96, x104_99, x68_0, x68_1, x68_4, kb_some, kb_none, clr_vi, clr_ref, clr_null, clr_none, va_rf_some, va_rf_none, ↓bi_ite_t, ↓bi_ite_f, ↓jc_lt_t, ↓jc_lt_f, ↓jc_gt_t, ↓jc_gt_f, ↓jc_le_t, ↓jc_le_f, ↓jc_ge_t, ↓jc_ge_f, ↓jc_eq_t, ↓jc_eq_f, ↓if_pos, ↓if_neg, hv, t1, hte, e46]
    · simp (disch := first | assumption | omega | exact bi_lo | exact bi_hi | exact bi_01 | exact jcmp_lo | exact jcmp_hi | exact (jor_r _ _).1 | exact (jor_r _ _).2 | exact (jand_r _ _).1 | exact (jand_r _ _).2) only [x187_0, x187_1, x187_2, x187_5, x187_6, x187_7, x187_8, x187_11, x187_14, x187_17, x187_18, x187_19, x187_20, x187_23, x187_24, x187_25, x187_28, x187_29, x187_32, x187_35, x187_37, x187_38, x187_41, x187_42, kb_some, kb_none, clr_vi, clr_ref, clr_null, clr_none, va_rf_some, va_rf_none, ↓bi_ite_t, ↓bi_ite_f, ↓jc_lt_t, ↓jc_lt_f, ↓jc_gt_t, ↓jc_gt_f, ↓jc_le_t, ↓jc_le_f, ↓jc_ge_t, ↓jc_ge_f, ↓jc_eq_t, ↓jc_eq_f, ↓if_pos, ↓if_neg, hin, g1, g4', g5']
  | ok s =>
    rw [hs] at t5
    obtain ⟨t6, t7, t8, t9⟩ := t5
    subst t6
    have hTN : TN (mt J) (J 76 43) := fun p hp => by unfold mt; rw [if_neg (by omega)]
    obtain ⟨r1, r2, r3⟩ := tpS_r hTN 6 0 0 s (by omega) hs
    obtain ⟨r4, r5⟩ := r3 (gS s.2) (fun j hj => by rw [show ((0 : Nat) : Int) + (j : Int) = j by omega]; exact gS_at j hj) (by omega)
    have hlen : ∀ v, (fileL (gS s.2) v s.1).length ≤ 104 := fun v => by
      have := r5 v
      rw [fileL_len]; omega
    have hl := hlen x
    have hby := byL_file (g := gS s.2) (v := x) (F := s.1) (by omega) r4 (by omega)
    have e58 : J1 58 1 = J 58 1 := by rw [t2 58 (by decide)]
    have hc := c_written (L := L) (R := R1) (K := K) (d := d + 9) (J := J1) (v := x) (g := gS s.2) (F := s.1) ⟨hR1, isT_47 (L := L) hR1, by decide, wv_58 (by rw [e58]; exact x4.1), by rw [wv_o (by decide)]; exact t3, by rw [wv_o (by decide)]; exact t4, by rw [wv_57]; exact c1⟩ (by rw [e58]; exact x4) (t9 (gS s.2) (fun k hk => gS_at k hk)) r4 t7 (by omega)
    have q0 : ∀ a, a ≠ 57 → a ≠ 58 → a ≠ 59 → apL 58 59 (wv J1 x) (fileL (gS s.2) x s.1) a = J1 a := fun a h1 h2 h3 => by rw [apL_o ⟨h2, h3⟩, wv_o ⟨h1, h2⟩]
    have q1 : apL 58 59 (wv J1 x) (fileL (gS s.2) x s.1) 58 1 = ((fileL (gS s.2) x s.1).length : Nat) := by rw [apL_sz (by decide), wv_58 (by rw [e58]; exact x4.1)]; omega
    have q2 : ∀ (j : Nat) (hj : j < (fileL (gS s.2) x s.1).length), apL 58 59 (wv J1 x) (fileL (gS s.2) x s.1) 59 j = (fileL (gS s.2) x s.1)[j] := fun j hj => by
      have e0 : wv J1 x 58 1 = 0 := wv_58 (by rw [e58]; exact x4.1)
      have := apL_hi (a := 58) (b := 59) (J := wv J1 x) (l := fileL (gS s.2) x s.1) (by decide) (by omega) j hj
      rw [e0] at this
      simpa using this
    generalize hJw : apL 58 59 (wv J1 x) (fileL (gS s.2) x s.1) = Jw at *
    have hB58 : isB (SH L) R1 58 59 240 := ⟨rfl, rr_lk hR1 rfl, rfl, by decide, by decide, by decide⟩
    have hB4 : isB (SH L) R1 4 5 120 := ⟨rfl, rr_lk hR1 rfl, rfl, by decide, by decide, by decide⟩
    have hsz := fun d => c_size (d := d) (J := Jw) (K := K) hB58
    rw [q1] at hsz
    have hte2 := fun d => c_te (L := L) (d := d) (J := Jw) (K := K) hR1 (by rw [q0 27 (by decide) (by decide) (by decide), e27, b1]; exact b2)
    have v0 : ∀ a, a ≠ 27 → te Jw a = Jw a := fun a ha => te_o ha
    have hcp := fun d => c_copyFrom (d := d) (J := te Jw) (K := K) hB4 hB58 (by rw [v0 58 (by decide), q1]; omega) (by decide)
    rw [show mm_rw (mm_up (te Jw) 4 1 (te Jw 58 1)) 5 (va_cpy (te Jw 59) (mm_up (te Jw) 4 1 (te Jw 58 1) 5) 0 0 (te Jw 58 1).toNat) = wf (te Jw) from rfl] at hcp
    have w4 : wf (te Jw) 4 1 = ((fileL (gS s.2) x s.1).length : Nat) := by rw [wf_4, v0 58 (by decide), q1]
    have hsz4 := fun d => c_size (d := d) (J := wf (te Jw)) (K := K) hB4
    rw [w4] at hsz4
    have oC : ∀ a, a ≠ 4 → a ≠ 5 → a ≠ 27 → ¬ (46 ≤ a ∧ a ≤ 54) → a ≠ 57 → a ≠ 58 → a ≠ 59 → wf (te Jw) a = J a := fun a p1 p2 p3 p4 p5 p6 p7 => by
      rw [wf_o p1 p2, v0 a p3, q0 a p5 p6 p7, t2 a p4]
    have eM : mm_up (wf (te Jw)) 76 11 0 76 43 = J 76 43 := by rw [up_j (by decide), oC 76 (by decide) (by decide) (by decide) (by decide) (by decide) (by decide) (by decide)]
    have eM3 : mm_up (wf (te Jw)) 76 11 0 103 = J 103 := by rw [up_ne (by decide), oC 103 (by decide) (by decide) (by decide) (by decide) (by decide) (by decide) (by decide)]
    obtain ⟨J2, g1, g2, g3⟩ := mx_readText (L := L) (d := d + 14) (J := mm_up (wf (te Jw)) 76 11 0) (K := K) hR1 (by rw [eM]; exact b2) (fun i hi => by rw [eM3]; exact (b3 i hi).2.1)
    have emt2 : mt (mm_up (wf (te Jw)) 76 11 0) = mt J := by funext q; unfold mt; rw [eM, eM3]
    rw [emt2, eM, hs] at g3
    obtain ⟨g4, g5, g6, g7⟩ := g3
    generalize hJ3 : mm_up J2 76 43 0 = J3
    have o3 : ∀ a j, ¬ (a = 76 ∧ j = 43) → J3 a j = J2 a j := fun a j ha => by rw [← hJ3]; unfold mm_up; rw [if_neg ha]
    have g4' : J3 76 45 = 0 := by rw [o3 76 45 (by decide)]; exact g4
    have hfs : fsz 4 s.1 ≤ 60 := by omega
    have hM3 : MF J3 s.1 := ⟨by
      have e : ∀ a, a ≠ 76 → J3 a = J2 a := fun a ha => by funext j; exact o3 a j (by omega)
      rw [e 86 (by decide), e 87 (by decide), e 88 (by decide), e 89 (by decide)]
      exact g5.1, by rw [o3 76 18 (by decide)]; exact g5.2⟩
    have hSP3 : SP (gS s.2) J3 := fun p hp => by
      unfold gS at hp ⊢
      by_cases c : 0 ≤ p ∧ p < s.2.length
      · rw [if_pos c] at hp ⊢
        refine ⟨c.1, by omega, ?_⟩
        rw [o3 102 _ (by omega), g7 p.toNat (by omega), List.getD_eq_getElem?_getD, List.getElem?_eq_getElem (by omega)]; rfl
      · rw [if_neg c] at hp
        omega
    obtain ⟨J4, l1, l2, l3, l4⟩ := m_layPlaces (L := L) (d := d + 16) (J := J3) (K := K) (v := x) (g := gS s.2) hR1 (F := s.1) ⟨hM3, r4, hfs, by omega⟩
    have hM4 : MF J4 s.1 := ⟨by
      have e : ∀ a, 86 ≤ a → a ≤ 89 → J4 a = J3 a := fun a p1 p2 => by funext j; exact l2 a j (by omega)
      rw [e 86 (by decide) (by decide), e 87 (by decide) (by decide), e 88 (by decide) (by decide), e 89 (by decide) (by decide)]
      exact hM3.1, by rw [l2 76 18 (by decide)]; exact hM3.2⟩
    have hSP4 : SP (gS s.2) J4 := fun p hp => by rw [l2 102 _ (by omega)]; exact hSP3 p hp
    obtain ⟨J5, m1, m2, m3, m4⟩ := m_layFile (L := L) (d := d + 15) (J := J4) (K := K) (v := x) (g := gS s.2) hR1 (F := s.1) ⟨hM4, r4, hfs, by omega⟩ hSP4 c1 (by omega)
    have hcm := l_cpM (L := L) (d := d + 20) (K := K) (v := x) (n := ((fileL (gS s.2) x s.1).length : Nat)) hR1 (by omega) ((fileL (gS s.2) x s.1).length) 0 (mm_up J5 76 1 (J5 76 37)) (by omega) (by omega) (by rw [up_s]; exact m3)
    rw [show ((0 : Nat) : Int) = 0 from rfl] at hcm
    have h98 : ∀ (j : Nat) (hj : j < (fileL (gS s.2) x s.1).length), J5 98 j = (fileL (gS s.2) x s.1)[j] := fun j hj => by
      have := seg_at _ _ m4 j hj
      rw [Nat.zero_add] at this; exact this
    generalize hJ6 : cpM (mm_up J5 76 1 (J5 76 37)) 0 ((fileL (gS s.2) x s.1).length : Nat) = J6 at *
    have o6 : ∀ a j, a ≠ 77 → ¬ (a = 76 ∧ j = 1) → J6 a j = J5 a j := fun a j p1 p2 => by
      rw [← hJ6]; unfold cpM mm_up; rw [if_neg (by omega), if_neg p2]
    have o5 : ∀ a j, ¬ (AT a j ∨ AW a j ∨ (a = 76 ∧ (j = 1 ∨ j = 11 ∨ j = 43)) ∨ a = 77) → J6 a j = wf (te Jw) a j := fun a j ha => by
      have e2 : mm_up (wf (te Jw)) 76 11 0 a j = wf (te Jw) a j := by unfold mm_up; rw [if_neg (by omega)]
      rw [o6 a j (by omega) (by omega), m2 a j (fun q => ha (Or.inr (Or.inl q))), l2 a j (by unfold AW at ha; omega), o3 a j (by omega), g2 a j (fun q => ha (Or.inl q)), e2]
    have oR : ∀ a, a ≠ 76 → a ≠ 77 → a < 86 ∨ a = 103 ∨ a = 105 ∨ a = 106 ∨ a = 109 → J6 a = wf (te Jw) a := fun a p1 p2 p3 => by
      funext j; exact o5 a j (by unfold AT AW; omega)
    have oJ : ∀ a, a ≠ 4 → a ≠ 5 → a ≠ 27 → ¬ (46 ≤ a ∧ a ≤ 54) → a ≠ 57 → a ≠ 58 → a ≠ 59 → a ≠ 76 → a ≠ 77 → a < 86 ∨ a = 103 ∨ a = 105 ∨ a = 106 ∨ a = 109 → J6 a = J a := fun a p1 p2 p3 p4 p5 p6 p7 p8 p9 pa => by
      rw [oR a p8 p9 pa, oC a p1 p2 p3 p4 p5 p6 p7]
    have e61 : J6 76 1 = ((fileL (gS s.2) x s.1).length : Nat) := by
      rw [← hJ6]; unfold cpM; rw [if_neg (by omega), up_s]; exact m3
    have e77 : ∀ j : Nat, J6 77 j = if (j : Int) < ((fileL (gS s.2) x s.1).length : Nat) then J5 98 j else J5 77 j := fun j => by
      rw [← hJ6]; unfold cpM
      by_cases c : (j : Int) < ((fileL (gS s.2) x s.1).length : Nat)
      · rw [if_pos ⟨rfl, by omega, c⟩, if_pos c, up_ne (by decide)]
      · rw [if_neg (fun q => c q.2.2), if_neg c, up_ne (by decide)]
    have e577 : ∀ j, J5 77 j = J 77 j := fun j => by
      rw [m2 77 j (by unfold AW; omega), l2 77 j (by omega), o3 77 j (by omega), g2 77 j (by unfold AT; omega), up_ne (by decide), oC 77 (by decide) (by decide) (by decide) (by decide) (by decide) (by decide) (by decide)]
    have hIF : IF J6 := by
      refine ⟨by rw [oR 4 (by decide) (by decide) (by decide), w4, e61], by rw [e61]; omega, fun i hi => ?_⟩
      rw [oR 5 (by decide) (by decide) (by decide), wf_5, v0 58 (by decide), q1, v0 59 (by decide), v0 5 (by decide), q0 5 (by decide) (by decide) (by decide), t2 5 (by decide), e77, e61]
      by_cases c : (i : Int) < ((fileL (gS s.2) x s.1).length : Nat)
      · rw [if_pos c, if_pos c, q2 i (by omega), h98 i (by omega)]
        have := hby _ (List.getElem_mem (show i < (fileL (gS s.2) x s.1).length by omega))
        exact ⟨this, this, fun _ => rfl⟩
      · rw [if_neg c, if_neg c, e577]
        exact ⟨(a3 i hi).1, (a3 i hi).2.1, fun q => absurd q c⟩
    have hIT : IT J6 := IT_0 hT (by
        rw [oR 27 (by decide) (by decide) (by decide), wf_o (by decide) (by decide)]
        exact te_27 (by rw [q0 27 (by decide) (by decide) (by decide), e27, b1]; exact b2.1)) (by
        rw [o6 76 43 (by decide) (by decide), m2 76 43 (by decide), l2 76 43 (by decide), ← hJ3, up_s]) (oJ 28 (by decide) (by decide) (by decide) (by decide) (by decide) (by decide) (by decide) (by decide) (by decide) (by decide)) (oJ 103 (by decide) (by decide) (by decide) (by decide) (by decide) (by decide) (by decide) (by decide) (by decide) (by decide))
    have hIX : IX J6 := by
      have k1 : ∀ a, 46 ≤ a → a ≤ 54 → J6 a = J1 a := fun a p1 p2 => by
        rw [oR a (by omega) (by omega) (by omega), wf_o (by omega) (by omega), v0 a (by omega), q0 a (by omega) (by omega) (by omega)]
      have k2 : ∀ a, (29 ≤ a ∧ a ≤ 43) ∨ a = 61 → J6 a = J a := fun a p1 => oJ a (by omega) (by omega) (by omega) (by omega) (by omega) (by omega) (by omega) (by omega) (by omega) (by omega)
      refine ⟨?_, ?_, ?_, ?_, ?_, ?_⟩
      · unfold RS at x1 ⊢
        rw [k2 32 (by decide), k2 36 (by decide), k2 42 (by decide)]
        exact x1
      · rw [k1 47 (by decide) (by decide)]; exact t3
      · rw [k1 53 (by decide) (by decide)]; exact t4
      · rw [oR 58 (by decide) (by decide) (by decide), wf_o (by decide) (by decide), v0 58 (by decide), q1]; omega
      · rw [k2 61 (by decide)]; exact x5
      · rw [k2 29 (by decide), k2 30 (by decide)]; exact x6
    have hi : INV J6 K R1 := INV_A h hR1 hIF hIT hIX (fun a ha => oJ a (by omega) (by omega) (by omega) (by omega) (by omega) (by omega) (by omega) (by omega) (by omega) (by omega)) (fun j hj => by rw [o5 76 j (by unfold AT AW; omega), oC 76 (by decide) (by decide) (by decide) (by decide) (by decide) (by decide) (by decide)])
    generalize hN : ((fileL (gS s.2) x s.1).length : Nat) = N at hl hsz hsz4 w4 l1 m3 hcm
    refine ⟨vi (N : Nat), wf (te Jw), K, R1, J6, K, R1, ?_, ?_, hi⟩
    · have hR := hR1
      have s2 : (SH L)[2]? = some (10, 10) := rfl; have r2_0 : R1 2 0 = some 3 := rr_lk hR rfl; have r2_1 : R1 2 1 = some 15 := rr_lk hR rfl; have r2_3 : R1 2 3 = some 27 := rr_lk hR rfl; have r2_4 : R1 2 4 = some 29 := rr_lk hR rfl; have r2_5 : R1 2 5 = some 31 := rr_lk hR rfl; have r2_6 : R1 2 6 = some 46 := rr_lk hR rfl; have r2_7 : R1 2 7 = some 57 := rr_lk hR rfl; have r2_8 : R1 2 8 = some 60 := rr_lk hR rfl; have r2_9 : R1 2 9 = some 63 := rr_lk hR rfl; have s3 : (SH L)[3]? = some (6, 4) := rfl; have r3_0 : R1 3 0 = some 4 := rr_lk hR rfl; have r3_1 : R1 3 1 = some 6 := rr_lk hR rfl; have r3_2 : R1 3 2 = some 9 := rr_lk hR rfl; have r3_3 : R1 3 3 = some 12 := rr_lk hR rfl; have s4 : (SH L)[4]? = some (0, 2) := rfl; have r4_0 : R1 4 0 = some 5 := rr_lk hR rfl; have s27 : (SH L)[27]? = some (0, 2) := rfl; have r27_0 : R1 27 0 = some 28 := rr_lk hR rfl; have s46 : (SH L)[46]? = some (8, 5) := rfl; have r46_0 : R1 46 0 = some 47 := rr_lk hR rfl; have s57 : (SH L)[57]? = some (3, 2) := rfl; have r57_0 : R1 57 0 = some 58 := rr_lk hR rfl; have s58 : (SH L)[58]? = some (0, 2) := rfl; have r58_0 : R1 58 0 = some 59 := rr_lk hR rfl
      simp (disch := first | assumption | omega | exact bi_lo | exact bi_hi | exact bi_01 | exact jcmp_lo | exact jcmp_hi | exact (jor_r _ _).1 | exact (jor_r _ _).2 | exact (jand_r _ _).1 | exact (jand_r _ _).2) only [x104_0, x104_1, x104_4, x104_7, x104_8, x104_9, x104_10, x104_13, x104_14, x104_17, x104_20, x104_23, x104_24, x104_27, x104_28, x104_31, x104_33, x104_34, x104_37, x104_40, x104_41, x104_42, x104_43, x104_46, x104_47, x104_50, x104_53, x104_54, x104_57, x104_57n, x104_58, x104_58n, x104_59, x104_62, x104_64, x104_67, x104_69, x104_70, x104_71, x104_74, x104_75, x104_78, x104_79, x104_82, x104_85, x104_85n, x104_86, x104_89, x104_90, x104_93, x104_96, x104_99, x67_0, x67_1, x67_4, x67_4n, kb_some, kb_none, clr_vi, clr_ref, clr_null, clr_none, va_rf_some, va_rf_none, ↓bi_ite_t, ↓bi_ite_f, ↓jc_lt_t, ↓jc_lt_f, ↓jc_gt_t, ↓jc_gt_f, ↓jc_le_t, ↓jc_le_f, ↓jc_ge_t, ↓jc_ge_f, ↓jc_eq_t, ↓jc_eq_f, ↓if_pos, ↓if_neg, hv, t1, hc, hsz, hte2, hcp, hsz4]
    · simp (disch := first | assumption | omega | exact bi_lo | exact bi_hi | exact bi_01 | exact jcmp_lo | exact jcmp_hi | exact (jor_r _ _).1 | exact (jor_r _ _).2 | exact (jand_r _ _).1 | exact (jand_r _ _).2) only [x187_0, x187_1, x187_2, x187_5, x187_6, x187_7, x187_8, x187_11, x187_14, x187_17, x187_18, kb_some, kb_none, clr_vi, clr_ref, clr_null, clr_none, va_rf_some, va_rf_none, hin]
      simp (disch := first | assumption | omega | exact bi_lo | exact bi_hi | exact bi_01 | exact jcmp_lo | exact jcmp_hi | exact (jor_r _ _).1 | exact (jor_r _ _).2 | exact (jand_r _ _).1 | exact (jand_r _ _).2) only [x187_19, x187_20, x187_23, x187_24, x187_25, x187_28, x187_29, x187_32, x187_35, x187_37, x187_38, x187_41, x187_42, x187_43, x187_44, x187_47, x187_49, x187_52, x187_54, x187_55, x187_56, x187_57, x187_60, x187_61, x187_62, x187_65, x187_68, x187_69, kb_some, kb_none, clr_vi, clr_ref, clr_null, clr_none, va_rf_some, va_rf_none, ↓bi_ite_t, ↓bi_ite_f, ↓jc_lt_t, ↓jc_lt_f, ↓jc_gt_t, ↓jc_gt_f, ↓jc_le_t, ↓jc_le_f, ↓jc_ge_t, ↓jc_ge_f, ↓jc_eq_t, ↓jc_eq_f, ↓if_pos, ↓if_neg, g1, hJ3, g4', l1, m1, m3]
      rw [m3] at hcm
      exact hcm
end
