/-! the things that stand in no group; how deep things go: the reference -/
theorem mF_chain {y w s p : Nat → Int} : ∀ (d : Nat) (q : Int) (F : Fo d) (i : Nat), mF y w s p d q F i → ∀ j : Nat, i ≤ j → j < i + fsz d F → p j = q ∨ ((i : Int) ≤ p j ∧ p j < j) := by
  intro d
  induction d with
  | zero => intro q F i h j h1 h2; have : fsz 0 F = 0 := rfl; omega
  | succ d ih =>
    intro q F
    induction (F : List (Nd d)) with
    | nil => intro i h j h1 h2; rw [fsz_nil] at h2; omega
    | cons x F ihF =>
      intro i h j h1 h2
      rw [mF_cons] at h
      rw [fsz_cons] at h2
      obtain ⟨u1, u2, u3⟩ := h
      by_cases c1 : j = i
      · subst c1; exact Or.inl u1.2.2.2
      · by_cases c2 : j < i + 1 + fsz d x.2
        · rcases ih _ _ _ u2 j (by omega) (by omega) with h | h
          · right; omega
          · right; omega
        · rcases ihF _ u3 j (by omega) (by omega) with h | h
          · exact Or.inl h
          · right; omega
/-- one step up, as it must be outside of a thing's own room -/
theorem mF_out {y w s p : Nat → Int} : ∀ (F : List (Nd 3)) (i : Nat) (k : Int) (a : Nat) (x : Nd 3), mF y w s p 4 (-1) F i → nthT F i k = some (a, x) →
    (i ≤ a ∧ a + (1 + fsz 3 x.2) ≤ i + fsz 4 F ∧ mF y w s p 4 (-1) ([x] : List (Nd 3)) a) ∧ ∀ j : Nat, i ≤ j → j < i + fsz 4 F → ¬ (a ≤ j ∧ j < a + (1 + fsz 3 x.2)) → p j = -1 ∨ ((i : Int) ≤ p j ∧ p j < j ∧ ¬ ((a : Int) ≤ p j ∧ p j < a + (1 + fsz 3 x.2 : Nat))) := by
  intro F
  induction F with
  | nil => intro i k a x h hn; cases hn
  | cons z F ih =>
    intro i k a x h hn
    rw [show nthT (z :: F) i k = if k = 0 then some (i, z) else nthT F (i + 1 + fsz 3 z.2) (k - 1) from rfl] at hn
    have h' := h
    rw [mF_cons] at h
    obtain ⟨u1, u2, u3⟩ := h
    by_cases c : k = 0
    · rw [if_pos c] at hn
      cases hn
      refine ⟨⟨by omega, by rw [fsz_c4]; omega, u1, u2, trivial⟩, fun j j1 j2 j3 => ?_⟩
      rw [fsz_c4] at j2
      rcases mF_chain 4 (-1) F (i + 1 + fsz 3 z.2) u3 j (by omega) (by omega) with h | h
      · exact Or.inl h
      · right; omega
    · rw [if_neg c] at hn
      obtain ⟨⟨a1, a2, a3⟩, a4⟩ := ih _ _ _ _ u3 hn
      refine ⟨⟨by omega, by rw [fsz_c4]; omega, a3⟩, fun j j1 j2 j3 => ?_⟩
      rw [fsz_c4] at j2
      by_cases c2 : j < i + 1 + fsz 3 z.2
      · by_cases c3 : j = i
        · subst c3; exact Or.inl u1.2.2.2
        · rcases mF_chain _ _ _ _ u2 j (by omega) (by omega) with h | h
          · right; omega
          · right; omega
      · rcases a4 j (by omega) (by omega) j3 with h | h
        · exact Or.inl h
        · right; omega
/-- up from j by b steps, through groups, to r -/
def UPr (ty p : Nat → Int) (r : Nat) : Nat → Nat → Prop
  | 0, j => j = r ∧ j < 60
  | b + 1, j => j ≠ r ∧ j < 60 ∧ ∃ q : Nat, p j = q ∧ ty q = 103 ∧ UPr ty p r b q
section
variable {L d : Nat} {J K : mJ} {R : mm_R} {x : Int}
theorem l_mcnt1 (hR : wfR R) (hs : 0 ≤ J 76 18 ∧ J 76 18 ≤ 60) : ∀ (m : Nat) (n u : Int), 0 ≤ u → u + m ≤ J 76 18 → (∀ j : Nat, u ≤ j → j < u + m → 0 ≤ J 89 j ∧ J 89 j ≤ 100) →
    EE d 166 4 [some (.ref 76), some (vi n), some (vi u)] [] (SH L) J K R = EE d 166 4 [some (.ref 76), some (vi n), some (vi (u + m))] [] (SH L) J K R := by
  have s76 : (SH L)[76]? = some (11, 58) := rfl; have r76_0 : R 76 0 = some 77 := rr_lk hR rfl; have r76_3 : R 76 3 = some 78 := rr_lk hR rfl; have r76_4 : R 76 4 = some 79 := rr_lk hR rfl; have r76_6 : R 76 6 = some 80 := rr_lk hR rfl; have r76_7 : R 76 7 = some 81 := rr_lk hR rfl; have r76_9 : R 76 9 = some 82 := rr_lk hR rfl; have r76_10 : R 76 10 = some 83 := rr_lk hR rfl; have r76_12 : R 76 12 = some 84 := rr_lk hR rfl; have r76_13 : R 76 13 = some 85 := rr_lk hR rfl; have r76_19 : R 76 19 = some 86 := rr_lk hR rfl; have r76_20 : R 76 20 = some 87 := rr_lk hR rfl; have r76_21 : R 76 21 = some 88 := rr_lk hR rfl; have r76_22 : R 76 22 = some 89 := rr_lk hR rfl; have r76_24 : R 76 24 = some 90 := rr_lk hR rfl; have r76_25 : R 76 25 = some 91 := rr_lk hR rfl; have r76_26 : R 76 26 = some 92 := rr_lk hR rfl; have r76_28 : R 76 28 = some 93 := rr_lk hR rfl; have r76_29 : R 76 29 = some 94 := rr_lk hR rfl; have r76_30 : R 76 30 = some 95 := rr_lk hR rfl; have r76_31 : R 76 31 = some 96 := rr_lk hR rfl; have r76_32 : R 76 32 = some 97 := rr_lk hR rfl; have r76_36 : R 76 36 = some 98 := rr_lk hR rfl; have r76_38 : R 76 38 = some 99 := rr_lk hR rfl; have r76_39 : R 76 39 = some 100 := rr_lk hR rfl; have r76_40 : R 76 40 = some 101 := rr_lk hR rfl; have r76_41 : R 76 41 = some 102 := rr_lk hR rfl; have r76_42 : R 76 42 = some 103 := rr_lk hR rfl; have r76_47 : R 76 47 = some 104 := rr_lk hR rfl; have r76_53 : R 76 53 = some 105 := rr_lk hR rfl; have r76_54 : R 76 54 = some 106 := rr_lk hR rfl; have r76_55 : R 76 55 = some 107 := rr_lk hR rfl; have r76_56 : R 76 56 = some 108 := rr_lk hR rfl; have r76_57 : R 76 57 = some 109 := rr_lk hR rfl; have s89 : (SH L)[89]? = some (20, 60) := rfl
  intro m
  induction m with
  | zero => intro n u h0 hm hl; rw [show u + ((0 : Nat) : Int) = u by omega]
  | succ m ih =>
    intro n u h0 hm hl
    have hl0 := hl u.toNat (by omega) (by omega)
    have ih' := ih n (u + 1) (by omega) (by omega) (fun j j1 j2 => hl j (by omega) (by omega))
    have go : ∀ X, EE d 166 4 [some (.ref 76), some (vi n), some (vi (u + 1))] [] (SH L) J K R = X → EE d 166 4 [some (.ref 76), some (vi n), some (vi u)] [] (SH L) J K R = X := by
      intro X hX
      simp (disch := first | assumption | omega | exact bi_lo | exact bi_hi | exact bi_01 | exact jcmp_lo | exact jcmp_hi | exact (jor_r _ _).1 | exact (jor_r _ _).2 | exact (jand_r _ _).1 | exact (jand_r _ _).2) only [x166_4, x166_5, x166_6, x166_9, kb_some, kb_none, clr_vi, clr_ref, clr_null, clr_none, va_rf_some, va_rf_none, ↓bi_ite_t, ↓bi_ite_f, ↓jc_lt_t, ↓jc_lt_f, ↓jc_gt_t, ↓jc_gt_f, ↓jc_le_t, ↓jc_le_f, ↓jc_ge_t, ↓jc_ge_f, ↓jc_eq_t, ↓jc_eq_f, ↓if_pos, ↓if_neg]
      simp (disch := first | assumption | omega | exact bi_lo | exact bi_hi | exact bi_01 | exact jcmp_lo | exact jcmp_hi | exact (jor_r _ _).1 | exact (jor_r _ _).2 | exact (jand_r _ _).1 | exact (jand_r _ _).2) only [x166_12, x166_13, x166_14, x166_17, x166_18, x166_19, x166_22, x166_23, x166_26, x166_27, x166_28, x166_29, x166_32, kb_some, kb_none, clr_vi, clr_ref, clr_null, clr_none, va_rf_some, va_rf_none, ↓bi_ite_t, ↓bi_ite_f, ↓jc_lt_t, ↓jc_lt_f, ↓jc_gt_t, ↓jc_gt_f, ↓jc_le_t, ↓jc_le_f, ↓jc_ge_t, ↓jc_ge_f, ↓jc_eq_t, ↓jc_eq_f, ↓if_pos, ↓if_neg, Int.add_zero]
      exact hX
    rw [go _ ih', show u + 1 + (m : Int) = u + ((m + 1 : Nat) : Int) by omega]
theorem l_mcnt (hR : wfR R) (hs : 0 ≤ J 76 18 ∧ J 76 18 ≤ 60) : ∀ (F : List (Nd 3)) (i : Nat) (n : Int), mF (J 86) (J 87) (J 88) (J 89) 4 (-1) F i → i + (fsz 4 F : Nat) ≤ J 76 18 →
    EE d 166 4 [some (.ref 76), some (vi n), some (vi i)] [] (SH L) J K R = EE d 166 4 [some (.ref 76), some (vi (n + F.length)), some (vi (i + (fsz 4 F : Nat)))] [] (SH L) J K R := by
  have s76 : (SH L)[76]? = some (11, 58) := rfl; have r76_0 : R 76 0 = some 77 := rr_lk hR rfl; have r76_3 : R 76 3 = some 78 := rr_lk hR rfl; have r76_4 : R 76 4 = some 79 := rr_lk hR rfl; have r76_6 : R 76 6 = some 80 := rr_lk hR rfl; have r76_7 : R 76 7 = some 81 := rr_lk hR rfl; have r76_9 : R 76 9 = some 82 := rr_lk hR rfl; have r76_10 : R 76 10 = some 83 := rr_lk hR rfl; have r76_12 : R 76 12 = some 84 := rr_lk hR rfl; have r76_13 : R 76 13 = some 85 := rr_lk hR rfl; have r76_19 : R 76 19 = some 86 := rr_lk hR rfl; have r76_20 : R 76 20 = some 87 := rr_lk hR rfl; have r76_21 : R 76 21 = some 88 := rr_lk hR rfl; have r76_22 : R 76 22 = some 89 := rr_lk hR rfl; have r76_24 : R 76 24 = some 90 := rr_lk hR rfl; have r76_25 : R 76 25 = some 91 := rr_lk hR rfl; have r76_26 : R 76 26 = some 92 := rr_lk hR rfl; have r76_28 : R 76 28 = some 93 := rr_lk hR rfl; have r76_29 : R 76 29 = some 94 := rr_lk hR rfl; have r76_30 : R 76 30 = some 95 := rr_lk hR rfl; have r76_31 : R 76 31 = some 96 := rr_lk hR rfl; have r76_32 : R 76 32 = some 97 := rr_lk hR rfl; have r76_36 : R 76 36 = some 98 := rr_lk hR rfl; have r76_38 : R 76 38 = some 99 := rr_lk hR rfl; have r76_39 : R 76 39 = some 100 := rr_lk hR rfl; have r76_40 : R 76 40 = some 101 := rr_lk hR rfl; have r76_41 : R 76 41 = some 102 := rr_lk hR rfl; have r76_42 : R 76 42 = some 103 := rr_lk hR rfl; have r76_47 : R 76 47 = some 104 := rr_lk hR rfl; have r76_53 : R 76 53 = some 105 := rr_lk hR rfl; have r76_54 : R 76 54 = some 106 := rr_lk hR rfl; have r76_55 : R 76 55 = some 107 := rr_lk hR rfl; have r76_56 : R 76 56 = some 108 := rr_lk hR rfl; have r76_57 : R 76 57 = some 109 := rr_lk hR rfl; have s89 : (SH L)[89]? = some (20, 60) := rfl
  intro F
  induction F with
  | nil => intro i n hc hm; simp [fsz_nil]
  | cons x F ih =>
    intro i n hc hm
    rw [fsz_c4] at hm
    rw [mF_cons] at hc
    obtain ⟨u1, u2, u3⟩ := hc
    have e0 : J 89 i = -1 := u1.2.2.2
    have ih' := ih (i + 1 + fsz 3 x.2) (n + 1) u3 (by omega)
    have hk := l_mcnt1 (L := L) (d := d) (K := K) hR hs (fsz 3 x.2) (n + 1) ((i : Int) + 1) (by omega) (by omega) (fun j j1 j2 => by
      rcases mF_chain _ _ _ _ u2 j (by omega) (by omega) with h | h <;> omega)
    rw [show (i : Int) + 1 + (fsz 3 x.2 : Nat) = ((i + 1 + fsz 3 x.2 : Nat) : Int) by omega] at hk
    have go : ∀ X, EE d 166 4 [some (.ref 76), some (vi (n + 1)), some (vi (i + 1))] [] (SH L) J K R = X → EE d 166 4 [some (.ref 76), some (vi n), some (vi i)] [] (SH L) J K R = X := by
      intro X hX
      simp (disch := first | assumption | omega | exact bi_lo | exact bi_hi | exact bi_01 | exact jcmp_lo | exact jcmp_hi | exact (jor_r _ _).1 | exact (jor_r _ _).2 | exact (jand_r _ _).1 | exact (jand_r _ _).2) only [x166_4, x166_5, x166_6, x166_9, kb_some, kb_none, clr_vi, clr_ref, clr_null, clr_none, va_rf_some, va_rf_none, ↓bi_ite_t, ↓bi_ite_f, ↓jc_lt_t, ↓jc_lt_f, ↓jc_gt_t, ↓jc_gt_f, ↓jc_le_t, ↓jc_le_f, ↓jc_ge_t, ↓jc_ge_f, ↓jc_eq_t, ↓jc_eq_f, ↓if_pos, ↓if_neg]
      simp (disch := first | assumption | omega | exact bi_lo | exact bi_hi | exact bi_01 | exact jcmp_lo | exact jcmp_hi | exact (jor_r _ _).1 | exact (jor_r _ _).2 | exact (jand_r _ _).1 | exact (jand_r _ _).2) only [x166_12, x166_13, x166_14, x166_17, x166_18, x166_19, x166_22, x166_23, x166_26, x166_27, x166_28, x166_29, x166_32, kb_some, kb_none, clr_vi, clr_ref, clr_null, clr_none, va_rf_some, va_rf_none, ↓bi_ite_t, ↓bi_ite_f, ↓jc_lt_t, ↓jc_lt_f, ↓jc_gt_t, ↓jc_gt_f, ↓jc_le_t, ↓jc_le_f, ↓jc_ge_t, ↓jc_ge_f, ↓jc_eq_t, ↓jc_eq_f, ↓if_pos, ↓if_neg, Int.toNat_natCast, e0]
      exact hX
    rw [go _ (hk.trans ih'), List.length_cons, fsz_c4]
    rw [show n + 1 + (F.length : Int) = n + ((F.length + 1 : Nat) : Int) by omega, show ((i + 1 + fsz 3 x.2 : Nat) : Int) + (fsz 4 F : Nat) = i + ((1 + fsz 3 x.2 + fsz 4 F : Nat) : Int) by omega]
theorem m_topMany (hR : wfR R) {F : List (Nd 3)} (hF : MF J F) (h60 : J 76 18 ≤ 60) : EE d 166 0 [some (.ref 76), none, none] [] (SH L) J K R = ok (some (vi (F.length : Nat))) (SH L) J K R := by
  have hs : J 76 18 = (fsz 4 F : Nat) := hF.2
  have hl := l_mcnt (L := L) (d := d) (K := K) hR (by omega) F 0 0 hF.1 (by omega)
  have s76 : (SH L)[76]? = some (11, 58) := rfl
  rw [show ((0 : Nat) : Int) = 0 from rfl, Int.zero_add, Int.zero_add] at hl
  simp (disch := first | assumption | omega | exact bi_lo | exact bi_hi | exact bi_01 | exact jcmp_lo | exact jcmp_hi | exact (jor_r _ _).1 | exact (jor_r _ _).2 | exact (jand_r _ _).1 | exact (jand_r _ _).2) only [x166_0, x166_1, x166_2, x166_3, kb_some, kb_none, clr_vi, clr_ref, clr_null, clr_none, va_rf_some, va_rf_none, ↓bi_ite_t, ↓bi_ite_f, ↓jc_lt_t, ↓jc_lt_f, ↓jc_gt_t, ↓jc_gt_f, ↓jc_le_t, ↓jc_le_f, ↓jc_ge_t, ↓jc_ge_f, ↓jc_eq_t, ↓jc_eq_f, ↓if_pos, ↓if_neg]
  rw [hl]
  simp (disch := first | assumption | omega | exact bi_lo | exact bi_hi | exact bi_01 | exact jcmp_lo | exact jcmp_hi | exact (jor_r _ _).1 | exact (jor_r _ _).2 | exact (jand_r _ _).1 | exact (jand_r _ _).2) only [x166_4, x166_5, x166_6, x166_9, x166_35, x166_36, kb_some, kb_none, clr_vi, clr_ref, clr_null, clr_none, va_rf_some, va_rf_none, ↓bi_ite_t, ↓bi_ite_f, ↓jc_lt_t, ↓jc_lt_f, ↓jc_gt_t, ↓jc_gt_f, ↓jc_le_t, ↓jc_le_f, ↓jc_ge_t, ↓jc_ge_f, ↓jc_eq_t, ↓jc_eq_f, ↓if_pos, ↓if_neg]
/-- no thing of a top one comes any more -/
theorem l_mtop1 (hR : wfR R) (hs : 0 ≤ J 76 18 ∧ J 76 18 ≤ 60) {k v : Int} : ∀ (m : Nat) (n u : Int), 0 ≤ u → u + m ≤ J 76 18 → (∀ j : Nat, u ≤ j → j < u + m → 0 ≤ J 89 j ∧ J 89 j ≤ 100) →
    EE d 197 7 [some (.ref 76), some (vi k), some (vi v), some (vi n), some (vi u)] [] (SH L) J K R = EE d 197 7 [some (.ref 76), some (vi k), some (vi v), some (vi n), some (vi (u + m))] [] (SH L) J K R := by
  have s76 : (SH L)[76]? = some (11, 58) := rfl; have r76_0 : R 76 0 = some 77 := rr_lk hR rfl; have r76_3 : R 76 3 = some 78 := rr_lk hR rfl; have r76_4 : R 76 4 = some 79 := rr_lk hR rfl; have r76_6 : R 76 6 = some 80 := rr_lk hR rfl; have r76_7 : R 76 7 = some 81 := rr_lk hR rfl; have r76_9 : R 76 9 = some 82 := rr_lk hR rfl; have r76_10 : R 76 10 = some 83 := rr_lk hR rfl; have r76_12 : R 76 12 = some 84 := rr_lk hR rfl; have r76_13 : R 76 13 = some 85 := rr_lk hR rfl; have r76_19 : R 76 19 = some 86 := rr_lk hR rfl; have r76_20 : R 76 20 = some 87 := rr_lk hR rfl; have r76_21 : R 76 21 = some 88 := rr_lk hR rfl; have r76_22 : R 76 22 = some 89 := rr_lk hR rfl; have r76_24 : R 76 24 = some 90 := rr_lk hR rfl; have r76_25 : R 76 25 = some 91 := rr_lk hR rfl; have r76_26 : R 76 26 = some 92 := rr_lk hR rfl; have r76_28 : R 76 28 = some 93 := rr_lk hR rfl; have r76_29 : R 76 29 = some 94 := rr_lk hR rfl; have r76_30 : R 76 30 = some 95 := rr_lk hR rfl; have r76_31 : R 76 31 = some 96 := rr_lk hR rfl; have r76_32 : R 76 32 = some 97 := rr_lk hR rfl; have r76_36 : R 76 36 = some 98 := rr_lk hR rfl; have r76_38 : R 76 38 = some 99 := rr_lk hR rfl; have r76_39 : R 76 39 = some 100 := rr_lk hR rfl; have r76_40 : R 76 40 = some 101 := rr_lk hR rfl; have r76_41 : R 76 41 = some 102 := rr_lk hR rfl; have r76_42 : R 76 42 = some 103 := rr_lk hR rfl; have r76_47 : R 76 47 = some 104 := rr_lk hR rfl; have r76_53 : R 76 53 = some 105 := rr_lk hR rfl; have r76_54 : R 76 54 = some 106 := rr_lk hR rfl; have r76_55 : R 76 55 = some 107 := rr_lk hR rfl; have r76_56 : R 76 56 = some 108 := rr_lk hR rfl; have r76_57 : R 76 57 = some 109 := rr_lk hR rfl; have s89 : (SH L)[89]? = some (20, 60) := rfl
  intro m
  induction m with
  | zero => intro n u h0 hm hl; rw [show u + ((0 : Nat) : Int) = u by omega]
  | succ m ih =>
    intro n u h0 hm hl
    have hl0 := hl u.toNat (by omega) (by omega)
    have ih' := ih n (u + 1) (by omega) (by omega) (fun j j1 j2 => hl j (by omega) (by omega))
    have go : ∀ X, EE d 197 7 [some (.ref 76), some (vi k), some (vi v), some (vi n), some (vi (u + 1))] [] (SH L) J K R = X → EE d 197 7 [some (.ref 76), some (vi k), some (vi v), some (vi n), some (vi u)] [] (SH L) J K R = X := by
      intro X hX
      simp (disch := first | assumption | omega | exact bi_lo | exact bi_hi | exact bi_01 | exact jcmp_lo | exact jcmp_hi | exact (jor_r _ _).1 | exact (jor_r _ _).2 | exact (jand_r _ _).1 | exact (jand_r _ _).2) only [x197_7, x197_9, x197_10, x197_13, kb_some, kb_none, clr_vi, clr_ref, clr_null, clr_none, va_rf_some, va_rf_none, ↓bi_ite_t, ↓bi_ite_f, ↓jc_lt_t, ↓jc_lt_f, ↓jc_gt_t, ↓jc_gt_f, ↓jc_le_t, ↓jc_le_f, ↓jc_ge_t, ↓jc_ge_f, ↓jc_eq_t, ↓jc_eq_f, ↓if_pos, ↓if_neg]
      simp (disch := first | assumption | omega | exact bi_lo | exact bi_hi | exact bi_01 | exact jcmp_lo | exact jcmp_hi | exact (jor_r _ _).1 | exact (jor_r _ _).2 | exact (jand_r _ _).1 | exact (jand_r _ _).2) only [x197_16, x197_17, x197_20, x197_22, x197_23, x197_26, x197_27, x197_28, x197_31, x197_33, x197_36, x197_37, x197_38, x197_39, x197_40, x197_43, x197_45, x197_46, x197_49, x197_50, x197_53, x197_54, x197_55, x197_56, x197_59, kb_some, kb_none, clr_vi, clr_ref, clr_null, clr_none, va_rf_some, va_rf_none, ↓bi_ite_t, ↓bi_ite_f, ↓jc_lt_t, ↓jc_lt_f, ↓jc_gt_t, ↓jc_gt_f, ↓jc_le_t, ↓jc_le_f, ↓jc_ge_t, ↓jc_ge_f, ↓jc_eq_t, ↓jc_eq_f, ↓if_pos, ↓if_neg, Int.add_zero]
      exact hX
    rw [go _ ih', show u + 1 + (m : Int) = u + ((m + 1 : Nat) : Int) by omega]
theorem l_mtop (hR : wfR R) (hs : 0 ≤ J 76 18 ∧ J 76 18 ≤ 60) {k : Int} (hk : -2147483648 ≤ k ∧ k ≤ 2147483647) : ∀ (F : List (Nd 3)) (i : Nat) (n v : Int), mF (J 86) (J 87) (J 88) (J 89) 4 (-1) F i → i + (fsz 4 F : Nat) = J 76 18 → 0 ≤ n ∧ n + F.length ≤ 1000 → (n ≤ k → v = -1) → (-1 ≤ v ∧ v ≤ 100) →
    EE d 197 7 [some (.ref 76), some (vi k), some (vi v), some (vi n), some (vi i)] [] (SH L) J K R = ok (some (vi (if k < n then v else nthI F i (k - n)))) (SH L) J K R := by
  have s76 : (SH L)[76]? = some (11, 58) := rfl; have r76_0 : R 76 0 = some 77 := rr_lk hR rfl; have r76_3 : R 76 3 = some 78 := rr_lk hR rfl; have r76_4 : R 76 4 = some 79 := rr_lk hR rfl; have r76_6 : R 76 6 = some 80 := rr_lk hR rfl; have r76_7 : R 76 7 = some 81 := rr_lk hR rfl; have r76_9 : R 76 9 = some 82 := rr_lk hR rfl; have r76_10 : R 76 10 = some 83 := rr_lk hR rfl; have r76_12 : R 76 12 = some 84 := rr_lk hR rfl; have r76_13 : R 76 13 = some 85 := rr_lk hR rfl; have r76_19 : R 76 19 = some 86 := rr_lk hR rfl; have r76_20 : R 76 20 = some 87 := rr_lk hR rfl; have r76_21 : R 76 21 = some 88 := rr_lk hR rfl; have r76_22 : R 76 22 = some 89 := rr_lk hR rfl; have r76_24 : R 76 24 = some 90 := rr_lk hR rfl; have r76_25 : R 76 25 = some 91 := rr_lk hR rfl; have r76_26 : R 76 26 = some 92 := rr_lk hR rfl; have r76_28 : R 76 28 = some 93 := rr_lk hR rfl; have r76_29 : R 76 29 = some 94 := rr_lk hR rfl; have r76_30 : R 76 30 = some 95 := rr_lk hR rfl; have r76_31 : R 76 31 = some 96 := rr_lk hR rfl; have r76_32 : R 76 32 = some 97 := rr_lk hR rfl; have r76_36 : R 76 36 = some 98 := rr_lk hR rfl; have r76_38 : R 76 38 = some 99 := rr_lk hR rfl; have r76_39 : R 76 39 = some 100 := rr_lk hR rfl; have r76_40 : R 76 40 = some 101 := rr_lk hR rfl; have r76_41 : R 76 41 = some 102 := rr_lk hR rfl; have r76_42 : R 76 42 = some 103 := rr_lk hR rfl; have r76_47 : R 76 47 = some 104 := rr_lk hR rfl; have r76_53 : R 76 53 = some 105 := rr_lk hR rfl; have r76_54 : R 76 54 = some 106 := rr_lk hR rfl; have r76_55 : R 76 55 = some 107 := rr_lk hR rfl; have r76_56 : R 76 56 = some 108 := rr_lk hR rfl; have r76_57 : R 76 57 = some 109 := rr_lk hR rfl; have s89 : (SH L)[89]? = some (20, 60) := rfl
  intro F
  induction F with
  | nil =>
    intro i n v hc hm hn hv hv2
    rw [fsz_nil] at hm
    have e : (if k < n then v else nthI [] i (k - n)) = v := by
      split
      · rfl
      · rw [hv (by omega)]; rfl
    rw [e]
    simp (disch := first | assumption | omega | exact bi_lo | exact bi_hi | exact bi_01 | exact jcmp_lo | exact jcmp_hi | exact (jor_r _ _).1 | exact (jor_r _ _).2 | exact (jand_r _ _).1 | exact (jand_r _ _).2) only [x197_7, x197_9, x197_10, x197_13, x197_62, x197_63, kb_some, kb_none, clr_vi, clr_ref, clr_null, clr_none, va_rf_some, va_rf_none, ↓bi_ite_t, ↓bi_ite_f, ↓jc_lt_t, ↓jc_lt_f, ↓jc_gt_t, ↓jc_gt_f, ↓jc_le_t, ↓jc_le_f, ↓jc_ge_t, ↓jc_ge_f, ↓jc_eq_t, ↓jc_eq_f, ↓if_pos, ↓if_neg]
  | cons x F ih =>
    intro i n v hc hm hn hv hv2
    rw [fsz_c4] at hm
    rw [List.length_cons] at hn
    rw [mF_cons] at hc
    obtain ⟨u1, u2, u3⟩ := hc
    have e0 : J 89 i = -1 := u1.2.2.2
    have hk' := fun v => l_mtop1 (L := L) (d := d) (K := K) hR hs (k := k) (v := v) (fsz 3 x.2) (n + 1) ((i : Int) + 1) (by omega) (by omega) (fun j j1 j2 => by
      rcases mF_chain _ _ _ _ u2 j (by omega) (by omega) with h | h <;> omega)
    rw [show (i : Int) + 1 + (fsz 3 x.2 : Nat) = ((i + 1 + fsz 3 x.2 : Nat) : Int) by omega] at hk'
    have go : ∀ X, EE d 197 7 [some (.ref 76), some (vi k), some (vi (if n = k then (i : Int) else v)), some (vi (n + 1)), some (vi (i + 1))] [] (SH L) J K R = X → EE d 197 7 [some (.ref 76), some (vi k), some (vi v), some (vi n), some (vi i)] [] (SH L) J K R = X := by
      intro X hX
      by_cases c : n = k
      · rw [if_pos c] at hX
        simp (disch := first | assumption | omega | exact bi_lo | exact bi_hi | exact bi_01 | exact jcmp_lo | exact jcmp_hi | exact (jor_r _ _).1 | exact (jor_r _ _).2 | exact (jand_r _ _).1 | exact (jand_r _ _).2) only [x197_7, x197_9, x197_10, x197_13, kb_some, kb_none, clr_vi, clr_ref, clr_null, clr_none, va_rf_some, va_rf_none, ↓bi_ite_t, ↓bi_ite_f, ↓jc_lt_t, ↓jc_lt_f, ↓jc_gt_t, ↓jc_gt_f, ↓jc_le_t, ↓jc_le_f, ↓jc_ge_t, ↓jc_ge_f, ↓jc_eq_t, ↓jc_eq_f, ↓if_pos, ↓if_neg]
        simp (disch := first | assumption | omega | exact bi_lo | exact bi_hi | exact bi_01 | exact jcmp_lo | exact jcmp_hi | exact (jor_r _ _).1 | exact (jor_r _ _).2 | exact (jand_r _ _).1 | exact (jand_r _ _).2) only [x197_16, x197_17, x197_20, x197_22, x197_23, x197_26, x197_27, x197_28, x197_31, x197_33, x197_36, x197_37, x197_38, x197_39, x197_40, x197_43, x197_45, x197_46, x197_49, x197_50, x197_53, x197_54, x197_55, x197_56, x197_59, kb_some, kb_none, clr_vi, clr_ref, clr_null, clr_none, va_rf_some, va_rf_none, ↓bi_ite_t, ↓bi_ite_f, ↓jc_lt_t, ↓jc_lt_f, ↓jc_gt_t, ↓jc_gt_f, ↓jc_le_t, ↓jc_le_f, ↓jc_ge_t, ↓jc_ge_f, ↓jc_eq_t, ↓jc_eq_f, ↓if_pos, ↓if_neg, Int.toNat_natCast, e0]
        exact hX
      · rw [if_neg c] at hX
        simp (disch := first | assumption | omega | exact bi_lo | exact bi_hi | exact bi_01 | exact jcmp_lo | exact jcmp_hi | exact (jor_r _ _).1 | exact (jor_r _ _).2 | exact (jand_r _ _).1 | exact (jand_r _ _).2) only [x197_7, x197_9, x197_10, x197_13, kb_some, kb_none, clr_vi, clr_ref, clr_null, clr_none, va_rf_some, va_rf_none, ↓bi_ite_t, ↓bi_ite_f, ↓jc_lt_t, ↓jc_lt_f, ↓jc_gt_t, ↓jc_gt_f, ↓jc_le_t, ↓jc_le_f, ↓jc_ge_t, ↓jc_ge_f, ↓jc_eq_t, ↓jc_eq_f, ↓if_pos, ↓if_neg]
        simp (disch := first | assumption | omega | exact bi_lo | exact bi_hi | exact bi_01 | exact jcmp_lo | exact jcmp_hi | exact (jor_r _ _).1 | exact (jor_r _ _).2 | exact (jand_r _ _).1 | exact (jand_r _ _).2) only [x197_16, x197_17, x197_20, x197_22, x197_23, x197_26, x197_27, x197_28, x197_31, x197_33, x197_36, x197_37, x197_38, x197_39, x197_40, x197_43, x197_45, x197_46, x197_49, x197_50, x197_53, x197_54, x197_55, x197_56, x197_59, kb_some, kb_none, clr_vi, clr_ref, clr_null, clr_none, va_rf_some, va_rf_none, ↓bi_ite_t, ↓bi_ite_f, ↓jc_lt_t, ↓jc_lt_f, ↓jc_gt_t, ↓jc_gt_f, ↓jc_le_t, ↓jc_le_f, ↓jc_ge_t, ↓jc_ge_f, ↓jc_eq_t, ↓jc_eq_f, ↓if_pos, ↓if_neg, Int.toNat_natCast, e0]
        exact hX
    have ih' := ih (i + 1 + fsz 3 x.2) (n + 1) (if n = k then (i : Int) else v) u3 (by omega) (by omega) (by intro q; rw [if_neg (by omega)]; exact hv (by omega)) (by split <;> omega)
    rw [go _ ((hk' _).trans ih')]
    congr 3
    rw [nthI_c]
    by_cases c1 : k < n
    · rw [if_pos (by omega), if_neg (by omega), if_pos c1]
    · rw [if_neg c1]
      by_cases c2 : k = n
      · rw [if_pos (by omega), if_pos (by omega), if_pos (by omega)]
      · rw [if_neg (by omega), if_neg (by omega), show k - (n + 1) = k - n - 1 by omega]
theorem m_topOf (hR : wfR R) {F : List (Nd 3)} (hF : MF J F) (h60 : J 76 18 ≤ 60) (hl : F.length ≤ 100) {k : Int} (hk : -2147483648 ≤ k ∧ k ≤ 2147483647) : EE d 197 0 [some (.ref 76), some (vi k), none, none, none] [] (SH L) J K R = ok (some (vi (nthI F 0 k))) (SH L) J K R := by
  have hs : J 76 18 = (fsz 4 F : Nat) := hF.2
  have hl := l_mtop (L := L) (d := d) (K := K) hR (by omega) hk F 0 0 (-1) hF.1 (by omega) (by omega) (fun _ => rfl) (by omega)
  rw [show ((0 : Nat) : Int) = 0 from rfl] at hl
  have go : EE d 197 0 [some (.ref 76), some (vi k), none, none, none] [] (SH L) J K R = EE d 197 7 [some (.ref 76), some (vi k), some (vi (-1)), some (vi 0), some (vi 0)] [] (SH L) J K R := by
    simp (disch := first | assumption | omega | exact bi_lo | exact bi_hi | exact bi_01 | exact jcmp_lo | exact jcmp_hi | exact (jor_r _ _).1 | exact (jor_r _ _).2 | exact (jand_r _ _).1 | exact (jand_r _ _).2) only [x197_0, x197_1, x197_2, x197_3, x197_4, x197_5, kb_some, kb_none, clr_vi, clr_ref, clr_null, clr_none, va_rf_some, va_rf_none]
  rw [go, hl]
  congr 3
  by_cases c : k < 0
  · rw [if_pos c, nthI_neg c]
  · rw [if_neg c, Int.sub_zero]
end
