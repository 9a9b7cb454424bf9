/-! what holds when both stand; the law's run -/
section
variable {L d : Nat}
theorem wfR_of {R : mm_R} (h : ∀ b, b < 110 → PR b R) : wfR R := by
  intro a j q hq
  by_cases c : a < 110
  · exact h a c j q hq
  · have e : R0 a j = none := by
      have hl : RT.length ≤ a := by
        have : RT.length = 110 := rfl
        omega
      have e0 : RT.getD a [] = [] := by
        rw [List.getD_eq_getElem?_getD, List.getElem?_eq_none hl]; rfl
      unfold R0
      rw [e0]
      rfl
    rw [e] at hq; cases hq
theorem INV_0 {J K : mJ} {R : mm_R} (hR : wfR R) (h1 : J 1 0 = 110 ∧ J 1 1 = 115 ∧ J 1 2 = 114 ∧ J 1 3 = 103) (hz : ∀ a j, 2 ≤ a → ¬ ((a = 64 ∨ a = 66 ∨ a = 68 ∨ a = 70 ∨ a = 72 ∨ a = 74) ∧ j = 1) → J a j = 0) (ht : ∀ t, t < 6 → J (64 + 2 * t) 1 = -1) : INV J K R := by
  have z : ∀ a j, 2 ≤ a → a < 64 ∨ 74 < a → J a j = 0 := fun a j h h' => hz a j h (by omega)
  refine ⟨hR, ⟨?_, ?_, fun i hi => ?_⟩, ⟨?_, ?_, fun i hi => ?_⟩, ⟨⟨?_, ?_, fun i hi => ?_⟩, ⟨?_, ?_, fun i hi => ?_⟩, ⟨?_, ?_, fun i hi => ?_⟩⟩, ⟨h1, ?_, Or.inl ⟨?_, ?_, ?_, ?_, ?_⟩⟩, ⟨⟨?_, ?_, ?_⟩, ?_, ?_, ?_, ?_, ?_, fun i hi => ?_⟩, fun t ht6 => ⟨Or.inl ⟨ht t ht6, ?_, ?_, ?_⟩, fun k hk => ?_⟩⟩
  · rw [z 4 1 (by decide) (by decide), z 76 1 (by decide) (by decide)]
  · rw [z 76 1 (by decide) (by decide)]; omega
  · rw [z 5 i (by decide) (by decide), z 77 i (by decide) (by decide)]; omega
  · rw [z 27 1 (by decide) (by decide), z 76 43 (by decide) (by decide)]
  · rw [z 76 43 (by decide) (by decide)]; omega
  · rw [z 28 i (by decide) (by decide), z 103 i (by decide) (by decide)]; omega
  · rw [z 6 2 (by decide) (by decide), z 76 2 (by decide) (by decide)]
  · rw [z 76 2 (by decide) (by decide)]; omega
  · rw [z 76 2 (by decide) (by decide)] at hi; omega
  · rw [z 9 2 (by decide) (by decide), z 76 5 (by decide) (by decide)]
  · rw [z 76 5 (by decide) (by decide)]; omega
  · rw [z 76 5 (by decide) (by decide)] at hi; omega
  · rw [z 12 2 (by decide) (by decide), z 76 8 (by decide) (by decide)]
  · rw [z 76 8 (by decide) (by decide)]; omega
  · rw [z 76 8 (by decide) (by decide)] at hi; omega
  · rw [z 2 2 (by decide) (by decide), z 76 14 (by decide) (by decide)]
  · exact z 76 14 (by decide) (by decide)
  · exact z 16 1 (by decide) (by decide)
  · exact z 18 2 (by decide) (by decide)
  · exact z 21 2 (by decide) (by decide)
  · exact z 24 2 (by decide) (by decide)
  · rw [z 32 3 (by decide) (by decide)]; omega
  · rw [z 36 6 (by decide) (by decide)]; omega
  · rw [z 42 1 (by decide) (by decide)]; omega
  · rw [z 47 6 (by decide) (by decide)]; omega
  · rw [z 53 1 (by decide) (by decide)]; omega
  · rw [z 58 1 (by decide) (by decide)]; omega
  · rw [z 61 1 (by decide) (by decide)]; omega
  · rw [z 29 1 (by decide) (by decide)]; omega
  · rw [z 30 i (by decide) (by decide)]; omega
  · exact z 109 t (by decide) (by decide)
  · exact hz (64 + 2 * t) 2 (by omega) (by omega)
  · exact z 106 t (by decide) (by decide)
  · rw [z 106 t (by decide) (by decide)] at hk; omega
def J00 (xs : Nat → Int32) : mJ := fun a j => (mm_I0 xs a j).toInt
def K00 : mJ := fun _ _ => 0
theorem J00_0 {xs : Nat → Int32} {a : Nat} (h : 2 ≤ a) : J00 xs a = fun _ => 0 := by
  funext j
  unfold J00 mm_I0
  rw [if_neg (by omega), if_neg (by omega)]
  rfl
theorem law_ends (hL : L ≤ 3072) (xs : Nat → Int32) : ∃ J' K' R', EE 600 237 0 [some (.ref 0), none, none, none] [] (TS L 2) (J00 xs) K00 mm_R0 = ok (some (vi 1)) (SH L) J' K' R' := by
  have f2 : FRS 2 (J00 xs) K00 mm_R0 := fun c hc => ⟨J00_0 hc, rfl, rfl⟩
  obtain ⟨jf, kf, rf⟩ := fr_rw0 f2
  obtain ⟨Ra, a1, a2⟩ := ci_class (L := L) (d := 596) (FRS_1 f2)
  obtain ⟨a3, a4, a5, a6⟩ := a2
  generalize hJ6 : mm_up (mm_up (mm_up (mm_up (mm_up (mm_up (J00 xs) 64 1 (-1)) 66 1 (-1)) 68 1 (-1)) 70 1 (-1)) 72 1 (-1)) 74 1 (-1) = J6 at *
  obtain ⟨jg, kg, rg⟩ := fr_rw0 a6
  obtain ⟨Rb, b1, b2⟩ := ci_model (L := L) (d := 599) (FRS_1 a6)
  obtain ⟨b3, b4, b5, b6⟩ := b2
  have hw : wfR Rb := wfR_of (fun b hb => by
    by_cases c0 : b < 2
    · have : b = 0 ∨ b = 1 := by omega
      rcases this with q | q <;> subst q <;> exact PR_n (fun _ => rfl)
    by_cases c1 : b < 76
    · refine PR_o ?_ (b3 b (by omega) (by omega))
      by_cases c2 : b = 2
      · subst c2; exact a4
      · exact a5 b (by omega) c1
    by_cases c3 : b = 76
    · subst c3; exact b4
    · exact b5 b (by omega) hb)
  have hI : INV (mm_up J6 76 11 0) K00 Rb := by
    refine INV_0 hw ?_ (fun a j h h' => ?_) (fun t ht => ?_)
    · rw [up_ne (by decide), ← hJ6, up_ne (by decide), up_ne (by decide), up_ne (by decide), up_ne (by decide), up_ne (by decide), up_ne (by decide)]
      exact ⟨rfl, rfl, rfl, rfl⟩
    · have e : J6 a j = 0 := by
        rw [← hJ6]
        unfold mm_up
        rw [if_neg (by omega), if_neg (by omega), if_neg (by omega), if_neg (by omega), if_neg (by omega), if_neg (by omega), J00_0 h]
      unfold mm_up
      split
      · rfl
      · exact e
    · rw [up_ne (by omega), ← hJ6]
      have ht6 : t = 0 ∨ t = 1 ∨ t = 2 ∨ t = 3 ∨ t = 4 ∨ t = 5 := by omega
      rcases ht6 with q | q | q | q | q | q <;> subst q <;> rfl
  obtain ⟨J', K', R', e⟩ := lw_loop (L := L) (d := 579) hL L 0 _ _ _ (by omega) (by omega) (by omega) hI
  refine ⟨J', K', R', ?_⟩
  have s2 : (TS L 3)[2]? = some (10, 10) := rfl
  have s76 : (TS L 77)[76]? = some (11, 58) := rfl
  have eS : TS L 110 = SH L := rfl
  simp (disch := first | assumption | omega | exact bi_lo | exact bi_hi | exact bi_01 | exact jcmp_lo | exact jcmp_hi | exact (jor_r _ _).1 | exact (jor_r _ _).2 | exact (jand_r _ _).1 | exact (jand_r _ _).2) only [x237_0, x237_3, x237_4, x237_7, x237_7n, x237_8, x237_11, x237_12, x237_15, x237_15n, x237_16, x237_17, kb_some, kb_none, clr_vi, clr_ref, clr_null, clr_none, va_rf_some, va_rf_none, ↓bi_ite_t, ↓bi_ite_f, ↓jc_lt_t, ↓jc_lt_f, ↓jc_gt_t, ↓jc_gt_f, ↓jc_le_t, ↓jc_le_f, ↓jc_ge_t, ↓jc_ge_f, ↓jc_eq_t, ↓jc_eq_f, ↓if_pos, ↓if_neg, tl_2, tk_2, jf, kf, rf, a1, tl_76, tk_76, jg, kg, rg, b1, eS]
  exact e
end
