/-! the class reads a text whole -/
theorem tpS_r {t : Int → Int} {n : Int} (hn : TN t n) : ∀ (k : Nat) (p : Int) (q : Nat) (s : List (Nd 3) × List Int), p ≤ n → tpS t n k p q = .ok s → p + (4 * fsz 4 s.1 + s.2.length : Nat) ≤ n ∧ s.1.length ≤ k ∧ ∀ g : Int → Int, (∀ (j : Nat) (h : j < s.2.length), g ((q : Int) + j) = s.2[j]) → (q + s.2.length ≤ 120) → wF g 4 s.1 ∧ ∀ v, p + ((chL g v s.1).length + 3 * s.1.length : Nat) ≤ n := by
  intro k
  induction k with
  | zero => intro p q s hp h; unfold tpS at h; cases h
  | succ k ih =>
    intro p q s hp h
    unfold tpS at h
    split at h
    · cases h
    · rename_i x hx
      obtain ⟨⟨h1, h2⟩, h3, h4⟩ := thS_TO hn 3 p q x hp hx
      have e1 : fsz 4 ([x.1] : List (Nd 3)) = 1 + fsz 3 x.1.2 := rfl
      split at h
      · cases h
        refine ⟨by show p + ((4 * fsz 4 ([x.1] : List (Nd 3)) + x.2.2.length : Nat) : Int) ≤ n; rw [e1]; omega, by simp, fun g hg hq => ?_⟩
        obtain ⟨g1, g2⟩ := h4 g hg hq
        refine ⟨g1, fun v => ?_⟩
        have := g2 v
        have e2 : (chL g v ([x.1] : List (Nd 3))).length = (payT g v 3 x.1).length + 1 + 0 := chL_len
        show p + (((chL g v ([x.1] : List (Nd 3))).length + 3 * 1 : Nat) : Int) ≤ n
        rw [e2]; omega
      · split at h
        · cases h
        · rename_i c c2
          split at h
          · cases h
          · rename_i s' hs
            cases h
            obtain ⟨s1, s2, s3⟩ := ih _ _ _ (by omega) hs
            refine ⟨?_, by simp; omega, fun g hg hq => ?_⟩
            · show p + ((4 * fsz 4 (x.1 :: s'.1 : List (Nd 3)) + (x.2.2 ++ s'.2).length : Nat) : Int) ≤ n
              rw [fsz_c4, List.length_append]; omega
            · have hq' : q + (x.2.2 ++ s'.2).length ≤ 120 := hq
              rw [List.length_append] at hq'
              obtain ⟨g1, g2⟩ := h4 g (fun k hk => by
                have := hg k (by rw [List.length_append]; omega)
                rw [this, List.getElem_append_left hk]) (by omega)
              obtain ⟨g3, g4⟩ := s3 g (fun k hk => by
                have := hg (x.2.2.length + k) (by rw [List.length_append]; omega)
                rw [show ((q + x.2.2.length : Nat) : Int) + (k : Int) = (q : Int) + ((x.2.2.length + k : Nat) : Int) by omega, this, List.getElem_append_right (by omega)]
                congr 1; omega) (by omega)
              rw [wF_cons] at g1
              refine ⟨⟨g1.1, g3⟩, fun v => ?_⟩
              have a1 := g2 v
              have a2 := g4 v
              show p + (((chL g v (x.1 :: s'.1)).length + 3 * (s'.1.length + 1) : Nat) : Int) ≤ n
              rw [chL_len]; omega
section
variable {L d : Nat} {t : Int → Int} {J K : mJ} {R : mm_R} {p x y lv : Int} {i : Nat}
theorem l_ctop (hR : wfR R) {a1 : Nat} : ∀ (k : Nat) (p : Int) (J : mJ), TX t J R → (0 ≤ p ∧ p ≤ J 27 1) → (0 ≤ J 47 6 ∧ 0 ≤ J 53 1 ∧ 4 * J 47 6 + J 53 1 ≤ p) → 1 ≤ k → k ≤ 6 →
    match tpS t (J 27 1) k p (J 53 1).toNat with
    | .error e => ∃ J', EE (d + 12) 69 21 [some (.ref 46), some (.ref a1), some (vi 0), some (vi (7 - k))] [] (SH L) (gt t J p) K R = ok (some (vi 0)) (SH L) J' K R ∧ ER e J J'
    | .ok s => ∃ J' p', EE (d + 12) 69 21 [some (.ref 46), some (.ref a1), some (vi 0), some (vi (7 - k))] [] (SH L) (gt t J p) K R = ok (some (vi 1)) (SH L) (gt t J' p') K R ∧ PL 4 0 J J' s.1 s.2 := by
  have s46 : (SH L)[46]? = some (8, 5) := rfl; have r46_0 : R 46 0 = some 47 := rr_lk hR rfl; have s27 : (SH L)[27]? = some (0, 2) := rfl; have r27_0 : R 27 0 = some 28 := rr_lk hR rfl
  intro k
  induction k with
  | zero => intro p J h hp hc h1; omega
  | succ k ih =>
    intro p J h hp hc h1 h6
    have hn := h.2.2.1
    have hN := TX_N h
    have r1 := h.2.1
    have hx := ct_all (L := L) (d := d) (t := t) (K := K) hR 3 (by omega) J p h hp hc
    have hto : ∀ r, thS t 3 p (J 53 1).toNat = .ok r → TO t (J 27 1) 3 p (J 53 1).toNat r := fun r hr => thS_TO hN 3 p _ r hp.2 hr
    have hfa := fun d J p => tx_faulty (L := L) (d := d) (J := J) (K := K) (R := R) (p := p)
    rw [show (3 : Int) - ((3 : Nat) : Int) = 0 by omega, show d + 2 * 3 + 5 = d + 11 by omega] at hx
    unfold tpS
    cases hr : thS t 3 p (J 53 1).toNat with
    | error e =>
      rw [hr] at hx
      obtain ⟨J', j1, j2⟩ := hx
      refine ⟨J', ?_, j2⟩
      simp (disch := first | assumption | omega | exact bi_lo | exact bi_hi | exact bi_01 | exact jcmp_lo | exact jcmp_hi | exact (jor_r _ _).1 | exact (jor_r _ _).2 | exact (jand_r _ _).1 | exact (jand_r _ _).2) only [x69_21, x69_22, x69_24, x69_27, x69_28, x69_31, x69_32, x69_33, x69_36, x69_39, x69_40, kb_some, kb_none, clr_vi, clr_ref, clr_null, clr_none, va_rf_some, va_rf_none, ↓bi_ite_t, ↓bi_ite_f, ↓jc_lt_t, ↓jc_lt_f, ↓jc_gt_t, ↓jc_gt_f, ↓jc_le_t, ↓jc_le_f, ↓jc_ge_t, ↓jc_ge_f, ↓jc_eq_t, ↓jc_eq_f, ↓if_pos, ↓if_neg, j1]
    | ok r =>
      rw [hr] at hx
      obtain ⟨J1, j1, j2⟩ := hx
      obtain ⟨⟨o1, o2⟩, o3, -⟩ := hto r hr
      obtain ⟨hT1, e27⟩ := TX_PL h j2
      have e47 := j2.2.1
      have e53 := j2.2.2.1
      have efs : fsz 4 ([r.1] : List (Nd 3)) = 1 + fsz 3 r.1.2 := rfl
      rw [efs] at e47
      have hB : isB (SH L) R 27 28 100 := ⟨rfl, rr_lk hR rfl, rfl, by decide, by decide, by decide⟩
      have hsz := fun d => c_size (d := d) (J := gt t J1 r.2.1) (K := K) hB
      rw [gt_o (show (27 : Nat) ≠ 46 by decide), e27] at hsz
      have ho2 := tx_over (L := L) (d := d + 9) (K := K) (TX_gt (p := r.2.1) hT1) (y := 59) (by rw [gt_2]; omega) (by rw [gt_2, gt_3]) (by omega)
      rw [gt_2, gt_gt] at ho2
      simp only
      by_cases c1 : J 27 1 ≤ r.2.1
      · rw [if_pos c1]
        refine ⟨J1, r.2.1, ?_, j2⟩
        simp (disch := first | assumption | omega | exact bi_lo | exact bi_hi | exact bi_01 | exact jcmp_lo | exact jcmp_hi | exact (jor_r _ _).1 | exact (jor_r _ _).2 | exact (jand_r _ _).1 | exact (jand_r _ _).2) only [x69_21, x69_22, x69_24, x69_27, x69_28, kb_some, kb_none, clr_vi, clr_ref, clr_null, clr_none, va_rf_some, va_rf_none, ↓bi_ite_t, ↓bi_ite_f, ↓jc_lt_t, ↓jc_lt_f, ↓jc_gt_t, ↓jc_gt_f, ↓jc_le_t, ↓jc_le_f, ↓jc_ge_t, ↓jc_ge_f, ↓jc_eq_t, ↓jc_eq_f, ↓if_pos, ↓if_neg]
        simp (disch := first | assumption | omega | exact bi_lo | exact bi_hi | exact bi_01 | exact jcmp_lo | exact jcmp_hi | exact (jor_r _ _).1 | exact (jor_r _ _).2 | exact (jand_r _ _).1 | exact (jand_r _ _).2) only [x69_31, x69_32, x69_33, x69_36, x69_39, x69_40, x69_41, x69_42, x69_45, x69_46, x69_49, x69_52, x69_55, x69_56, x69_59, x69_60, x69_61, x69_62, x69_89, x69_92, kb_some, kb_none, clr_vi, clr_ref, clr_null, clr_none, va_rf_some, va_rf_none, ↓bi_ite_t, ↓bi_ite_f, ↓jc_lt_t, ↓jc_lt_f, ↓jc_gt_t, ↓jc_gt_f, ↓jc_le_t, ↓jc_le_f, ↓jc_ge_t, ↓jc_ge_f, ↓jc_eq_t, ↓jc_eq_f, ↓if_pos, ↓if_neg, j1, gt_2, hsz]
        by_cases c0 : (6 : Int) < 7 - ((k + 1 : Nat) : Int) + 1
        · simp (disch := first | assumption | omega | exact bi_lo | exact bi_hi | exact bi_01 | exact jcmp_lo | exact jcmp_hi | exact (jor_r _ _).1 | exact (jor_r _ _).2 | exact (jand_r _ _).1 | exact (jand_r _ _).2) only [x69_21, x69_22, x69_24, x69_27, x69_28, x69_95, x69_96, kb_some, kb_none, clr_vi, clr_ref, clr_null, clr_none, va_rf_some, va_rf_none, ↓bi_ite_t, ↓bi_ite_f, ↓jc_lt_t, ↓jc_lt_f, ↓jc_gt_t, ↓jc_gt_f, ↓jc_le_t, ↓jc_le_f, ↓jc_ge_t, ↓jc_ge_f, ↓jc_eq_t, ↓jc_eq_f, ↓if_pos, ↓if_neg]
        · simp (disch := first | assumption | omega | exact bi_lo | exact bi_hi | exact bi_01 | exact jcmp_lo | exact jcmp_hi | exact (jor_r _ _).1 | exact (jor_r _ _).2 | exact (jand_r _ _).1 | exact (jand_r _ _).2) only [x69_21, x69_22, x69_24, x69_27, x69_28, x69_95, x69_96, kb_some, kb_none, clr_vi, clr_ref, clr_null, clr_none, va_rf_some, va_rf_none, ↓bi_ite_t, ↓bi_ite_f, ↓jc_lt_t, ↓jc_lt_f, ↓jc_gt_t, ↓jc_gt_f, ↓jc_le_t, ↓jc_le_f, ↓jc_ge_t, ↓jc_ge_f, ↓jc_eq_t, ↓jc_eq_f, ↓if_pos, ↓if_neg]
      · rw [if_neg c1]
        by_cases c2 : k = 0 ∨ t r.2.1 ≠ 59
        · rw [if_pos c2]
          simp only
          refine ⟨_, ?_, ER_up (t := t) (J := J1) (p := r.2.1) j2.1 (by omega) (by omega)⟩
          by_cases c0 : k = 0
          · subst c0
            simp (disch := first | assumption | omega | exact bi_lo | exact bi_hi | exact bi_01 | exact jcmp_lo | exact jcmp_hi | exact (jor_r _ _).1 | exact (jor_r _ _).2 | exact (jand_r _ _).1 | exact (jand_r _ _).2) only [x69_21, x69_22, x69_24, x69_27, x69_28, kb_some, kb_none, clr_vi, clr_ref, clr_null, clr_none, va_rf_some, va_rf_none, ↓bi_ite_t, ↓bi_ite_f, ↓jc_lt_t, ↓jc_lt_f, ↓jc_gt_t, ↓jc_gt_f, ↓jc_le_t, ↓jc_le_f, ↓jc_ge_t, ↓jc_ge_f, ↓jc_eq_t, ↓jc_eq_f, ↓if_pos, ↓if_neg]
            simp (disch := first | assumption | omega | exact bi_lo | exact bi_hi | exact bi_01 | exact jcmp_lo | exact jcmp_hi | exact (jor_r _ _).1 | exact (jor_r _ _).2 | exact (jand_r _ _).1 | exact (jand_r _ _).2) only [x69_31, x69_32, x69_33, x69_36, x69_39, x69_40, x69_41, x69_42, x69_45, x69_46, x69_49, x69_52, x69_55, x69_56, x69_59, x69_60, x69_61, x69_62, x69_65, x69_66, x69_68, x69_71, x69_72, x69_74, x69_77, x69_80, x69_81, x69_82, x69_85, x69_88, kb_some, kb_none, clr_vi, clr_ref, clr_null, clr_none, va_rf_some, va_rf_none, ↓bi_ite_t, ↓bi_ite_f, ↓jc_lt_t, ↓jc_lt_f, ↓jc_gt_t, ↓jc_gt_f, ↓jc_le_t, ↓jc_le_f, ↓jc_ge_t, ↓jc_ge_f, ↓jc_eq_t, ↓jc_eq_f, ↓if_pos, ↓if_neg, j1, gt_2, hsz, hfa]
          · have c3 : t r.2.1 ≠ 59 := by
              rcases c2 with c2 | c2
              · exact absurd c2 c0
              · exact c2
            rw [if_neg c3] at ho2
            simp (disch := first | assumption | omega | exact bi_lo | exact bi_hi | exact bi_01 | exact jcmp_lo | exact jcmp_hi | exact (jor_r _ _).1 | exact (jor_r _ _).2 | exact (jand_r _ _).1 | exact (jand_r _ _).2) only [x69_21, x69_22, x69_24, x69_27, x69_28, kb_some, kb_none, clr_vi, clr_ref, clr_null, clr_none, va_rf_some, va_rf_none, ↓bi_ite_t, ↓bi_ite_f, ↓jc_lt_t, ↓jc_lt_f, ↓jc_gt_t, ↓jc_gt_f, ↓jc_le_t, ↓jc_le_f, ↓jc_ge_t, ↓jc_ge_f, ↓jc_eq_t, ↓jc_eq_f, ↓if_pos, ↓if_neg]
            simp (disch := first | assumption | omega | exact bi_lo | exact bi_hi | exact bi_01 | exact jcmp_lo | exact jcmp_hi | exact (jor_r _ _).1 | exact (jor_r _ _).2 | exact (jand_r _ _).1 | exact (jand_r _ _).2) only [x69_31, x69_32, x69_33, x69_36, x69_39, x69_40, x69_41, x69_42, x69_45, x69_46, x69_49, x69_52, x69_55, x69_56, x69_59, x69_60, x69_61, x69_62, x69_65, x69_66, x69_68, x69_71, x69_72, x69_74, x69_77, x69_80, x69_81, x69_82, x69_85, x69_88, kb_some, kb_none, clr_vi, clr_ref, clr_null, clr_none, va_rf_some, va_rf_none, ↓bi_ite_t, ↓bi_ite_f, ↓jc_lt_t, ↓jc_lt_f, ↓jc_gt_t, ↓jc_gt_f, ↓jc_le_t, ↓jc_le_f, ↓jc_ge_t, ↓jc_ge_f, ↓jc_eq_t, ↓jc_eq_f, ↓if_pos, ↓if_neg, j1, gt_2, hsz, hfa, ho2]
        · rw [if_neg c2]
          have c3 : t r.2.1 = 59 := by
            by_cases c4 : t r.2.1 = 59
            · exact c4
            · exact absurd (Or.inr c4) c2
          have ck : k ≠ 0 := fun q => c2 (Or.inl q)
          rw [if_pos c3] at ho2
          have eq53 : (J 53 1).toNat + r.2.2.length = (J1 53 1).toNat := by omega
          have ih' := ih (r.2.1 + 1) J1 hT1 (by omega) (by omega) (by omega) (by omega)
          rw [eq53]
          rw [e27] at ih'
          have go : ∀ X, EE (d + 12) 69 21 [some (.ref 46), some (.ref a1), some (vi 0), some (vi (7 - (k : Int)))] [] (SH L) (gt t J1 (r.2.1 + 1)) K R = X → EE (d + 12) 69 21 [some (.ref 46), some (.ref a1), some (vi 0), some (vi (7 - ((k + 1 : Nat) : Int)))] [] (SH L) (gt t J p) K R = X := by
            intro X hX
            rw [show (7 : Int) - (k : Int) = 7 - ((k + 1 : Nat) : Int) + 1 by omega] at hX
            simp (disch := first | assumption | omega | exact bi_lo | exact bi_hi | exact bi_01 | exact jcmp_lo | exact jcmp_hi | exact (jor_r _ _).1 | exact (jor_r _ _).2 | exact (jand_r _ _).1 | exact (jand_r _ _).2) only [x69_21, x69_22, x69_24, x69_27, x69_28, kb_some, kb_none, clr_vi, clr_ref, clr_null, clr_none, va_rf_some, va_rf_none, ↓bi_ite_t, ↓bi_ite_f, ↓jc_lt_t, ↓jc_lt_f, ↓jc_gt_t, ↓jc_gt_f, ↓jc_le_t, ↓jc_le_f, ↓jc_ge_t, ↓jc_ge_f, ↓jc_eq_t, ↓jc_eq_f, ↓if_pos, ↓if_neg]
            simp (disch := first | assumption | omega | exact bi_lo | exact bi_hi | exact bi_01 | exact jcmp_lo | exact jcmp_hi | exact (jor_r _ _).1 | exact (jor_r _ _).2 | exact (jand_r _ _).1 | exact (jand_r _ _).2) only [x69_31, x69_32, x69_33, x69_36, x69_39, x69_40, x69_41, x69_42, x69_45, x69_46, x69_49, x69_52, x69_55, x69_56, x69_59, x69_60, x69_61, x69_62, x69_65, x69_66, x69_68, x69_71, x69_72, x69_74, x69_77, x69_80, x69_81, x69_82, x69_85, x69_88, x69_89, x69_92, kb_some, kb_none, clr_vi, clr_ref, clr_null, clr_none, va_rf_some, va_rf_none, ↓bi_ite_t, ↓bi_ite_f, ↓jc_lt_t, ↓jc_lt_f, ↓jc_gt_t, ↓jc_gt_f, ↓jc_le_t, ↓jc_le_f, ↓jc_ge_t, ↓jc_ge_f, ↓jc_eq_t, ↓jc_eq_f, ↓if_pos, ↓if_neg, j1, gt_2, hsz, ho2]
            exact hX
          cases hs : tpS t (J 27 1) k (r.2.1 + 1) (J1 53 1).toNat with
          | error e =>
            rw [hs] at ih'
            obtain ⟨J', g1, g2⟩ := ih'
            exact ⟨J', go _ g1, ⟨fun a ha => (g2.1 a ha).trans (j2.1 a ha), g2.2⟩⟩
          | ok s =>
            rw [hs] at ih'
            obtain ⟨J', p', g1, g2⟩ := ih'
            exact ⟨J', p', go _ g1, PL_cons hc.1 hc.2.1 j2 g2⟩
/-- the text's things lie in the teller's rows -/
def CT (J : mJ) (F : List (Nd 3)) (c : List Int) : Prop := J 47 6 = (fsz 4 F : Nat) ∧ J 53 1 = (c.length : Nat) ∧ ∀ g : Int → Int, (∀ (k : Nat) (hk : k < c.length), g k = c[k]) → cF g (J 53 1) (J 48) (J 49) (J 50) (J 51) (J 52) (J 54) 4 0 F 0
theorem tx_isWhole (hR : wfR R) (hn : 0 ≤ J 27 1 ∧ J 27 1 ≤ 100) (hb : ∀ i, i < 100 → 0 ≤ J 28 i ∧ J 28 i ≤ 127) (h47 : 0 ≤ J 47 6 ∧ J 47 6 ≤ 40) (h53 : 0 ≤ J 53 1 ∧ J 53 1 ≤ 120) :
    ∃ v J', EE (d + 12) 69 0 [some (.ref 46), some (.ref 27), none, none] [] (SH L) J K R = ok (some (vi v)) (SH L) J' K (mm_up R 46 1 (some 27)) ∧ (∀ a, ¬ (46 ≤ a ∧ a ≤ 54) → J' a = J a) ∧ (0 ≤ J' 47 6 ∧ J' 47 6 ≤ 40) ∧ (0 ≤ J' 53 1 ∧ J' 53 1 ≤ 120) ∧ match tpS (bA J 27 28) (J 27 1) 6 0 0 with
      | .error e => v = 0 ∧ J' 46 4 = e
      | .ok s => v = 1 ∧ CT J' s.1 s.2 := by
  have hR' : wfR (mm_up R 46 1 (some 27)) := wfR_up hR rfl
  have hT : TX (bA J 27 28) J (mm_up R 46 1 (some 27)) := ⟨hR', by simp [mm_up], hn, hb, rfl⟩
  generalize bA J 27 28 = t at *
  have s46 : (SH L)[46]? = some (8, 5) := rfl
  have s47 : (SH L)[47]? = some (9, 7) := rfl
  have r46 : mm_up R 46 1 (some 27) 46 0 = some 47 := rr_lk hR' rfl
  have hgo := tx_goTo (L := L) (d := d + 10) (K := K) hT (p := 0) (by omega)
  have hbe := t_becomeEmpty (d := d + 10) (J := gt t J 0) (K := K) (isT_47 (L := L) hR') (by rw [gt_o (by decide)]; exact h53)
  rw [gt_o (show (53 : Nat) ≠ 46 by decide), gt_up (by decide), gt_up (by decide)] at hbe
  generalize hJ0 : (if 0 < J 53 1 then mm_up (mm_up J 47 6 0) 53 1 0 else mm_up J 47 6 0) = J0
  have ebe : (if 0 < J 53 1 then gt t (mm_up (mm_up J 47 6 0) 53 1 0) 0 else gt t (mm_up J 47 6 0) 0) = gt t J0 0 := by rw [← hJ0]; split <;> rfl
  rw [ebe] at hbe
  have o0 : ∀ a, ¬ (46 ≤ a ∧ a ≤ 54) → J0 a = J a := fun a ha => by
    rw [← hJ0]; split
    · rw [up_ne (by omega), up_ne (by omega)]
    · rw [up_ne (by omega)]
  have z47 : J0 47 6 = 0 := by rw [← hJ0]; split <;> simp [mm_up]
  have z53 : J0 53 1 = 0 := by
    rw [← hJ0]; split
    · simp [mm_up]
    · rw [up_ne (by decide)]; omega
  have hT0 : TX t J0 (mm_up R 46 1 (some 27)) := TX_o hT (by rw [o0 27 (by decide)]) (o0 28 (by decide))
  have e27 : J0 27 1 = J 27 1 := by rw [o0 27 (by decide)]
  have hl := l_ctop (L := L) (d := d) (K := K) hR' (a1 := 27) 6 0 J0 hT0 (by omega) (by omega) (by omega) (by omega)
  rw [e27, z53, show ((0 : Int)).toNat = 0 from rfl, show (7 : Int) - ((6 : Nat) : Int) = 1 by omega] at hl
  have go : ∀ X, EE (d + 12) 69 21 [some (.ref 46), some (.ref 27), some (vi 0), some (vi 1)] [] (SH L) (gt t J0 0) K (mm_up R 46 1 (some 27)) = X → EE (d + 12) 69 0 [some (.ref 46), some (.ref 27), none, none] [] (SH L) J K R = X := by
    intro X hX
    simp (disch := first | assumption | omega | exact bi_lo | exact bi_hi | exact bi_01 | exact jcmp_lo | exact jcmp_hi | exact (jor_r _ _).1 | exact (jor_r _ _).2 | exact (jand_r _ _).1 | exact (jand_r _ _).2) only [x69_0, x69_1, x69_1n, x69_2, x69_5, x69_6, x69_7, x69_10, x69_11, x69_14, x69_17, x69_18, x69_19, x69_20, kb_some, kb_none, clr_vi, clr_ref, clr_null, clr_none, va_rf_some, va_rf_none, hgo, hbe]
    exact hX
  cases hs : tpS t (J 27 1) 6 0 0 with
  | error e =>
    rw [hs] at hl
    obtain ⟨J', j1, j2, j3, j4, j5⟩ := hl
    exact ⟨0, J', go _ j1, fun a ha => (j2 a ha).trans (o0 a ha), j4, j5, rfl, j3⟩
  | ok s =>
    rw [hs] at hl
    obtain ⟨J', p', j1, j2, j3, j4, j5, j6, j7, j8⟩ := hl
    rw [z47, Int.zero_add] at j3
    rw [z53, Int.zero_add] at j4
    rw [z47, z53] at j8
    have e1 : gt t J' p' 47 = J' 47 := gt_o (by decide)
    have e2 : gt t J' p' 53 = J' 53 := gt_o (by decide)
    have hr := tpS_r (TX_N hT0) 6 0 0 s (by omega) (by rw [e27]; exact hs)
    have hsz : (fsz 4 s.1 : Nat) ≤ 40 ∧ s.2.length ≤ 120 := by omega
    refine ⟨1, gt t J' p', go _ j1, fun a ha => by rw [gt_o (by omega), j2 a ha, o0 a ha], by rw [e1, j3]; omega, by rw [e2, j4]; omega, rfl, by rw [e1, j3], by rw [e2, j4], fun g hg => ?_⟩
    have := j8 g (fun k hk => by rw [Int.zero_add]; exact hg k hk)
    rw [gt_o (show (53 : Nat) ≠ 46 by decide), gt_o (show (48 : Nat) ≠ 46 by decide), gt_o (show (49 : Nat) ≠ 46 by decide), gt_o (show (50 : Nat) ≠ 46 by decide), gt_o (show (51 : Nat) ≠ 46 by decide), gt_o (show (52 : Nat) ≠ 46 by decide), gt_o (show (54 : Nat) ≠ 46 by decide)]
    exact this
end
