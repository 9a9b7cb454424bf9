/-! the reference lays the checks, and a file -/
section
variable {L d : Nat} {J K : mJ} {R : mm_R} {g : Int → Int} {v : Int} {n : Nat}
theorem l_chn (hR : wfR R) (hv : 1 ≤ v ∧ v ≤ 3) {l2 : Int} : ∀ (D : Nat) (F : Fo D) (i s : Nat) (J : mJ), wF g D F → lF g v (J 99) D F i → pF g v (J 100) D F i s → b0 g v (J 98) D F s → i + fsz D F ≤ 60 → s + (wrF g v D F).length ≤ 250 →
    ∃ J', EE (d + 2) 171 132 [some (.ref 76), some (vi v), some (vi l2), some (vi ((i : Int) + fsz D F - 1))] [] (SH L) J K R = EE (d + 2) 171 132 [some (.ref 76), some (vi v), some (vi l2), some (vi ((i : Int) - 1))] [] (SH L) J' K R ∧ (∀ a j, ¬ (a = 98 ∧ s ≤ j ∧ j < s + (wrF g v D F).length) → J' a j = J a j) ∧ seg (J' 98) s (wrF g v D F) := by
  have s76 : (SH L)[76]? = some (11, 58) := rfl; have r76_0 : R 76 0 = some 77 := rr_lk hR rfl; have r76_3 : R 76 3 = some 78 := rr_lk hR rfl; have r76_4 : R 76 4 = some 79 := rr_lk hR rfl; have r76_6 : R 76 6 = some 80 := rr_lk hR rfl; have r76_7 : R 76 7 = some 81 := rr_lk hR rfl; have r76_9 : R 76 9 = some 82 := rr_lk hR rfl; have r76_10 : R 76 10 = some 83 := rr_lk hR rfl; have r76_12 : R 76 12 = some 84 := rr_lk hR rfl; have r76_13 : R 76 13 = some 85 := rr_lk hR rfl; have r76_19 : R 76 19 = some 86 := rr_lk hR rfl; have r76_20 : R 76 20 = some 87 := rr_lk hR rfl; have r76_21 : R 76 21 = some 88 := rr_lk hR rfl; have r76_22 : R 76 22 = some 89 := rr_lk hR rfl; have r76_24 : R 76 24 = some 90 := rr_lk hR rfl; have r76_25 : R 76 25 = some 91 := rr_lk hR rfl; have r76_26 : R 76 26 = some 92 := rr_lk hR rfl; have r76_28 : R 76 28 = some 93 := rr_lk hR rfl; have r76_29 : R 76 29 = some 94 := rr_lk hR rfl; have r76_30 : R 76 30 = some 95 := rr_lk hR rfl; have r76_31 : R 76 31 = some 96 := rr_lk hR rfl; have r76_32 : R 76 32 = some 97 := rr_lk hR rfl; have r76_36 : R 76 36 = some 98 := rr_lk hR rfl; have r76_38 : R 76 38 = some 99 := rr_lk hR rfl; have r76_39 : R 76 39 = some 100 := rr_lk hR rfl; have r76_40 : R 76 40 = some 101 := rr_lk hR rfl; have r76_41 : R 76 41 = some 102 := rr_lk hR rfl; have r76_42 : R 76 42 = some 103 := rr_lk hR rfl; have r76_47 : R 76 47 = some 104 := rr_lk hR rfl; have r76_53 : R 76 53 = some 105 := rr_lk hR rfl; have r76_54 : R 76 54 = some 106 := rr_lk hR rfl; have r76_55 : R 76 55 = some 107 := rr_lk hR rfl; have r76_56 : R 76 56 = some 108 := rr_lk hR rfl; have r76_57 : R 76 57 = some 109 := rr_lk hR rfl; have s98 : (SH L)[98]? = some (20, 400) := rfl; have s99 : (SH L)[99]? = some (20, 60) := rfl; have s100 : (SH L)[100]? = some (20, 60) := rfl
  intro D
  induction D with
  | zero =>
    intro F i s J hw hl hp hb hi hs
    refine ⟨J, ?_, fun _ _ _ => rfl, trivial⟩
    rw [show (i : Int) + (fsz 0 F : Nat) - 1 = (i : Int) - 1 by have : fsz 0 F = 0 := rfl; omega]
  | succ D ih =>
    intro F
    induction (F : List (Nd D)) with
    | nil =>
      intro i s J hw hl hp hb hi hs
      refine ⟨J, ?_, fun _ _ _ => rfl, trivial⟩
      rw [fsz_nil, show (i : Int) + ((0 : Nat) : Int) - 1 = (i : Int) - 1 by omega]
    | cons x F ihF =>
      intro i s J hw hl hp hb hi hs
      have hw0 := hw
      rw [wF_cons] at hw
      rw [lF_cons] at hl
      rw [pF_cons] at hp
      rw [b0_cons] at hb
      rw [fsz_cons] at hi ⊢
      rw [wrF_len] at hs
      obtain ⟨w1, w2, w3, w4⟩ := hw.1
      obtain ⟨v1, v2, v3⟩ := hl
      obtain ⟨p1, p2, p3⟩ := hp
      obtain ⟨⟨q1, q2, q3⟩, q4, q5⟩ := hb
      have hle := wr_le (g := g) (v := v) w3
      obtain ⟨J1, a1, a2, a3⟩ := ihF (i + 1 + fsz D x.2) (s + (3 + (payT g v D x).length)) J hw.2 v3 p3 q5 (by omega) (by omega)
      have o1 : ∀ a, a ≠ 98 → J1 a = J a := fun a ha => by funext j; exact a2 a j (by omega)
      have k1 : ∀ j, j < s + (3 + (payT g v D x).length) → J1 98 j = J 98 j := fun j hj => a2 98 j (by omega)
      obtain ⟨J2, b1, b2, b3⟩ := ih x.2 (i + 1) (s + 2) J1 w4 (by rw [o1 99 (by decide)]; exact v2) (by rw [o1 100 (by decide)]; exact p2) (b0_congr _ _ _ w4 q4 (fun j j1 j2 => k1 j (by omega))) (by omega) (by omega)
      have o2 : ∀ a, a ≠ 98 → J2 a = J a := fun a ha => by funext j; rw [b2 a j (by omega), o1 a ha]
      have hP : seg (J2 98) (s + 2) (payT g v D x) := by
        by_cases c : x.1.1 = 103
        · rw [pay_group c]; exact b3
        · have ez : (wrF g v D x.2).length = 0 := by rw [w3 c, wrF_0]; rfl
          have hq := q3 c
          rw [← pay_leaf (v := v) c] at hq
          exact seg_congr _ _ hq (fun j j1 j2 => by rw [b2 98 j (by omega), k1 j (by omega)])
      have hbl := byL_pay (g := g) (v := v) (d := D) (x := x) ⟨hw.1, trivial⟩ (by omega)
      have hck := m_madeCheck (L := L) (d := d) (v := v) (J := J2) (K := K) hR (s0 := s + 2) (P := payT g v D x) (by omega) (by omega) hP hbl
      have e99 : J2 99 i = ((payT g v D x).length : Nat) := by rw [o2 99 (by decide)]; exact v1
      have e100 : J2 100 i = ((s + 2 : Nat) : Int) := by rw [o2 100 (by decide)]; exact p1
      refine ⟨mm_up J2 98 (s + 2 + (payT g v D x).length) (ckL v (payT g v D x) 0), ?_, ?_, ?_⟩
      · rw [show (i : Int) + ((1 + fsz D x.2 + fsz (D + 1) F : Nat) : Int) - 1 = ((i + 1 + fsz D x.2 : Nat) : Int) + (fsz (D + 1) F : Nat) - 1 by omega, a1]
        rw [show ((i + 1 + fsz D x.2 : Nat) : Int) - 1 = ((i + 1 : Nat) : Int) + (fsz D x.2 : Nat) - 1 by omega, b1]
        rw [show ((i + 1 : Nat) : Int) - 1 = (i : Int) by omega]
        have et : (((s + 2 : Nat) : Int) + ((payT g v D x).length : Nat)).toNat = s + 2 + (payT g v D x).length := by omega
        have go : ∀ X, EE (d + 2) 171 132 [some (.ref 76), some (vi v), some (vi l2), some (vi ((i : Int) + -1))] [] (SH L) (mm_up J2 98 (s + 2 + (payT g v D x).length) (ckL v (payT g v D x) 0)) K R = X → EE (d + 2) 171 132 [some (.ref 76), some (vi v), some (vi l2), some (vi i)] [] (SH L) J2 K R = X := by
          intro X hX
          simp (disch := first | assumption | omega | exact bi_lo | exact bi_hi | exact bi_01 | exact jcmp_lo | exact jcmp_hi | exact (jor_r _ _).1 | exact (jor_r _ _).2 | exact (jand_r _ _).1 | exact (jand_r _ _).2) only [x171_132, x171_133, kb_some, kb_none, clr_vi, clr_ref, clr_null, clr_none, va_rf_some, va_rf_none, ↓bi_ite_t, ↓bi_ite_f, ↓jc_lt_t, ↓jc_lt_f, ↓jc_gt_t, ↓jc_gt_f, ↓jc_le_t, ↓jc_le_f, ↓jc_ge_t, ↓jc_ge_f, ↓jc_eq_t, ↓jc_eq_f, ↓if_pos, ↓if_neg]
          simp (disch := first | assumption | omega | exact bi_lo | exact bi_hi | exact bi_01 | exact jcmp_lo | exact jcmp_hi | exact (jor_r _ _).1 | exact (jor_r _ _).2 | exact (jand_r _ _).1 | exact (jand_r _ _).2) only [x171_136, x171_137, x171_140, x171_141, x171_144, x171_145, x171_146, x171_147, x171_150, x171_151, x171_152, x171_153, x171_154, x171_155, x171_156, x171_159, x171_160, x171_161, x171_162, x171_165, x171_166, x171_167, x171_170, x171_171, x171_174, kb_some, kb_none, clr_vi, clr_ref, clr_null, clr_none, va_rf_some, va_rf_none, ↓bi_ite_t, ↓bi_ite_f, ↓jc_lt_t, ↓jc_lt_f, ↓jc_gt_t, ↓jc_gt_f, ↓jc_le_t, ↓jc_le_f, ↓jc_ge_t, ↓jc_ge_f, ↓jc_eq_t, ↓jc_eq_f, ↓if_pos, ↓if_neg, Int.toNat_natCast, e99, e100, hck, et]
          exact hX
        rw [go _ rfl]; rfl
      · rw [wrF_len]
        intro a j hj
        unfold mm_up
        rw [if_neg (by omega), b2 a j (by omega), a2 a j (by omega)]
      · have k3 : ∀ j, j ≠ s + 2 + (payT g v D x).length → mm_up J2 98 (s + 2 + (payT g v D x).length) (ckL v (payT g v D x) 0) 98 j = J2 98 j := fun j hj => up_j hj
        rw [wrF_cons]
        refine seg_app _ _ _ (seg_app _ _ _ (seg_app _ _ _ ⟨?_, ?_, trivial⟩ ?_) ⟨?_, trivial⟩) ?_
        · rw [k3 _ (by omega), b2 98 s (by omega), k1 s (by omega), q1]
        · rw [k3 _ (by omega), b2 98 (s + 1) (by omega), k1 (s + 1) (by omega), q2]
        · exact seg_congr _ _ hP (fun j j1 j2 => k3 j (by simp at j1 j2; omega))
        · simp only [List.length_append, List.length_cons, List.length_nil]
          rw [show s + (0 + 1 + 1 + (payT g v D x).length) = s + 2 + (payT g v D x).length by omega, up_s]
        · simp only [List.length_append, List.length_cons, List.length_nil]
          refine seg_congr _ _ ?_ (fun j j1 j2 => ?_) (m := J1 98)
          · rw [show s + (0 + 1 + 1 + (payT g v D x).length + (0 + 1)) = s + (3 + (payT g v D x).length) by omega]; exact a3
          · rw [k3 j (by omega), b2 98 j (by omega)]
theorem l_cht (hR : wfR R) (hv : 1 ≤ v ∧ v ≤ 3) {l2 : Int} : ∀ (F : List (Nd 3)) (i s : Nat) (J : mJ), wF g 4 F → lF g v (J 99) 4 F i → pT g v (J 100) F i s → b0T g v (J 98) F s → i + fsz 4 F ≤ 60 → s + (chL g v F).length ≤ 250 →
    ∃ J', EE (d + 2) 171 132 [some (.ref 76), some (vi v), some (vi l2), some (vi ((i : Int) + fsz 4 F - 1))] [] (SH L) J K R = EE (d + 2) 171 132 [some (.ref 76), some (vi v), some (vi l2), some (vi ((i : Int) - 1))] [] (SH L) J' K R ∧ (∀ a j, ¬ (a = 98 ∧ s ≤ j ∧ j < s + (chL g v F).length) → J' a j = J a j) ∧ seg (J' 98) s (chL g v F) := by
  have s76 : (SH L)[76]? = some (11, 58) := rfl; have r76_0 : R 76 0 = some 77 := rr_lk hR rfl; have r76_3 : R 76 3 = some 78 := rr_lk hR rfl; have r76_4 : R 76 4 = some 79 := rr_lk hR rfl; have r76_6 : R 76 6 = some 80 := rr_lk hR rfl; have r76_7 : R 76 7 = some 81 := rr_lk hR rfl; have r76_9 : R 76 9 = some 82 := rr_lk hR rfl; have r76_10 : R 76 10 = some 83 := rr_lk hR rfl; have r76_12 : R 76 12 = some 84 := rr_lk hR rfl; have r76_13 : R 76 13 = some 85 := rr_lk hR rfl; have r76_19 : R 76 19 = some 86 := rr_lk hR rfl; have r76_20 : R 76 20 = some 87 := rr_lk hR rfl; have r76_21 : R 76 21 = some 88 := rr_lk hR rfl; have r76_22 : R 76 22 = some 89 := rr_lk hR rfl; have r76_24 : R 76 24 = some 90 := rr_lk hR rfl; have r76_25 : R 76 25 = some 91 := rr_lk hR rfl; have r76_26 : R 76 26 = some 92 := rr_lk hR rfl; have r76_28 : R 76 28 = some 93 := rr_lk hR rfl; have r76_29 : R 76 29 = some 94 := rr_lk hR rfl; have r76_30 : R 76 30 = some 95 := rr_lk hR rfl; have r76_31 : R 76 31 = some 96 := rr_lk hR rfl; have r76_32 : R 76 32 = some 97 := rr_lk hR rfl; have r76_36 : R 76 36 = some 98 := rr_lk hR rfl; have r76_38 : R 76 38 = some 99 := rr_lk hR rfl; have r76_39 : R 76 39 = some 100 := rr_lk hR rfl; have r76_40 : R 76 40 = some 101 := rr_lk hR rfl; have r76_41 : R 76 41 = some 102 := rr_lk hR rfl; have r76_42 : R 76 42 = some 103 := rr_lk hR rfl; have r76_47 : R 76 47 = some 104 := rr_lk hR rfl; have r76_53 : R 76 53 = some 105 := rr_lk hR rfl; have r76_54 : R 76 54 = some 106 := rr_lk hR rfl; have r76_55 : R 76 55 = some 107 := rr_lk hR rfl; have r76_56 : R 76 56 = some 108 := rr_lk hR rfl; have r76_57 : R 76 57 = some 109 := rr_lk hR rfl; have s98 : (SH L)[98]? = some (20, 400) := rfl; have s99 : (SH L)[99]? = some (20, 60) := rfl; have s100 : (SH L)[100]? = some (20, 60) := rfl
  intro F
  induction F with
  | nil =>
    intro i s J hw hl hp hb hi hs
    refine ⟨J, ?_, fun _ _ _ => rfl, trivial⟩
    rw [fsz_nil, show (i : Int) + ((0 : Nat) : Int) - 1 = (i : Int) - 1 by omega]
  | cons x F ihF =>
    intro i s J hw hl hp hb hi hs
    rw [wF_cons] at hw
    rw [lF_cons] at hl
    rw [fsz_c4] at hi ⊢
    rw [chL_len] at hs
    obtain ⟨w1, w2, w3, w4⟩ := hw.1
    obtain ⟨v1, v2, v3⟩ := hl
    obtain ⟨p1, p2, p3⟩ := hp
    obtain ⟨q3, q4, q5⟩ := hb
    have hle := wr_le (g := g) (v := v) w3
    obtain ⟨J1, a1, a2, a3⟩ := ihF (i + 1 + fsz 3 x.2) (s + ((payT g v 3 x).length + 1)) J hw.2 v3 p3 q5 (by omega) (by omega)
    have o1 : ∀ a, a ≠ 98 → J1 a = J a := fun a ha => by funext j; exact a2 a j (by omega)
    have k1 : ∀ j, j < s + ((payT g v 3 x).length + 1) → J1 98 j = J 98 j := fun j hj => a2 98 j (by omega)
    obtain ⟨J2, b1, b2, b3⟩ := l_chn (L := L) (d := d) (K := K) (g := g) (l2 := l2) hR hv 3 x.2 (i + 1) s J1 w4 (by rw [o1 99 (by decide)]; exact v2) (by rw [o1 100 (by decide)]; exact p2) (b0_congr _ _ _ w4 q4 (fun j j1 j2 => k1 j (by omega))) (by omega) (by omega)
    have o2 : ∀ a, a ≠ 98 → J2 a = J a := fun a ha => by funext j; rw [b2 a j (by omega), o1 a ha]
    have hP : seg (J2 98) s (payT g v 3 x) := by
      by_cases c : x.1.1 = 103
      · rw [pay_group c]; exact b3
      · have ez : (wrF g v 3 x.2).length = 0 := by rw [w3 c, wrF_0]; rfl
        have hq := q3 c
        rw [← pay_leaf (v := v) c] at hq
        exact seg_congr _ _ hq (fun j j1 j2 => by rw [b2 98 j (by omega), k1 j (by omega)])
    have hbl := byL_pay (g := g) (v := v) (d := 3) (x := x) ⟨hw.1, trivial⟩ (by omega)
    have hck := m_madeCheck (L := L) (d := d) (v := v) (J := J2) (K := K) hR (s0 := s) (P := payT g v 3 x) (by omega) (by omega) hP hbl
    have e99 : J2 99 i = ((payT g v 3 x).length : Nat) := by rw [o2 99 (by decide)]; exact v1
    have e100 : J2 100 i = (s : Int) := by rw [o2 100 (by decide)]; exact p1
    refine ⟨mm_up J2 98 (s + (payT g v 3 x).length) (ckL v (payT g v 3 x) 0), ?_, ?_, ?_⟩
    · rw [show (i : Int) + ((1 + fsz 3 x.2 + fsz 4 F : Nat) : Int) - 1 = ((i + 1 + fsz 3 x.2 : Nat) : Int) + (fsz 4 F : Nat) - 1 by omega, a1]
      rw [show ((i + 1 + fsz 3 x.2 : Nat) : Int) - 1 = ((i + 1 : Nat) : Int) + (fsz 3 x.2 : Nat) - 1 by omega, b1]
      rw [show ((i + 1 : Nat) : Int) - 1 = (i : Int) by omega]
      have et : ((s : Int) + ((payT g v 3 x).length : Nat)).toNat = s + (payT g v 3 x).length := by omega
      have go : ∀ X, EE (d + 2) 171 132 [some (.ref 76), some (vi v), some (vi l2), some (vi ((i : Int) + -1))] [] (SH L) (mm_up J2 98 (s + (payT g v 3 x).length) (ckL v (payT g v 3 x) 0)) K R = X → EE (d + 2) 171 132 [some (.ref 76), some (vi v), some (vi l2), some (vi i)] [] (SH L) J2 K R = X := by
        intro X hX
        simp (disch := first | assumption | omega | exact bi_lo | exact bi_hi | exact bi_01 | exact jcmp_lo | exact jcmp_hi | exact (jor_r _ _).1 | exact (jor_r _ _).2 | exact (jand_r _ _).1 | exact (jand_r _ _).2) only [x171_132, x171_133, kb_some, kb_none, clr_vi, clr_ref, clr_null, clr_none, va_rf_some, va_rf_none, ↓bi_ite_t, ↓bi_ite_f, ↓jc_lt_t, ↓jc_lt_f, ↓jc_gt_t, ↓jc_gt_f, ↓jc_le_t, ↓jc_le_f, ↓jc_ge_t, ↓jc_ge_f, ↓jc_eq_t, ↓jc_eq_f, ↓if_pos, ↓if_neg]
        simp (disch := first | assumption | omega | exact bi_lo | exact bi_hi | exact bi_01 | exact jcmp_lo | exact jcmp_hi | exact (jor_r _ _).1 | exact (jor_r _ _).2 | exact (jand_r _ _).1 | exact (jand_r _ _).2) only [x171_136, x171_137, x171_140, x171_141, x171_144, x171_145, x171_146, x171_147, x171_150, x171_151, x171_152, x171_153, x171_154, x171_155, x171_156, x171_159, x171_160, x171_161, x171_162, x171_165, x171_166, x171_167, x171_170, x171_171, x171_174, kb_some, kb_none, clr_vi, clr_ref, clr_null, clr_none, va_rf_some, va_rf_none, ↓bi_ite_t, ↓bi_ite_f, ↓jc_lt_t, ↓jc_lt_f, ↓jc_gt_t, ↓jc_gt_f, ↓jc_le_t, ↓jc_le_f, ↓jc_ge_t, ↓jc_ge_f, ↓jc_eq_t, ↓jc_eq_f, ↓if_pos, ↓if_neg, Int.toNat_natCast, e99, e100, hck, et]
        exact hX
      rw [go _ rfl]; rfl
    · rw [chL_len]
      intro a j hj
      unfold mm_up
      rw [if_neg (by omega), b2 a j (by omega), a2 a j (by omega)]
    · have k3 : ∀ j, j ≠ s + (payT g v 3 x).length → mm_up J2 98 (s + (payT g v 3 x).length) (ckL v (payT g v 3 x) 0) 98 j = J2 98 j := fun j hj => up_j hj
      rw [show chL g v (x :: F) = payT g v 3 x ++ [ckL v (payT g v 3 x) 0] ++ chL g v F from rfl]
      refine seg_app _ _ _ (seg_app _ _ _ (seg_congr _ _ hP (fun j j1 j2 => k3 j (by omega))) ⟨up_s, trivial⟩) ?_
      simp only [List.length_append, List.length_cons, List.length_nil]
      refine seg_congr _ _ ?_ (fun j j1 j2 => ?_) (m := J1 98)
      · rw [show s + ((payT g v 3 x).length + (0 + 1)) = s + ((payT g v 3 x).length + 1) by omega]; exact a3
      · rw [k3 j (by omega), b2 98 j (by omega)]
abbrev AW (a j : Nat) : Prop := (a = 76 ∧ j = 37) ∨ (98 ≤ a ∧ a ≤ 101)
theorem m_layFile (hR : wfR R) {F : List (Nd 3)} (h : MG g J F) (hsp : SP g J) (hv : 1 ≤ v ∧ v ≤ 3) (hlen : (fileL g v F).length ≤ 250) :
    ∃ J', EE (d + 4) 171 0 [some (.ref 76), some (vi v), none, none] [] (SH L) J K R = ok none (SH L) J' K R ∧ frm AW J J' ∧ J' 76 37 = (fileL g v F).length ∧ seg (J' 98) 0 (fileL g v F) := by
  have s76 : (SH L)[76]? = some (11, 58) := rfl; have r76_0 : R 76 0 = some 77 := rr_lk hR rfl; have r76_3 : R 76 3 = some 78 := rr_lk hR rfl; have r76_4 : R 76 4 = some 79 := rr_lk hR rfl; have r76_6 : R 76 6 = some 80 := rr_lk hR rfl; have r76_7 : R 76 7 = some 81 := rr_lk hR rfl; have r76_9 : R 76 9 = some 82 := rr_lk hR rfl; have r76_10 : R 76 10 = some 83 := rr_lk hR rfl; have r76_12 : R 76 12 = some 84 := rr_lk hR rfl; have r76_13 : R 76 13 = some 85 := rr_lk hR rfl; have r76_19 : R 76 19 = some 86 := rr_lk hR rfl; have r76_20 : R 76 20 = some 87 := rr_lk hR rfl; have r76_21 : R 76 21 = some 88 := rr_lk hR rfl; have r76_22 : R 76 22 = some 89 := rr_lk hR rfl; have r76_24 : R 76 24 = some 90 := rr_lk hR rfl; have r76_25 : R 76 25 = some 91 := rr_lk hR rfl; have r76_26 : R 76 26 = some 92 := rr_lk hR rfl; have r76_28 : R 76 28 = some 93 := rr_lk hR rfl; have r76_29 : R 76 29 = some 94 := rr_lk hR rfl; have r76_30 : R 76 30 = some 95 := rr_lk hR rfl; have r76_31 : R 76 31 = some 96 := rr_lk hR rfl; have r76_32 : R 76 32 = some 97 := rr_lk hR rfl; have r76_36 : R 76 36 = some 98 := rr_lk hR rfl; have r76_38 : R 76 38 = some 99 := rr_lk hR rfl; have r76_39 : R 76 39 = some 100 := rr_lk hR rfl; have r76_40 : R 76 40 = some 101 := rr_lk hR rfl; have r76_41 : R 76 41 = some 102 := rr_lk hR rfl; have r76_42 : R 76 42 = some 103 := rr_lk hR rfl; have r76_47 : R 76 47 = some 104 := rr_lk hR rfl; have r76_53 : R 76 53 = some 105 := rr_lk hR rfl; have r76_54 : R 76 54 = some 106 := rr_lk hR rfl; have r76_55 : R 76 55 = some 107 := rr_lk hR rfl; have r76_56 : R 76 56 = some 108 := rr_lk hR rfl; have r76_57 : R 76 57 = some 109 := rr_lk hR rfl; have s98 : (SH L)[98]? = some (20, 400) := rfl
  have h60 := h.2.2.1
  have hn : J 76 18 = (fsz 4 F : Nat) := h.1.2
  obtain ⟨J1, a1, a2, a3, a4⟩ := m_layPlaces (L := L) (d := d) (K := K) (v := v) hR h
  rw [fileL_len] at hlen
  generalize hJ2 : mm_up (mm_up (mm_up (mm_up (mm_up J1 76 37 ((fileL g v F).length : Nat)) 98 0 67) 98 1 70) 98 2 v) 98 3 (F.length : Nat) = J2
  have f2 : ∀ a j, ¬ ((a = 76 ∧ j = 37) ∨ (a = 98 ∧ j < 4)) → J2 a j = J1 a j := fun a j hj => by
    rw [← hJ2]; unfold mm_up
    rw [if_neg (by omega), if_neg (by omega), if_neg (by omega), if_neg (by omega), if_neg (by omega)]
  have o2 : ∀ a, ¬ (a = 76 ∨ (98 ≤ a ∧ a ≤ 101)) → J2 a = J a := fun a ha => by funext j; rw [f2 a j (by omega), a2 a j (by omega)]
  have e18 : J2 76 18 = (fsz 4 F : Nat) := by rw [f2 76 18 (by omega), a2 76 18 (by omega)]; exact hn
  have hMF : MF J2 F := ⟨by rw [o2 86 (by decide), o2 87 (by decide), o2 88 (by decide), o2 89 (by decide)]; exact h.1.1, e18⟩
  have htm : ∀ (J' : mJ), (∀ a, 86 ≤ a → a ≤ 89 → J' a = J a) → J' 76 18 = J 76 18 → EE (d + 3) 166 0 [some (.ref 76), none, none] [] (SH L) J' K R = ok (some (vi (F.length : Nat))) (SH L) J' K R := fun J' h1 h2 => m_topMany (L := L) (d := d + 3) (K := K) hR (F := F) ⟨by rw [h1 86 (by decide) (by decide), h1 87 (by decide) (by decide), h1 88 (by decide) (by decide), h1 89 (by decide) (by decide)]; exact h.1.1, by rw [h2]; exact hn⟩ (by rw [h2]; omega)
  have go : ∀ X, EE (d + 4) 171 45 [some (.ref 76), some (vi v), some (vi 0), some (vi 0)] [] (SH L) J2 K R = X → EE (d + 4) 171 0 [some (.ref 76), some (vi v), none, none] [] (SH L) J K R = X := by
    intro X hX
    have ht := htm (mm_up (mm_up (mm_up (mm_up J1 76 37 ((fileL g v F).length : Nat)) 98 0 67) 98 1 70) 98 2 v) (fun a a1 a2' => by
      funext j
      unfold mm_up
      rw [if_neg (by omega), if_neg (by omega), if_neg (by omega), if_neg (by omega), a2 a j (by omega)]) (by
      unfold mm_up
      rw [if_neg (by omega), if_neg (by omega), if_neg (by omega), if_neg (by omega), a2 76 18 (by omega)])
    rw [← hJ2] at hX
    simp (disch := first | assumption | omega | exact bi_lo | exact bi_hi | exact bi_01 | exact jcmp_lo | exact jcmp_hi | exact (jor_r _ _).1 | exact (jor_r _ _).2 | exact (jand_r _ _).1 | exact (jand_r _ _).2) only [x171_0, x171_1, x171_2, x171_5, x171_8, x171_9, x171_12, x171_13, x171_15, x171_16, x171_17, x171_20, x171_21, x171_23, x171_24, x171_25, x171_28, x171_29, x171_30, x171_31, x171_32, x171_35, x171_36, x171_37, x171_40, x171_41, x171_42, x171_43, x171_44, kb_some, kb_none, clr_vi, clr_ref, clr_null, clr_none, va_rf_some, va_rf_none, a1, Int.reduceToNat, ht]
    exact hX
  obtain ⟨J3, l2, b1, b2, b3, b4⟩ := l_lft (L := L) (d := d + 3) (K := K) (g := g) (v := v) (n := fsz 4 F) hR (ver := v) F 0 (4 + 3 * F.length) 0 J2 h.2.1 hMF.1 (by
    have : J2 99 = J1 99 := by funext j; exact f2 99 j (by omega)
    rw [this]; exact a3) (by
    have : J2 100 = J1 100 := by funext j; exact f2 100 j (by omega)
    rw [this]; exact a4) ⟨h60, e18, fun p hp => by rw [o2 102 (by decide)]; exact hsp p hp⟩ (by omega) (by omega) (by omega)
  have g99 : J3 99 = J1 99 := by funext j; rw [b2 99 j (by omega), f2 99 j (by omega)]
  have g100 : J3 100 = J1 100 := by funext j; rw [b2 100 j (by omega), f2 100 j (by omega)]
  obtain ⟨J4, c1, c2, c3⟩ := l_cht (L := L) (d := d + 2) (K := K) (g := g) (l2 := l2) hR hv F 0 (4 + 3 * F.length) J3 h.2.1 (by rw [g99]; exact a3) (by rw [g100]; exact a4) b3 (by omega) (by omega)
  have e18' : J3 76 18 = (fsz 4 F : Nat) := by rw [b2 76 18 (by omega)]; exact e18
  refine ⟨J4, ?_, ?_, ?_, ?_⟩
  · rw [show ((0 : Nat) : Int) = 0 from rfl] at b1
    rw [go _ b1]
    rw [show ((0 : Nat) : Int) + (fsz 4 F : Nat) - 1 = (fsz 4 F : Int) - 1 by omega, show ((0 : Nat) : Int) - 1 = -1 by omega] at c1
    simp (disch := first | assumption | omega | exact bi_lo | exact bi_hi | exact bi_01 | exact jcmp_lo | exact jcmp_hi | exact (jor_r _ _).1 | exact (jor_r _ _).2 | exact (jand_r _ _).1 | exact (jand_r _ _).2) only [x171_125, x171_126, x171_129, x171_130, x171_131, kb_some, kb_none, clr_vi, clr_ref, clr_null, clr_none, va_rf_some, va_rf_none, e18']
    rw [c1]
    simp (disch := first | assumption | omega | exact bi_lo | exact bi_hi | exact bi_01 | exact jcmp_lo | exact jcmp_hi | exact (jor_r _ _).1 | exact (jor_r _ _).2 | exact (jand_r _ _).1 | exact (jand_r _ _).2) only [x171_132, x171_133, x171_177, kb_some, kb_none, clr_vi, clr_ref, clr_null, clr_none, va_rf_some, va_rf_none, ↓bi_ite_t, ↓bi_ite_f, ↓jc_lt_t, ↓jc_lt_f, ↓jc_gt_t, ↓jc_gt_f, ↓jc_le_t, ↓jc_le_f, ↓jc_ge_t, ↓jc_ge_f, ↓jc_eq_t, ↓jc_eq_f, ↓if_pos, ↓if_neg]
  · intro a j hj
    rw [c2 a j (by omega), b2 a j (by omega), f2 a j (by omega), a2 a j (by omega)]
  · rw [c2 76 37 (by omega), b2 76 37 (by omega), ← hJ2]; simp [mm_up]
  · have k4 : ∀ j, j < 4 + 3 * F.length → J4 98 j = J3 98 j := fun j hj => c2 98 j (by omega)
    have k3 : ∀ j, j < 4 → J4 98 j = J2 98 j := fun j hj => by rw [k4 j (by omega), b2 98 j (by omega)]
    unfold fileL
    refine seg_app _ _ _ (seg_app _ _ _ ⟨?_, ?_, ?_, ?_, trivial⟩ ?_) ?_
    · rw [k3 0 (by omega), ← hJ2]; simp [mm_up]
    · rw [k3 1 (by omega), ← hJ2]; simp [mm_up]
    · rw [k3 2 (by omega), ← hJ2]; simp [mm_up]
    · rw [k3 3 (by omega), ← hJ2]; simp [mm_up]
    · refine seg_congr _ _ ?_ (fun j j1 j2 => ?_) (m := J3 98)
      · rw [show (4 : Int) + 3 * (F.length : Int) = ((4 + 3 * F.length : Nat) : Int) by omega]; exact b4
      · rw [entL_len] at j2
        exact k4 j (by simp at j1 j2; omega)
    · simp only [List.length_append, List.length_cons, List.length_nil, entL_len]
      rw [show 0 + (0 + 1 + 1 + 1 + 1 + 3 * F.length) = 4 + 3 * F.length by omega]
      exact c3
end
