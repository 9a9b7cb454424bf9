/-! the reference lays places -/
/-- the things of a forest lie in the reference's rows, well made -/
def MG (g : Int → Int) (J : mJ) (F : List (Nd 3)) : Prop := MF J F ∧ wF g 4 F ∧ fsz 4 F ≤ 60 ∧ F.length ≤ 60
theorem MG_ty {g : Int → Int} {J : mJ} {F : List (Nd 3)} (h : MG g J F) : (∀ j : Nat, j < fsz 4 F → 103 ≤ J 86 j ∧ J 86 j ≤ 115) := fun j hj => wF_ty 4 (-1) F 0 h.2.1 h.1.1 j (by omega) (by omega)
theorem wF_wo {g : Int → Int} {y w s p : Nat → Int} : ∀ (d : Nat) (q : Int) (F : Fo d) (i : Nat), wF g d F → mF y w s p d q F i → ∀ j, i ≤ j → j < i + fsz d F → -2147483648 ≤ w j ∧ w j ≤ 2147483647 := by
  intro d
  induction d with
  | zero => intro q F i hw h j h1 h2; have : fsz 0 F = 0 := rfl; omega
  | succ d ih =>
    intro q F
    induction (F : List (Nd d)) with
    | nil => intro i hw h j h1 h2; rw [fsz_nil] at h2; omega
    | cons x F ihF =>
      intro i hw h j h1 h2
      rw [mF_cons] at h
      rw [wF_cons] at hw
      rw [fsz_cons] at h2
      obtain ⟨u1, u2, u3⟩ := h
      by_cases c1 : j = i
      · subst c1
        rw [u1.2.1]
        rcases hw.1.1 with ⟨q1, q2⟩ | ⟨q1, q2, q3, -⟩ | q1
        · exact q2
        · omega
        · have := hw.1.2.1 q1; omega
      · by_cases c2 : j < i + 1 + fsz d x.2
        · exact ih _ _ _ hw.1.2.2.2 u2 j (by omega) (by omega)
        · exact ihF _ hw.2 u3 j (by omega) (by omega)
theorem mF_pa {y w s p : Nat → Int} {F : List (Nd 3)} (h : mF y w s p 4 (-1) F 0) (h60 : fsz 4 F ≤ 60) : ∀ j : Nat, j < fsz 4 F → -1 ≤ p j ∧ p j ≤ 100 := fun j hj => by
  rcases mF_chain 4 (-1) F 0 h j (by omega) (by omega) with h | h <;> omega
section
variable {L d : Nat} {J K : mJ} {R : mm_R} {g : Int → Int} {v : Int} {n : Nat} {F : List (Nd 3)}
theorem m_layLengths (hR : wfR R) (h : MG g J F) : ∃ J', EE (d + 2) 167 0 [some (.ref 76), none] [] (SH L) J K R = ok none (SH L) J' K R ∧ (∀ a j, a ≠ 99 → J' a j = J a j) ∧ lF g v (J' 99) 4 F 0 := by
  have s76 : (SH L)[76]? = some (11, 58) := rfl
  have hn : J 76 18 = (fsz 4 F : Nat) := h.1.2
  have hty := MG_ty h
  have hwo : ∀ j : Nat, j < fsz 4 F → -2147483648 ≤ J 87 j ∧ J 87 j ≤ 2147483647 := fun j hj => wF_wo 4 (-1) F 0 h.2.1 h.1.1 j (by omega) (by omega)
  obtain ⟨J1, a1, a2, a3⟩ := l_ll1 (L := L) (d := d) (K := K) hR h.2.2.1 (fsz 4 F) 0 J (by omega) hn hty hwo
  have r86 : J1 86 = J 86 := by funext j; exact a2 86 j (by omega)
  have r87 : J1 87 = J 87 := by funext j; exact a2 87 j (by omega)
  have r88 : J1 88 = J 88 := by funext j; exact a2 88 j (by omega)
  have r89 : J1 89 = J 89 := by funext j; exact a2 89 j (by omega)
  have r18 : J1 76 18 = J 76 18 := a2 76 18 (by omega)
  have h60 := h.2.2.1
  obtain ⟨J2, b1, b2, b3, b4⟩ := l_ll2 (L := L) (d := d + 2) (K := K) (g := g) (v := v) hR h60 4 F (-1) 0 J1 h.2.1 (by rw [r86, r87, r88, r89]; exact h.1.1) (fun j j1 j2 => by rw [r86, r87]; exact a3 j (by omega) (by omega)) (by omega) (Or.inl rfl)
  refine ⟨J2, ?_, fun a j hj => by rw [b2 a j (by omega), a2 a j (by omega)], b3⟩
  rw [show ((0 : Nat) : Int) = 0 from rfl] at a1
  rw [show ((0 : Nat) : Int) + (fsz 4 F : Nat) - 1 = (fsz 4 F : Int) - 1 by omega, show ((0 : Nat) : Int) - 1 = -1 by omega] at b1
  simp (disch := first | assumption | omega | exact bi_lo | exact bi_hi | exact bi_01 | exact jcmp_lo | exact jcmp_hi | exact (jor_r _ _).1 | exact (jor_r _ _).2 | exact (jand_r _ _).1 | exact (jand_r _ _).2) only [x167_0, x167_1, kb_some, kb_none, clr_vi, clr_ref, clr_null, clr_none, va_rf_some, va_rf_none]
  rw [a1]
  have e18 : J1 76 18 = (fsz 4 F : Nat) := by rw [r18, hn]
  simp (disch := first | assumption | omega | exact bi_lo | exact bi_hi | exact bi_01 | exact jcmp_lo | exact jcmp_hi | exact (jor_r _ _).1 | exact (jor_r _ _).2 | exact (jand_r _ _).1 | exact (jand_r _ _).2) only [x167_66, x167_67, x167_70, x167_71, x167_72, kb_some, kb_none, clr_vi, clr_ref, clr_null, clr_none, va_rf_some, va_rf_none, e18]
  rw [b1]
  simp (disch := first | assumption | omega | exact bi_lo | exact bi_hi | exact bi_01 | exact jcmp_lo | exact jcmp_hi | exact (jor_r _ _).1 | exact (jor_r _ _).2 | exact (jand_r _ _).1 | exact (jand_r _ _).2) only [x167_73, x167_74, x167_114, kb_some, kb_none, clr_vi, clr_ref, clr_null, clr_none, va_rf_some, va_rf_none, ↓bi_ite_t, ↓bi_ite_f, ↓jc_lt_t, ↓jc_lt_f, ↓jc_gt_t, ↓jc_gt_f, ↓jc_le_t, ↓jc_le_f, ↓jc_ge_t, ↓jc_ge_f, ↓jc_eq_t, ↓jc_eq_f, ↓if_pos, ↓if_neg]
theorem l_lpn (hR : wfR R) (h60 : n ≤ 60) {at_ : Int} : ∀ (D : Nat) (F : Fo D) (q i s : Nat) (J : mJ) (l3 : Option Value), wF g D F → mF (J 86) (J 87) (J 88) (J 89) D q F i → lF g v (J 99) D F i → J 101 q = (s : Int) → i + fsz D F ≤ n → q < i → J 76 18 = n →
    ∃ J' l3', EE d 168 15 [some (.ref 76), some (vi at_), some (vi i), l3] [] (SH L) J K R = EE d 168 15 [some (.ref 76), some (vi at_), some (vi (i + fsz D F : Nat)), l3'] [] (SH L) J' K R ∧ (∀ a j, ¬ ((a = 100 ∧ i ≤ j ∧ j < i + fsz D F) ∨ (a = 101 ∧ ((i ≤ j ∧ j < i + fsz D F) ∨ j = q))) → J' a j = J a j) ∧ pF g v (J' 100) D F i s ∧ J' 101 q = ((s + (wrF g v D F).length : Nat) : Int) := by
  have s76 : (SH L)[76]? = some (11, 58) := rfl; have r76_0 : R 76 0 = some 77 := rr_lk hR rfl; have r76_3 : R 76 3 = some 78 := rr_lk hR rfl; have r76_4 : R 76 4 = some 79 := rr_lk hR rfl; have r76_6 : R 76 6 = some 80 := rr_lk hR rfl; have r76_7 : R 76 7 = some 81 := rr_lk hR rfl; have r76_9 : R 76 9 = some 82 := rr_lk hR rfl; have r76_10 : R 76 10 = some 83 := rr_lk hR rfl; have r76_12 : R 76 12 = some 84 := rr_lk hR rfl; have r76_13 : R 76 13 = some 85 := rr_lk hR rfl; have r76_19 : R 76 19 = some 86 := rr_lk hR rfl; have r76_20 : R 76 20 = some 87 := rr_lk hR rfl; have r76_21 : R 76 21 = some 88 := rr_lk hR rfl; have r76_22 : R 76 22 = some 89 := rr_lk hR rfl; have r76_24 : R 76 24 = some 90 := rr_lk hR rfl; have r76_25 : R 76 25 = some 91 := rr_lk hR rfl; have r76_26 : R 76 26 = some 92 := rr_lk hR rfl; have r76_28 : R 76 28 = some 93 := rr_lk hR rfl; have r76_29 : R 76 29 = some 94 := rr_lk hR rfl; have r76_30 : R 76 30 = some 95 := rr_lk hR rfl; have r76_31 : R 76 31 = some 96 := rr_lk hR rfl; have r76_32 : R 76 32 = some 97 := rr_lk hR rfl; have r76_36 : R 76 36 = some 98 := rr_lk hR rfl; have r76_38 : R 76 38 = some 99 := rr_lk hR rfl; have r76_39 : R 76 39 = some 100 := rr_lk hR rfl; have r76_40 : R 76 40 = some 101 := rr_lk hR rfl; have r76_41 : R 76 41 = some 102 := rr_lk hR rfl; have r76_42 : R 76 42 = some 103 := rr_lk hR rfl; have r76_47 : R 76 47 = some 104 := rr_lk hR rfl; have r76_53 : R 76 53 = some 105 := rr_lk hR rfl; have r76_54 : R 76 54 = some 106 := rr_lk hR rfl; have r76_55 : R 76 55 = some 107 := rr_lk hR rfl; have r76_56 : R 76 56 = some 108 := rr_lk hR rfl; have r76_57 : R 76 57 = some 109 := rr_lk hR rfl; have s89 : (SH L)[89]? = some (20, 60) := rfl; have s99 : (SH L)[99]? = some (20, 60) := rfl; have s100 : (SH L)[100]? = some (20, 60) := rfl; have s101 : (SH L)[101]? = some (20, 60) := rfl
  intro D
  induction D with
  | zero =>
    intro F q i s J l3 hw hm hl hs hi hq hn
    exact ⟨J, l3, rfl, fun _ _ _ => rfl, trivial, hs⟩
  | succ D ih =>
    intro F
    induction (F : List (Nd D)) with
    | nil =>
      intro q i s J l3 hw hm hl hs hi hq hn
      exact ⟨J, l3, rfl, fun _ _ _ => rfl, trivial, hs⟩
    | cons x F ihF =>
      intro q i s J l3 hw hm hl hs hi hq hn
      rw [wF_cons] at hw
      rw [mF_cons] at hm
      rw [lF_cons] at hl
      rw [fsz_cons] at hi
      obtain ⟨⟨u1, u1b, u1c, u4⟩, u2, u3⟩ := hm
      obtain ⟨w1, w2, w3, w4⟩ := hw.1
      obtain ⟨v1, v2, v3⟩ := hl
      generalize hJ1 : mm_up (mm_up (mm_up J 100 i ((s + 2 : Nat) : Int)) 101 i ((s + 2 : Nat) : Int)) 101 q ((s : Int) + (3 + ((payT g v D x).length : Nat))) = J1
      have go : ∀ X, EE d 168 15 [some (.ref 76), some (vi at_), some (vi ((i + 1 : Nat) : Int)), some (vi q)] [] (SH L) J1 K R = X → EE d 168 15 [some (.ref 76), some (vi at_), some (vi i), l3] [] (SH L) J K R = X := by
        intro X hX
        rw [Int.natCast_succ, ← hJ1, show ((s + 2 : Nat) : Int) = (s : Int) + 2 by omega] at hX
        simp (disch := first | assumption | omega | exact bi_lo | exact bi_hi | exact bi_01 | exact jcmp_lo | exact jcmp_hi | exact (jor_r _ _).1 | exact (jor_r _ _).2 | exact (jand_r _ _).1 | exact (jand_r _ _).2) only [x168_15, x168_16, x168_17, x168_20, kb_some, kb_none, clr_vi, clr_ref, clr_null, clr_none, va_rf_some, va_rf_none, ↓bi_ite_t, ↓bi_ite_f, ↓jc_lt_t, ↓jc_lt_f, ↓jc_gt_t, ↓jc_gt_f, ↓jc_le_t, ↓jc_le_f, ↓jc_ge_t, ↓jc_ge_f, ↓jc_eq_t, ↓jc_eq_f, ↓if_pos, ↓if_neg]
        simp (disch := first | assumption | omega | exact bi_lo | exact bi_hi | exact bi_01 | exact jcmp_lo | exact jcmp_hi | exact (jor_r _ _).1 | exact (jor_r _ _).2 | exact (jand_r _ _).1 | exact (jand_r _ _).2) only [x168_23, x168_24, x168_27, x168_28, x168_29, x168_30, x168_31, x168_34, x168_35, x168_36, x168_39, x168_40, x168_43, x168_44, x168_47, x168_48, x168_49, x168_50, x168_51, x168_52, x168_53, x168_56, x168_57, x168_58, x168_61, x168_62, x168_63, x168_64, x168_65, x168_68, x168_69, x168_70, x168_73, x168_74, x168_75, x168_76, x168_77, x168_78, x168_79, x168_82, x168_83, x168_86, x168_87, x168_88, x168_89, x168_90, x168_91, x168_94, x168_95, x168_96, x168_97, x168_98, x168_99, x168_102, kb_some, kb_none, clr_vi, clr_ref, clr_null, clr_none, va_rf_some, va_rf_none, ↓bi_ite_t, ↓bi_ite_f, ↓jc_lt_t, ↓jc_lt_f, ↓jc_gt_t, ↓jc_gt_f, ↓jc_le_t, ↓jc_le_f, ↓jc_ge_t, ↓jc_ge_f, ↓jc_eq_t, ↓jc_eq_f, ↓if_pos, ↓if_neg, Int.toNat_natCast, u4, hs, v1, up_s, up_a, up_j]
        exact hX
      have f1 : ∀ a j, ¬ ((a = 100 ∧ j = i) ∨ (a = 101 ∧ (j = i ∨ j = q))) → J1 a j = J a j := by
        intro a j hj
        rw [← hJ1]
        unfold mm_up
        rw [if_neg (by omega), if_neg (by omega), if_neg (by omega)]
      have r86 : J1 86 = J 86 := by funext j; exact f1 86 j (by omega)
      have r87 : J1 87 = J 87 := by funext j; exact f1 87 j (by omega)
      have r88 : J1 88 = J 88 := by funext j; exact f1 88 j (by omega)
      have r89 : J1 89 = J 89 := by funext j; exact f1 89 j (by omega)
      have r99 : J1 99 = J 99 := by funext j; exact f1 99 j (by omega)
      have e100 : J1 100 i = ((s + 2 : Nat) : Int) := by rw [← hJ1]; simp [mm_up]
      have e101 : J1 101 i = ((s + 2 : Nat) : Int) := by
        have : i ≠ q := by omega
        rw [← hJ1]; simp [mm_up, this]
      have eq1 : J1 101 q = (s : Int) + (3 + ((payT g v D x).length : Nat)) := by rw [← hJ1]; simp [mm_up]
      obtain ⟨J2, l4, b1, b2, b3, b4⟩ := ih x.2 i (i + 1) (s + 2) J1 (some (vi q)) w4 (by rw [r86, r87, r88, r89]; exact u2) (by rw [r99]; exact v2) e101 (by omega) (by omega) (by rw [f1 76 18 (by omega)]; exact hn)
      have q86 : J2 86 = J 86 := by funext j; rw [b2 86 j (by omega), r86]
      have q87 : J2 87 = J 87 := by funext j; rw [b2 87 j (by omega), r87]
      have q88 : J2 88 = J 88 := by funext j; rw [b2 88 j (by omega), r88]
      have q89 : J2 89 = J 89 := by funext j; rw [b2 89 j (by omega), r89]
      have q99 : J2 99 = J 99 := by funext j; rw [b2 99 j (by omega), r99]
      obtain ⟨J3, l5, c1, c2, c3, c4⟩ := ihF q (i + 1 + fsz D x.2) (s + (3 + (payT g v D x).length)) J2 l4 hw.2 (by rw [q86, q87, q88, q89]; exact u3) (by rw [q99]; exact v3) (by rw [b2 101 q (by omega), eq1]; omega) (by omega) (by omega) (by rw [b2 76 18 (by omega), f1 76 18 (by omega)]; exact hn)
      refine ⟨J3, l5, ?_, ?_, ?_, ?_⟩
      · rw [go _ (b1.trans c1), fsz_cons, show i + 1 + fsz D x.2 + fsz (D + 1) F = i + (1 + fsz D x.2 + fsz (D + 1) F) by omega]
      · rw [fsz_cons]
        intro a j hj
        rw [c2 a j (by omega), b2 a j (by omega), f1 a j (by omega)]
      · rw [pF_cons]
        refine ⟨by rw [c2 100 i (by omega), b2 100 i (by omega), e100], pF_congr _ _ _ _ b3 (fun j j1 j2 => c2 100 j (by omega)), c3⟩
      · rw [c4, wrF_len]; omega
theorem l_lpt (hR : wfR R) (h60 : n ≤ 60) : ∀ (F : List (Nd 3)) (i s : Nat) (J : mJ) (l3 : Option Value), wF g 4 F → mF (J 86) (J 87) (J 88) (J 89) 4 (-1) F i → lF g v (J 99) 4 F i → i + fsz 4 F ≤ n → J 76 18 = n →
    ∃ J' l3', EE d 168 15 [some (.ref 76), some (vi s), some (vi i), l3] [] (SH L) J K R = EE d 168 15 [some (.ref 76), some (vi (s + (chL g v F).length : Nat)), some (vi (i + fsz 4 F : Nat)), l3'] [] (SH L) J' K R ∧ (∀ a j, ¬ (a = 100 ∨ a = 101) → J' a j = J a j) ∧ (∀ j, j < i → J' 100 j = J 100 j) ∧ pT g v (J' 100) F i s := by
  have s76 : (SH L)[76]? = some (11, 58) := rfl; have r76_0 : R 76 0 = some 77 := rr_lk hR rfl; have r76_3 : R 76 3 = some 78 := rr_lk hR rfl; have r76_4 : R 76 4 = some 79 := rr_lk hR rfl; have r76_6 : R 76 6 = some 80 := rr_lk hR rfl; have r76_7 : R 76 7 = some 81 := rr_lk hR rfl; have r76_9 : R 76 9 = some 82 := rr_lk hR rfl; have r76_10 : R 76 10 = some 83 := rr_lk hR rfl; have r76_12 : R 76 12 = some 84 := rr_lk hR rfl; have r76_13 : R 76 13 = some 85 := rr_lk hR rfl; have r76_19 : R 76 19 = some 86 := rr_lk hR rfl; have r76_20 : R 76 20 = some 87 := rr_lk hR rfl; have r76_21 : R 76 21 = some 88 := rr_lk hR rfl; have r76_22 : R 76 22 = some 89 := rr_lk hR rfl; have r76_24 : R 76 24 = some 90 := rr_lk hR rfl; have r76_25 : R 76 25 = some 91 := rr_lk hR rfl; have r76_26 : R 76 26 = some 92 := rr_lk hR rfl; have r76_28 : R 76 28 = some 93 := rr_lk hR rfl; have r76_29 : R 76 29 = some 94 := rr_lk hR rfl; have r76_30 : R 76 30 = some 95 := rr_lk hR rfl; have r76_31 : R 76 31 = some 96 := rr_lk hR rfl; have r76_32 : R 76 32 = some 97 := rr_lk hR rfl; have r76_36 : R 76 36 = some 98 := rr_lk hR rfl; have r76_38 : R 76 38 = some 99 := rr_lk hR rfl; have r76_39 : R 76 39 = some 100 := rr_lk hR rfl; have r76_40 : R 76 40 = some 101 := rr_lk hR rfl; have r76_41 : R 76 41 = some 102 := rr_lk hR rfl; have r76_42 : R 76 42 = some 103 := rr_lk hR rfl; have r76_47 : R 76 47 = some 104 := rr_lk hR rfl; have r76_53 : R 76 53 = some 105 := rr_lk hR rfl; have r76_54 : R 76 54 = some 106 := rr_lk hR rfl; have r76_55 : R 76 55 = some 107 := rr_lk hR rfl; have r76_56 : R 76 56 = some 108 := rr_lk hR rfl; have r76_57 : R 76 57 = some 109 := rr_lk hR rfl; have s89 : (SH L)[89]? = some (20, 60) := rfl; have s99 : (SH L)[99]? = some (20, 60) := rfl; have s100 : (SH L)[100]? = some (20, 60) := rfl; have s101 : (SH L)[101]? = some (20, 60) := rfl
  intro F
  induction F with
  | nil =>
    intro i s J l3 hw hm hl hi hn
    exact ⟨J, l3, rfl, fun _ _ _ => rfl, fun _ _ => rfl, trivial⟩
  | cons x F ihF =>
    intro i s J l3 hw hm hl hi hn
    rw [wF_cons] at hw
    rw [mF_cons] at hm
    rw [lF_cons] at hl
    rw [fsz_c4] at hi
    obtain ⟨⟨u1, u1b, u1c, u4⟩, u2, u3⟩ := hm
    obtain ⟨w1, w2, w3, w4⟩ := hw.1
    obtain ⟨v1, v2, v3⟩ := hl
    generalize hJ1 : mm_up (mm_up J 100 i (s : Int)) 101 i (s : Int) = J1
    have go : ∀ X, EE d 168 15 [some (.ref 76), some (vi ((s + ((payT g v 3 x).length + 1) : Nat) : Int)), some (vi ((i + 1 : Nat) : Int)), some (vi (-1))] [] (SH L) J1 K R = X → EE d 168 15 [some (.ref 76), some (vi s), some (vi i), l3] [] (SH L) J K R = X := by
      intro X hX
      rw [Int.natCast_succ, ← hJ1, show ((s + ((payT g v 3 x).length + 1) : Nat) : Int) = (s : Int) + ((payT g v 3 x).length + 1) by omega] at hX
      simp (disch := first | assumption | omega | exact bi_lo | exact bi_hi | exact bi_01 | exact jcmp_lo | exact jcmp_hi | exact (jor_r _ _).1 | exact (jor_r _ _).2 | exact (jand_r _ _).1 | exact (jand_r _ _).2) only [x168_15, x168_16, x168_17, x168_20, kb_some, kb_none, clr_vi, clr_ref, clr_null, clr_none, va_rf_some, va_rf_none, ↓bi_ite_t, ↓bi_ite_f, ↓jc_lt_t, ↓jc_lt_f, ↓jc_gt_t, ↓jc_gt_f, ↓jc_le_t, ↓jc_le_f, ↓jc_ge_t, ↓jc_ge_f, ↓jc_eq_t, ↓jc_eq_f, ↓if_pos, ↓if_neg]
      simp (disch := first | assumption | omega | exact bi_lo | exact bi_hi | exact bi_01 | exact jcmp_lo | exact jcmp_hi | exact (jor_r _ _).1 | exact (jor_r _ _).2 | exact (jand_r _ _).1 | exact (jand_r _ _).2) only [x168_23, x168_24, x168_27, x168_28, x168_29, x168_30, x168_31, x168_34, x168_35, x168_36, x168_39, x168_40, x168_43, x168_44, x168_47, x168_48, x168_49, x168_50, x168_51, x168_52, x168_53, x168_56, x168_57, x168_58, x168_61, x168_62, x168_63, x168_64, x168_65, x168_68, x168_69, x168_70, x168_73, x168_74, x168_75, x168_76, x168_77, x168_78, x168_79, x168_82, x168_83, x168_86, x168_87, x168_88, x168_89, x168_90, x168_91, x168_94, x168_95, x168_96, x168_97, x168_98, x168_99, x168_102, kb_some, kb_none, clr_vi, clr_ref, clr_null, clr_none, va_rf_some, va_rf_none, ↓bi_ite_t, ↓bi_ite_f, ↓jc_lt_t, ↓jc_lt_f, ↓jc_gt_t, ↓jc_gt_f, ↓jc_le_t, ↓jc_le_f, ↓jc_ge_t, ↓jc_ge_f, ↓jc_eq_t, ↓jc_eq_f, ↓if_pos, ↓if_neg, Int.toNat_natCast, u4, v1, up_s, up_a, up_j]
      exact hX
    have f1 : ∀ a j, ¬ ((a = 100 ∧ j = i) ∨ (a = 101 ∧ j = i)) → J1 a j = J a j := by
      intro a j hj
      rw [← hJ1]
      unfold mm_up
      rw [if_neg (by omega), if_neg (by omega)]
    have r86 : J1 86 = J 86 := by funext j; exact f1 86 j (by omega)
    have r87 : J1 87 = J 87 := by funext j; exact f1 87 j (by omega)
    have r88 : J1 88 = J 88 := by funext j; exact f1 88 j (by omega)
    have r89 : J1 89 = J 89 := by funext j; exact f1 89 j (by omega)
    have r99 : J1 99 = J 99 := by funext j; exact f1 99 j (by omega)
    have e100 : J1 100 i = (s : Int) := by rw [← hJ1]; simp [mm_up]
    have e101 : J1 101 i = (s : Int) := by rw [← hJ1]; simp [mm_up]
    obtain ⟨J2, l4, b1, b2, b3, b4⟩ := l_lpn (L := L) (d := d) (K := K) (g := g) (v := v) (at_ := ((s + ((payT g v 3 x).length + 1) : Nat) : Int)) hR h60 3 x.2 i (i + 1) s J1 (some (vi (-1))) w4 (by rw [r86, r87, r88, r89]; exact u2) (by rw [r99]; exact v2) e101 (by omega) (by omega) (by rw [f1 76 18 (by omega)]; exact hn)
    have q86 : J2 86 = J 86 := by funext j; rw [b2 86 j (by omega), r86]
    have q87 : J2 87 = J 87 := by funext j; rw [b2 87 j (by omega), r87]
    have q88 : J2 88 = J 88 := by funext j; rw [b2 88 j (by omega), r88]
    have q89 : J2 89 = J 89 := by funext j; rw [b2 89 j (by omega), r89]
    have q99 : J2 99 = J 99 := by funext j; rw [b2 99 j (by omega), r99]
    obtain ⟨J3, l5, c1, c2, c3, c4⟩ := ihF (i + 1 + fsz 3 x.2) (s + ((payT g v 3 x).length + 1)) J2 l4 hw.2 (by rw [q86, q87, q88, q89]; exact u3) (by rw [q99]; exact v3) (by omega) (by rw [b2 76 18 (by omega), f1 76 18 (by omega)]; exact hn)
    refine ⟨J3, l5, ?_, ?_, ?_, ?_⟩
    · rw [go _ (b1.trans c1), fsz_c4, show i + 1 + fsz 3 x.2 + fsz 4 F = i + (1 + fsz 3 x.2 + fsz 4 F) by omega, chL_len, show s + ((payT g v 3 x).length + 1) + (chL g v F).length = s + ((payT g v 3 x).length + 1 + (chL g v F).length) by omega]
    · intro a j hj
      rw [c2 a j hj, b2 a j (by omega), f1 a j (by omega)]
    · intro j hj
      rw [c3 j (by omega), b2 100 j (by omega), f1 100 j (by omega)]
    · show J3 100 i = (s : Int) ∧ pF g v (J3 100) 3 x.2 (i + 1) s ∧ pT g v (J3 100) F (i + 1 + fsz 3 x.2) (s + ((payT g v 3 x).length + 1))
      exact ⟨by rw [c3 i (by omega), b2 100 i (by omega), e100], pF_congr _ _ _ _ b3 (fun j j1 j2 => c3 j (by omega)), c4⟩
theorem m_layPlaces (hR : wfR R) (h : MG g J F) : ∃ J', EE (d + 3) 168 0 [some (.ref 76), none, none, none] [] (SH L) J K R = ok (some (vi ((fileL g v F).length : Nat))) (SH L) J' K R ∧ (∀ a j, ¬ (a = 99 ∨ a = 100 ∨ a = 101) → J' a j = J a j) ∧ lF g v (J' 99) 4 F 0 ∧ pT g v (J' 100) F 0 (4 + 3 * F.length) := by
  have s76 : (SH L)[76]? = some (11, 58) := rfl
  obtain ⟨J1, a1, a2, a3⟩ := m_layLengths (L := L) (d := d) (K := K) (v := v) hR h
  have r86 : J1 86 = J 86 := by funext j; exact a2 86 j (by omega)
  have r87 : J1 87 = J 87 := by funext j; exact a2 87 j (by omega)
  have r88 : J1 88 = J 88 := by funext j; exact a2 88 j (by omega)
  have r89 : J1 89 = J 89 := by funext j; exact a2 89 j (by omega)
  have r18 : J1 76 18 = (fsz 4 F : Nat) := by rw [a2 76 18 (by omega)]; exact h.1.2
  have h60 := h.2.2.1
  have hMF : MF J1 F := ⟨by rw [r86, r87, r88, r89]; exact h.1.1, r18⟩
  have htm := m_topMany (L := L) (d := d + 2) (K := K) hR hMF (by omega)
  obtain ⟨J2, l3, b1, b2, b3, b4⟩ := l_lpt (L := L) (d := d + 3) (K := K) (g := g) (v := v) hR h60 F 0 (4 + 3 * F.length) J1 none h.2.1 hMF.1 a3 (by omega) r18
  refine ⟨J2, ?_, fun a j hj => by rw [b2 a j (by omega), a2 a j (by omega)], ?_, b4⟩
  · rw [fileL_len]
    rw [show ((0 : Nat) : Int) = 0 from rfl, show ((4 + 3 * F.length : Nat) : Int) = 4 + 3 * (F.length : Nat) by omega] at b1
    simp (disch := first | assumption | omega | exact bi_lo | exact bi_hi | exact bi_01 | exact jcmp_lo | exact jcmp_hi | exact (jor_r _ _).1 | exact (jor_r _ _).2 | exact (jand_r _ _).1 | exact (jand_r _ _).2) only [x168_0, x168_1, x168_4, x168_5, x168_6, x168_7, x168_10, x168_11, x168_12, x168_13, x168_14, kb_some, kb_none, clr_vi, clr_ref, clr_null, clr_none, va_rf_some, va_rf_none, a1, htm]
    rw [b1]
    have e18 : J2 76 18 = (fsz 4 F : Nat) := by rw [b2 76 18 (by omega)]; exact r18
    rw [Nat.zero_add]
    simp (disch := first | assumption | omega | exact bi_lo | exact bi_hi | exact bi_01 | exact jcmp_lo | exact jcmp_hi | exact (jor_r _ _).1 | exact (jor_r _ _).2 | exact (jand_r _ _).1 | exact (jand_r _ _).2) only [x168_15, x168_16, x168_17, x168_20, x168_105, x168_106, kb_some, kb_none, clr_vi, clr_ref, clr_null, clr_none, va_rf_some, va_rf_none, ↓bi_ite_t, ↓bi_ite_f, ↓jc_lt_t, ↓jc_lt_f, ↓jc_gt_t, ↓jc_gt_f, ↓jc_le_t, ↓jc_le_f, ↓jc_ge_t, ↓jc_ge_f, ↓jc_eq_t, ↓jc_eq_f, ↓if_pos, ↓if_neg, e18]
  · have : J2 99 = J1 99 := by funext j; exact b2 99 j (by omega)
    rw [this]; exact a3
end
