/-! the calls, one by one: ends -/
/-- the deepest fault's kind, or 0 -/
def dpW (f : Int → Int) (n : Int) : Int := match wh f n with
  | .error q => (q.getD 0 (0, 0, 0)).1
  | .ok _ => 0
/-- both stand alike: sizes and bytes -/
def SQ (s s' : Int × (Nat → Int)) : Prop := (s.1 = s'.1 ∧ 0 ≤ s.1 ∧ s.1 ≤ 120) ∧ ∀ j : Nat, j < 120 → (0 ≤ s.2 j ∧ s.2 j ≤ 255) ∧ (0 ≤ s'.2 j ∧ s'.2 j ≤ 255) ∧ ((j : Int) < s.1 → s.2 j = s'.2 j)
theorem SQ_pl {w x : Int} {s s' : Int × (Nat → Int)} (h : SQ s s') (hw : 0 ≤ w ∧ w ≤ 2) (hx : 0 ≤ x ∧ x ≤ 119) : SQ (pl1 w x s) (pl1 w x s') := by
  obtain ⟨⟨h1, h2, h3⟩, h4⟩ := h
  unfold pl1
  by_cases c : x < s.1
  · rw [if_pos c, if_pos (show x < s'.1 by omega)]
    by_cases c2 : w = 2
    · rw [if_pos c2, if_pos c2]
      refine ⟨⟨rfl, hx.1, by show x ≤ 120; omega⟩, fun j hj => ?_⟩
      have := h4 j hj
      exact ⟨this.1, this.2.1, fun q => this.2.2 (by have q' : (j : Int) < x := q; omega)⟩
    · rw [if_neg c2, if_neg c2]
      refine ⟨⟨h1, h2, h3⟩, fun j hj => ?_⟩
      have hj4 := h4 j hj
      have hx4 := h4 x.toNat (by omega)
      have ex := hx4.2.2 (by omega)
      by_cases cj : j = x.toNat
      · have e1 : ∀ (g : Nat → Int) (v : Int), fu g x.toNat v j = v := fun g v => by unfold fu; rw [if_pos cj]
        show (0 ≤ fu s.2 x.toNat (if w = 1 then 0 else 255 - s.2 x.toNat) j ∧ fu s.2 x.toNat (if w = 1 then 0 else 255 - s.2 x.toNat) j ≤ 255) ∧ (0 ≤ fu s'.2 x.toNat (if w = 1 then 0 else 255 - s'.2 x.toNat) j ∧ fu s'.2 x.toNat (if w = 1 then 0 else 255 - s'.2 x.toNat) j ≤ 255) ∧ ((j : Int) < s.1 → fu s.2 x.toNat (if w = 1 then 0 else 255 - s.2 x.toNat) j = fu s'.2 x.toNat (if w = 1 then 0 else 255 - s'.2 x.toNat) j)
        rw [e1, e1, ex]
        refine ⟨?_, ?_, fun _ => rfl⟩
        · split <;> omega
        · split <;> omega
      · have e1 : ∀ (g : Nat → Int) (v : Int), fu g x.toNat v j = g j := fun g v => by unfold fu; rw [if_neg cj]
        show (0 ≤ fu s.2 x.toNat (if w = 1 then 0 else 255 - s.2 x.toNat) j ∧ fu s.2 x.toNat (if w = 1 then 0 else 255 - s.2 x.toNat) j ≤ 255) ∧ (0 ≤ fu s'.2 x.toNat (if w = 1 then 0 else 255 - s'.2 x.toNat) j ∧ fu s'.2 x.toNat (if w = 1 then 0 else 255 - s'.2 x.toNat) j ≤ 255) ∧ ((j : Int) < s.1 → fu s.2 x.toNat (if w = 1 then 0 else 255 - s.2 x.toNat) j = fu s'.2 x.toNat (if w = 1 then 0 else 255 - s'.2 x.toNat) j)
        rw [e1, e1]
        exact hj4
  · rw [if_neg c, if_neg (show ¬ x < s'.1 by omega)]
    exact ⟨⟨h1, h2, h3⟩, h4⟩
theorem SQ_go {p q p' q' : Nat → Int} : ∀ (i k : Nat) (s s' : Int × (Nat → Int)), (∀ j, k ≤ j → j < k + i → (p j = p' j ∧ 0 ≤ p j ∧ p j ≤ 2) ∧ q j = q' j ∧ 0 ≤ q j ∧ q j ≤ 119) → SQ s s' → SQ (goO p q i k s) (goO p' q' i k s') := by
  intro i
  induction i with
  | zero => intro k s s' h hs; exact hs
  | succ i ih =>
    intro k s s' h hs
    obtain ⟨⟨h1, h2⟩, h3, h4⟩ := h k (by omega) (by omega)
    show SQ (goO p q i (k + 1) (pl1 (p k) (q k) s)) (goO p' q' i (k + 1) (pl1 (p' k) (q' k) s'))
    rw [← h1, ← h3]
    exact ih _ _ _ (fun j j1 j2 => h j (by omega) (by omega)) (SQ_pl hs h2 h4)
section
variable {L d : Nat} {J J' J1 J2 K K' : mJ} {R R1 R' : mm_R} {x y z v w n : Int} {f : Int → Int}
theorem l_bits : ∀ (n : Nat) (b v : Int), b.toNat < n → (0 ≤ b ∧ b ≤ 63) → (0 ≤ v ∧ v + n ≤ 1000) → EE d 225 71 [some (.ref 76), some (vi x), some (vi y), some (vi v), some (vi b)] [] (SH L) J K R = EE d 225 91 [some (.ref 76), some (vi x), some (vi y), some (vi (v + pcn b)), some (vi 0)] [] (SH L) J K R := by
  intro n
  induction n with
  | zero => intro b v h; omega
  | succ n ih =>
    intro b v h hb hv
    by_cases c : b = 0
    · subst c
      rw [show pcn 0 = 0 from rfl, Int.add_zero]
      simp (disch := first | assumption | omega | exact bi_lo | exact bi_hi | exact bi_01 | exact jcmp_lo | exact jcmp_hi | exact (jor_r _ _).1 | exact (jor_r _ _).2 | exact (jand_r _ _).1 | exact (jand_r _ _).2) only [x225_71, x225_73, kb_some, kb_none, clr_vi, clr_ref, clr_null, clr_none, va_rf_some, va_rf_none, ↓bi_ite_t, ↓bi_ite_f, ↓jc_lt_t, ↓jc_lt_f, ↓jc_gt_t, ↓jc_gt_f, ↓jc_le_t, ↓jc_le_f, ↓jc_ge_t, ↓jc_ge_f, ↓jc_eq_t, ↓jc_eq_f, ↓if_pos, ↓if_neg]
    · obtain ⟨p1, p2, p3⟩ := pcn_step (b := b) (by omega)
      have ih' := ih (jand b (b - 1)) (v + 1) (by omega) (by omega) (by omega)
      rw [show v + 1 + pcn (jand b (b - 1)) = v + pcn b by omega] at ih'
      have go : ∀ X, EE d 225 71 [some (.ref 76), some (vi x), some (vi y), some (vi (v + 1)), some (vi (jand b (b - 1)))] [] (SH L) J K R = X → EE d 225 71 [some (.ref 76), some (vi x), some (vi y), some (vi v), some (vi b)] [] (SH L) J K R = X := by
        intro X hX
        simp (disch := first | assumption | omega | exact bi_lo | exact bi_hi | exact bi_01 | exact jcmp_lo | exact jcmp_hi | exact (jor_r _ _).1 | exact (jor_r _ _).2 | exact (jand_r _ _).1 | exact (jand_r _ _).2) only [x225_71, x225_73, kb_some, kb_none, clr_vi, clr_ref, clr_null, clr_none, va_rf_some, va_rf_none, ↓bi_ite_t, ↓bi_ite_f, ↓jc_lt_t, ↓jc_lt_f, ↓jc_gt_t, ↓jc_gt_f, ↓jc_le_t, ↓jc_le_f, ↓jc_ge_t, ↓jc_ge_f, ↓jc_eq_t, ↓jc_eq_f, ↓if_pos, ↓if_neg]
        simp (disch := first | assumption | omega | exact bi_lo | exact bi_hi | exact bi_01 | exact jcmp_lo | exact jcmp_hi | exact (jor_r _ _).1 | exact (jor_r _ _).2 | exact (jand_r _ _).1 | exact (jand_r _ _).2) only [x225_76, x225_79, x225_81, x225_83, x225_84, x225_85, x225_86, x225_88, kb_some, kb_none, clr_vi, clr_ref, clr_null, clr_none, va_rf_some, va_rf_none, ↓bi_ite_t, ↓bi_ite_f, ↓jc_lt_t, ↓jc_lt_f, ↓jc_gt_t, ↓jc_gt_f, ↓jc_le_t, ↓jc_le_f, ↓jc_ge_t, ↓jc_ge_f, ↓jc_eq_t, ↓jc_eq_f, ↓if_pos, ↓if_neg]
        exact hX
      exact go _ ih'
/-- a row of the plan, done by the reference -/
abbrev AP (a j : Nat) : Prop := (a = 77 ∧ j < 120) ∨ (a = 76 ∧ j = 1)
theorem m_planned (hR : wfR R) {k : Nat} (hk : k < 10) (h1 : 0 ≤ J 76 1 ∧ J 76 1 ≤ 120) (hw : 0 ≤ J 80 k ∧ J 80 k ≤ 2) (hx : 0 ≤ J 81 k ∧ J 81 k ≤ 119) : ∃ J', EE d 224 0 [some (.ref 76), some (vi k), none] [] (SH L) J K R = ok none (SH L) J' K R ∧ frm AP J J' ∧ (J' 76 1, J' 77) = pl1 (J 80 k) (J 81 k) (J 76 1, J 77) := by
  have s76 : (SH L)[76]? = some (11, 58) := rfl; have r76_0 : R 76 0 = some 77 := rr_lk hR rfl; have r76_3 : R 76 3 = some 78 := rr_lk hR rfl; have r76_4 : R 76 4 = some 79 := rr_lk hR rfl; have r76_6 : R 76 6 = some 80 := rr_lk hR rfl; have r76_7 : R 76 7 = some 81 := rr_lk hR rfl; have r76_9 : R 76 9 = some 82 := rr_lk hR rfl; have r76_10 : R 76 10 = some 83 := rr_lk hR rfl; have r76_12 : R 76 12 = some 84 := rr_lk hR rfl; have r76_13 : R 76 13 = some 85 := rr_lk hR rfl; have r76_19 : R 76 19 = some 86 := rr_lk hR rfl; have r76_20 : R 76 20 = some 87 := rr_lk hR rfl; have r76_21 : R 76 21 = some 88 := rr_lk hR rfl; have r76_22 : R 76 22 = some 89 := rr_lk hR rfl; have r76_24 : R 76 24 = some 90 := rr_lk hR rfl; have r76_25 : R 76 25 = some 91 := rr_lk hR rfl; have r76_26 : R 76 26 = some 92 := rr_lk hR rfl; have r76_28 : R 76 28 = some 93 := rr_lk hR rfl; have r76_29 : R 76 29 = some 94 := rr_lk hR rfl; have r76_30 : R 76 30 = some 95 := rr_lk hR rfl; have r76_31 : R 76 31 = some 96 := rr_lk hR rfl; have r76_32 : R 76 32 = some 97 := rr_lk hR rfl; have r76_36 : R 76 36 = some 98 := rr_lk hR rfl; have r76_38 : R 76 38 = some 99 := rr_lk hR rfl; have r76_39 : R 76 39 = some 100 := rr_lk hR rfl; have r76_40 : R 76 40 = some 101 := rr_lk hR rfl; have r76_41 : R 76 41 = some 102 := rr_lk hR rfl; have r76_42 : R 76 42 = some 103 := rr_lk hR rfl; have r76_47 : R 76 47 = some 104 := rr_lk hR rfl; have r76_53 : R 76 53 = some 105 := rr_lk hR rfl; have r76_54 : R 76 54 = some 106 := rr_lk hR rfl; have r76_55 : R 76 55 = some 107 := rr_lk hR rfl; have r76_56 : R 76 56 = some 108 := rr_lk hR rfl; have r76_57 : R 76 57 = some 109 := rr_lk hR rfl; have s77 : (SH L)[77]? = some (20, 120) := rfl; have s80 : (SH L)[80]? = some (20, 10) := rfl; have s81 : (SH L)[81]? = some (20, 10) := rfl
  by_cases c : J 81 k < J 76 1
  rotate_left
  · refine ⟨J, ?_, frm_refl, ?_⟩
    · simp (disch := first | assumption | omega | exact bi_lo | exact bi_hi | exact bi_01 | exact jcmp_lo | exact jcmp_hi | exact (jor_r _ _).1 | exact (jor_r _ _).2 | exact (jand_r _ _).1 | exact (jand_r _ _).2) only [x224_0, x224_1, x224_4, x224_5, x224_6, x224_7, x224_8, x224_9, x224_12, x224_15, x224_16, x224_19, x224_20, x224_21, x224_24, x224_25, x224_26, x224_29, x224_32, x224_33, x224_36, x224_37, x224_38, x224_39, x224_42, x224_43, x224_46, x224_47, x224_48, x224_49, x224_52, x224_53, x224_56, x224_57, x224_60, x224_61, x224_62, x224_63, x224_64, x224_65, x224_68, x224_69, x224_70, x224_71, x224_74, x224_75, x224_78, x224_79, x224_82, x224_85, kb_some, kb_none, clr_vi, clr_ref, clr_null, clr_none, va_rf_some, va_rf_none, ↓bi_ite_t, ↓bi_ite_f, ↓jc_lt_t, ↓jc_lt_f, ↓jc_gt_t, ↓jc_gt_f, ↓jc_le_t, ↓jc_le_f, ↓jc_ge_t, ↓jc_ge_f, ↓jc_eq_t, ↓jc_eq_f, ↓if_pos, ↓if_neg, Int.toNat_natCast]
    · unfold pl1; rw [if_neg c]
  have e80 : ∀ v, mm_up J 77 (J 81 k).toNat v 80 = J 80 := fun v => up_ne (by decide)
  have e76 : ∀ v, mm_up J 77 (J 81 k).toNat v 76 = J 76 := fun v => up_ne (by decide)
  have fr : ∀ v u, frm AP J (mm_up (mm_up J 77 (J 81 k).toNat v) 76 1 u) := fun v u a j ha => by
    unfold mm_up; rw [if_neg (fun q => ha (Or.inr q)), if_neg (fun q => ha (Or.inl ⟨q.1, by omega⟩))]
  have e1 : ∀ v u, mm_up (mm_up J 77 (J 81 k).toNat v) 76 1 u 76 1 = u := fun v u => up_s
  have e2 : ∀ v u, mm_up (mm_up J 77 (J 81 k).toNat v) 76 1 u 77 = fu (J 77) (J 81 k).toNat v := fun v u => by rw [up_ne (by decide), up_row]
  have hw3 : J 80 k = 0 ∨ J 80 k = 1 ∨ J 80 k = 2 := by omega
  rcases hw3 with q | q | q
  · refine ⟨mm_up (mm_up J 77 (J 81 k).toNat (255 - J 77 (J 81 k).toNat)) 76 1 (J 76 1), ?_, fr _ _, ?_⟩
    · simp (disch := first | assumption | omega | exact bi_lo | exact bi_hi | exact bi_01 | exact jcmp_lo | exact jcmp_hi | exact (jor_r _ _).1 | exact (jor_r _ _).2 | exact (jand_r _ _).1 | exact (jand_r _ _).2) only [x224_0, x224_1, x224_4, x224_5, x224_6, x224_7, x224_8, x224_9, x224_12, x224_15, x224_16, x224_19, x224_20, x224_21, x224_24, x224_25, x224_26, x224_29, x224_32, x224_33, x224_36, x224_37, x224_38, x224_39, x224_42, x224_43, x224_46, x224_47, x224_48, x224_49, x224_52, x224_53, x224_56, x224_57, x224_60, x224_61, x224_62, x224_63, x224_64, x224_65, x224_68, x224_69, x224_70, x224_71, x224_74, x224_75, x224_78, x224_79, x224_82, x224_85, kb_some, kb_none, clr_vi, clr_ref, clr_null, clr_none, va_rf_some, va_rf_none, ↓bi_ite_t, ↓bi_ite_f, ↓jc_lt_t, ↓jc_lt_f, ↓jc_gt_t, ↓jc_gt_f, ↓jc_le_t, ↓jc_le_f, ↓jc_ge_t, ↓jc_ge_f, ↓jc_eq_t, ↓jc_eq_f, ↓if_pos, ↓if_neg, Int.toNat_natCast, e80, e76, q]
    · rw [e1, e2]; unfold pl1; rw [if_pos c, q, if_neg (by omega), if_neg (by omega)]
  · refine ⟨mm_up (mm_up J 77 (J 81 k).toNat 0) 76 1 (J 76 1), ?_, fr _ _, ?_⟩
    · simp (disch := first | assumption | omega | exact bi_lo | exact bi_hi | exact bi_01 | exact jcmp_lo | exact jcmp_hi | exact (jor_r _ _).1 | exact (jor_r _ _).2 | exact (jand_r _ _).1 | exact (jand_r _ _).2) only [x224_0, x224_1, x224_4, x224_5, x224_6, x224_7, x224_8, x224_9, x224_12, x224_15, x224_16, x224_19, x224_20, x224_21, x224_24, x224_25, x224_26, x224_29, x224_32, x224_33, x224_36, x224_37, x224_38, x224_39, x224_42, x224_43, x224_46, x224_47, x224_48, x224_49, x224_52, x224_53, x224_56, x224_57, x224_60, x224_61, x224_62, x224_63, x224_64, x224_65, x224_68, x224_69, x224_70, x224_71, x224_74, x224_75, x224_78, x224_79, x224_82, x224_85, kb_some, kb_none, clr_vi, clr_ref, clr_null, clr_none, va_rf_some, va_rf_none, ↓bi_ite_t, ↓bi_ite_f, ↓jc_lt_t, ↓jc_lt_f, ↓jc_gt_t, ↓jc_gt_f, ↓jc_le_t, ↓jc_le_f, ↓jc_ge_t, ↓jc_ge_f, ↓jc_eq_t, ↓jc_eq_f, ↓if_pos, ↓if_neg, Int.toNat_natCast, e80, e76, q]
    · rw [e1, e2]; unfold pl1; rw [if_pos c, q, if_neg (by omega), if_pos rfl]
  · refine ⟨mm_up (mm_up J 77 (J 81 k).toNat (J 77 (J 81 k).toNat)) 76 1 (J 81 k), ?_, fr _ _, ?_⟩
    · simp (disch := first | assumption | omega | exact bi_lo | exact bi_hi | exact bi_01 | exact jcmp_lo | exact jcmp_hi | exact (jor_r _ _).1 | exact (jor_r _ _).2 | exact (jand_r _ _).1 | exact (jand_r _ _).2) only [x224_0, x224_1, x224_4, x224_5, x224_6, x224_7, x224_8, x224_9, x224_12, x224_15, x224_16, x224_19, x224_20, x224_21, x224_24, x224_25, x224_26, x224_29, x224_32, x224_33, x224_36, x224_37, x224_38, x224_39, x224_42, x224_43, x224_46, x224_47, x224_48, x224_49, x224_52, x224_53, x224_56, x224_57, x224_60, x224_61, x224_62, x224_63, x224_64, x224_65, x224_68, x224_69, x224_70, x224_71, x224_74, x224_75, x224_78, x224_79, x224_82, x224_85, kb_some, kb_none, clr_vi, clr_ref, clr_null, clr_none, va_rf_some, va_rf_none, ↓bi_ite_t, ↓bi_ite_f, ↓jc_lt_t, ↓jc_lt_f, ↓jc_gt_t, ↓jc_gt_f, ↓jc_le_t, ↓jc_le_f, ↓jc_ge_t, ↓jc_ge_f, ↓jc_eq_t, ↓jc_eq_f, ↓if_pos, ↓if_neg, Int.toNat_natCast, e80, e76, q]
    · rw [e1, e2]; unfold pl1; rw [if_pos c, q, if_pos rfl]
      have : fu (J 77) (J 81 k).toNat (J 77 (J 81 k).toNat) = J 77 := by
        funext j; unfold fu
        split
        · rename_i cj; rw [cj]
        · rfl
      rw [this]
theorem l_plan (hR : wfR R) : ∀ (i k : Nat) (J : mJ) (s' : Int × (Nat → Int)), (0 ≤ J 76 5 ∧ J 76 5 ≤ 10) → (J 76 5).toNat - k = i → (k : Int) ≤ J 76 5 → SQ (J 76 1, J 77) s' → (∀ j : Nat, (j : Int) < J 76 5 → (0 ≤ J 80 j ∧ J 80 j ≤ 2) ∧ 0 ≤ J 81 j ∧ J 81 j ≤ 119) →
    ∃ J', EE (d + 1) 225 23 [some (.ref 76), some (vi x), some (vi k), none, none] [] (SH L) J K R = EE (d + 1) 225 42 [some (.ref 76), some (vi x), some (vi (J 76 5)), none, none] [] (SH L) J' K R ∧ frm AP J J' ∧ (J' 76 1, J' 77) = goO (J 80) (J 81) i k (J 76 1, J 77) := by
  have s76 : (SH L)[76]? = some (11, 58) := rfl
  intro i
  induction i with
  | zero =>
    intro k J s' h5 hi hk hs hp
    refine ⟨J, ?_, frm_refl, rfl⟩
    have e : (k : Int) = J 76 5 := by omega
    rw [e]
    simp (disch := first | assumption | omega | exact bi_lo | exact bi_hi | exact bi_01 | exact jcmp_lo | exact jcmp_hi | exact (jor_r _ _).1 | exact (jor_r _ _).2 | exact (jand_r _ _).1 | exact (jand_r _ _).2) only [x225_23, x225_24, x225_25, x225_28, kb_some, kb_none, clr_vi, clr_ref, clr_null, clr_none, va_rf_some, va_rf_none, ↓bi_ite_t, ↓bi_ite_f, ↓jc_lt_t, ↓jc_lt_f, ↓jc_gt_t, ↓jc_gt_f, ↓jc_le_t, ↓jc_le_f, ↓jc_ge_t, ↓jc_ge_f, ↓jc_eq_t, ↓jc_eq_f, ↓if_pos, ↓if_neg]
  | succ i ih =>
    intro k J s' h5 hi hk hs hp
    have hpk := hp k (by omega)
    obtain ⟨J1, a1, a2, a3⟩ := m_planned (L := L) (d := d) (J := J) (K := K) hR (k := k) (by omega) hs.1.2 hpk.1 hpk.2
    have e5 : J1 76 5 = J 76 5 := a2 76 5 (by unfold AP; omega)
    have e80 : J1 80 = J 80 := by funext j; exact a2 80 j (by unfold AP; omega)
    have e81 : J1 81 = J 81 := by funext j; exact a2 81 j (by unfold AP; omega)
    obtain ⟨J', b1, b2, b3⟩ := ih (k + 1) J1 (pl1 (J 80 k) (J 81 k) s') (by rw [e5]; exact h5) (by rw [e5]; omega) (by rw [e5]; omega) (by rw [a3]; exact SQ_pl hs hpk.1 hpk.2) (by rw [e5, e80, e81]; exact hp)
    rw [e5, Int.natCast_succ] at b1
    rw [e80, e81, a3] at b3
    refine ⟨J', ?_, frm_trans a2 b2, b3⟩
    rw [← b1]
    have go : ∀ X, EE (d + 1) 225 23 [some (.ref 76), some (vi x), some (vi ((k : Int) + 1)), none, none] [] (SH L) J1 K R = X → EE (d + 1) 225 23 [some (.ref 76), some (vi x), some (vi k), none, none] [] (SH L) J K R = X := by
      intro X hX
      simp (disch := first | assumption | omega | exact bi_lo | exact bi_hi | exact bi_01 | exact jcmp_lo | exact jcmp_hi | exact (jor_r _ _).1 | exact (jor_r _ _).2 | exact (jand_r _ _).1 | exact (jand_r _ _).2) only [x225_23, x225_24, x225_25, x225_28, kb_some, kb_none, clr_vi, clr_ref, clr_null, clr_none, va_rf_some, va_rf_none, ↓bi_ite_t, ↓bi_ite_f, ↓jc_lt_t, ↓jc_lt_f, ↓jc_gt_t, ↓jc_gt_f, ↓jc_le_t, ↓jc_le_f, ↓jc_ge_t, ↓jc_ge_f, ↓jc_eq_t, ↓jc_eq_f, ↓if_pos, ↓if_neg]
      simp (disch := first | assumption | omega | exact bi_lo | exact bi_hi | exact bi_01 | exact jcmp_lo | exact jcmp_hi | exact (jor_r _ _).1 | exact (jor_r _ _).2 | exact (jand_r _ _).1 | exact (jand_r _ _).2) only [x225_31, x225_32, x225_33, x225_36, x225_39, kb_some, kb_none, clr_vi, clr_ref, clr_null, clr_none, va_rf_some, va_rf_none, ↓bi_ite_t, ↓bi_ite_f, ↓jc_lt_t, ↓jc_lt_f, ↓jc_gt_t, ↓jc_gt_f, ↓jc_le_t, ↓jc_le_f, ↓jc_ge_t, ↓jc_ge_f, ↓jc_eq_t, ↓jc_eq_f, ↓if_pos, ↓if_neg, a1]
      exact hX
    exact go _ rfl
theorem m_deepest (h : MR f J R) : ∃ J2, EE (d + 6) 163 0 [some (.ref 76)] [] (SH L) J K R = ok (some (vi (dpW f (J 76 1)))) (SH L) J2 K R ∧ frm AR J J2 := by
  have hR := h.1
  have s76 : (SH L)[76]? = some (11, 58) := rfl; have r76_0 : R 76 0 = some 77 := rr_lk hR rfl; have r76_3 : R 76 3 = some 78 := rr_lk hR rfl; have r76_4 : R 76 4 = some 79 := rr_lk hR rfl; have r76_6 : R 76 6 = some 80 := rr_lk hR rfl; have r76_7 : R 76 7 = some 81 := rr_lk hR rfl; have r76_9 : R 76 9 = some 82 := rr_lk hR rfl; have r76_10 : R 76 10 = some 83 := rr_lk hR rfl; have r76_12 : R 76 12 = some 84 := rr_lk hR rfl; have r76_13 : R 76 13 = some 85 := rr_lk hR rfl; have r76_19 : R 76 19 = some 86 := rr_lk hR rfl; have r76_20 : R 76 20 = some 87 := rr_lk hR rfl; have r76_21 : R 76 21 = some 88 := rr_lk hR rfl; have r76_22 : R 76 22 = some 89 := rr_lk hR rfl; have r76_24 : R 76 24 = some 90 := rr_lk hR rfl; have r76_25 : R 76 25 = some 91 := rr_lk hR rfl; have r76_26 : R 76 26 = some 92 := rr_lk hR rfl; have r76_28 : R 76 28 = some 93 := rr_lk hR rfl; have r76_29 : R 76 29 = some 94 := rr_lk hR rfl; have r76_30 : R 76 30 = some 95 := rr_lk hR rfl; have r76_31 : R 76 31 = some 96 := rr_lk hR rfl; have r76_32 : R 76 32 = some 97 := rr_lk hR rfl; have r76_36 : R 76 36 = some 98 := rr_lk hR rfl; have r76_38 : R 76 38 = some 99 := rr_lk hR rfl; have r76_39 : R 76 39 = some 100 := rr_lk hR rfl; have r76_40 : R 76 40 = some 101 := rr_lk hR rfl; have r76_41 : R 76 41 = some 102 := rr_lk hR rfl; have r76_42 : R 76 42 = some 103 := rr_lk hR rfl; have r76_47 : R 76 47 = some 104 := rr_lk hR rfl; have r76_53 : R 76 53 = some 105 := rr_lk hR rfl; have r76_54 : R 76 54 = some 106 := rr_lk hR rfl; have r76_55 : R 76 55 = some 107 := rr_lk hR rfl; have r76_56 : R 76 56 = some 108 := rr_lk hR rfl; have r76_57 : R 76 57 = some 109 := rr_lk hR rfl; have s90 : (SH L)[90]? = some (20, 8) := rfl
  obtain ⟨J2, a1, a2⟩ := rd_mB (L := L) (e2 := d) (K := K) h
  refine ⟨J2, ?_, a1⟩
  unfold dpW
  cases hw : wh f (J 76 1) with
  | error q =>
    rw [hw] at a2
    obtain ⟨p3, p4⟩ := a2
    obtain ⟨l1, l2⟩ := wh_len hw
    have e2 := (hF_at q.reverse 0 (q.length - 1) (by rw [List.length_reverse]; omega) p4.2).1
    rw [Nat.zero_add] at e2
    have e3 : q.reverse[q.length - 1]'(by rw [List.length_reverse]; omega) = q[0]'(by omega) := by
      rw [List.getElem_reverse]
      congr 1; omega
    have e6 : q.getD 0 (0, 0, 0) = q[0]'(by omega) := by
      rw [List.getD_eq_getElem?_getD, List.getElem?_eq_getElem (by omega)]; rfl
    have e4 : J2 76 23 = (q.length : Nat) := p4.1
    have e5 : (J2 76 23 - 1).toNat = q.length - 1 := by omega
    rw [e3, ← e6, ← e5] at e2
    show _ = ok (some (vi ((q.getD 0 (0, 0, 0)).1))) _ _ _ _
    rw [← e2]
    simp (disch := first | assumption | omega | exact bi_lo | exact bi_hi | exact bi_01 | exact jcmp_lo | exact jcmp_hi | exact (jor_r _ _).1 | exact (jor_r _ _).2 | exact (jand_r _ _).1 | exact (jand_r _ _).2) only [x163_0, x163_1, x163_4, x163_7, x163_8, x163_11, x163_12, x163_15, x163_16, x163_19, x163_20, x163_21, x163_22, kb_some, kb_none, clr_vi, clr_ref, clr_null, clr_none, va_rf_some, va_rf_none, ↓bi_ite_t, ↓bi_ite_f, ↓jc_lt_t, ↓jc_lt_f, ↓jc_gt_t, ↓jc_gt_f, ↓jc_le_t, ↓jc_le_f, ↓jc_ge_t, ↓jc_ge_f, ↓jc_eq_t, ↓jc_eq_f, ↓if_pos, ↓if_neg, p3]
  | ok F =>
    rw [hw] at a2
    obtain ⟨p3, p4⟩ := a2
    simp (disch := first | assumption | omega | exact bi_lo | exact bi_hi | exact bi_01 | exact jcmp_lo | exact jcmp_hi | exact (jor_r _ _).1 | exact (jor_r _ _).2 | exact (jand_r _ _).1 | exact (jand_r _ _).2) only [x163_0, x163_1, x163_4, x163_7, x163_8, x163_11, x163_12, x163_15, x163_16, x163_19, x163_20, x163_21, x163_22, kb_some, kb_none, clr_vi, clr_ref, clr_null, clr_none, va_rf_some, va_rf_none, ↓bi_ite_t, ↓bi_ite_f, ↓jc_lt_t, ↓jc_lt_f, ↓jc_gt_t, ↓jc_gt_f, ↓jc_le_t, ↓jc_le_f, ↓jc_ge_t, ↓jc_ge_f, ↓jc_eq_t, ↓jc_eq_f, ↓if_pos, ↓if_neg, p3]
theorem op_ends (h : INV J K R) (hx : -2147483648 ≤ x ∧ x ≤ 2147483647) : OP L d 118 225 [some (vi x)] [some (vi x), none, none, none] J K R := by
  have hR := h.1
  have s2 : (SH L)[2]? = some (10, 10) := rfl; have r2_0 : R 2 0 = some 3 := rr_lk hR rfl; have r2_1 : R 2 1 = some 15 := rr_lk hR rfl; have r2_3 : R 2 3 = some 27 := rr_lk hR rfl; have r2_4 : R 2 4 = some 29 := rr_lk hR rfl; have r2_5 : R 2 5 = some 31 := rr_lk hR rfl; have r2_6 : R 2 6 = some 46 := rr_lk hR rfl; have r2_7 : R 2 7 = some 57 := rr_lk hR rfl; have r2_8 : R 2 8 = some 60 := rr_lk hR rfl; have r2_9 : R 2 9 = some 63 := rr_lk hR rfl; have s3 : (SH L)[3]? = some (6, 4) := rfl; have r3_0 : R 3 0 = some 4 := rr_lk hR rfl; have r3_1 : R 3 1 = some 6 := rr_lk hR rfl; have r3_2 : R 3 2 = some 9 := rr_lk hR rfl; have r3_3 : R 3 3 = some 12 := rr_lk hR rfl; have s4 : (SH L)[4]? = some (0, 2) := rfl; have r4_0 : R 4 0 = some 5 := rr_lk hR rfl; have s9 : (SH L)[9]? = some (4, 3) := rfl; have r9_0 : R 9 0 = some 10 := rr_lk hR rfl; have r9_1 : R 9 1 = some 11 := rr_lk hR rfl; have s29 : (SH L)[29]? = some (0, 2) := rfl; have r29_0 : R 29 0 = some 30 := rr_lk hR rfl; have s31 : (SH L)[31]? = some (2, 5) := rfl; have r31_0 : R 31 0 = some 32 := rr_lk hR rfl; have r31_1 : R 31 1 = some 36 := rr_lk hR rfl; have s76 : (SH L)[76]? = some (11, 58) := rfl; have r76_0 : R 76 0 = some 77 := rr_lk hR rfl; have r76_3 : R 76 3 = some 78 := rr_lk hR rfl; have r76_4 : R 76 4 = some 79 := rr_lk hR rfl; have r76_6 : R 76 6 = some 80 := rr_lk hR rfl; have r76_7 : R 76 7 = some 81 := rr_lk hR rfl; have r76_9 : R 76 9 = some 82 := rr_lk hR rfl; have r76_10 : R 76 10 = some 83 := rr_lk hR rfl; have r76_12 : R 76 12 = some 84 := rr_lk hR rfl; have r76_13 : R 76 13 = some 85 := rr_lk hR rfl; have r76_19 : R 76 19 = some 86 := rr_lk hR rfl; have r76_20 : R 76 20 = some 87 := rr_lk hR rfl; have r76_21 : R 76 21 = some 88 := rr_lk hR rfl; have r76_22 : R 76 22 = some 89 := rr_lk hR rfl; have r76_24 : R 76 24 = some 90 := rr_lk hR rfl; have r76_25 : R 76 25 = some 91 := rr_lk hR rfl; have r76_26 : R 76 26 = some 92 := rr_lk hR rfl; have r76_28 : R 76 28 = some 93 := rr_lk hR rfl; have r76_29 : R 76 29 = some 94 := rr_lk hR rfl; have r76_30 : R 76 30 = some 95 := rr_lk hR rfl; have r76_31 : R 76 31 = some 96 := rr_lk hR rfl; have r76_32 : R 76 32 = some 97 := rr_lk hR rfl; have r76_36 : R 76 36 = some 98 := rr_lk hR rfl; have r76_38 : R 76 38 = some 99 := rr_lk hR rfl; have r76_39 : R 76 39 = some 100 := rr_lk hR rfl; have r76_40 : R 76 40 = some 101 := rr_lk hR rfl; have r76_41 : R 76 41 = some 102 := rr_lk hR rfl; have r76_42 : R 76 42 = some 103 := rr_lk hR rfl; have r76_47 : R 76 47 = some 104 := rr_lk hR rfl; have r76_53 : R 76 53 = some 105 := rr_lk hR rfl; have r76_54 : R 76 54 = some 106 := rr_lk hR rfl; have r76_55 : R 76 55 = some 107 := rr_lk hR rfl; have r76_56 : R 76 56 = some 108 := rr_lk hR rfl; have r76_57 : R 76 57 = some 109 := rr_lk hR rfl
  have hin := fun d J R => m_in (d := d) (S := SH L) (J := J) (K := K) (R := R) (x := x) (y := 0) (z := 1) (by omega) (by omega) (by omega)
  by_cases c2 : 0 ≤ x ∧ x ≤ 1
  rotate_left
  · simp only [bi_f c2] at hin
    refine ⟨vi (-1), J, K, R, mm_up J 76 11 0, K, R, ?_, ?_, INV_11 h⟩
    · by_cases c3 : x < 0
      · simp (disch := first | assumption | omega | exact bi_lo | exact bi_hi | exact bi_01 | exact jcmp_lo | exact jcmp_hi | exact (jor_r _ _).1 | exact (jor_r _ _).2 | exact (jand_r _ _).1 | exact (jand_r _ _).2) only [x118_0, x118_1, x118_4, x118_5, x118_6, x118_9, x118_10, kb_some, kb_none, clr_vi, clr_ref, clr_null, clr_none, va_rf_some, va_rf_none, ↓bi_ite_t, ↓bi_ite_f, ↓jc_lt_t, ↓jc_lt_f, ↓jc_gt_t, ↓jc_gt_f, ↓jc_le_t, ↓jc_le_f, ↓jc_ge_t, ↓jc_ge_f, ↓jc_eq_t, ↓jc_eq_f, ↓if_pos, ↓if_neg]
      · simp (disch := first | assumption | omega | exact bi_lo | exact bi_hi | exact bi_01 | exact jcmp_lo | exact jcmp_hi | exact (jor_r _ _).1 | exact (jor_r _ _).2 | exact (jand_r _ _).1 | exact (jand_r _ _).2) only [x118_0, x118_1, x118_4, x118_5, x118_6, x118_9, x118_10, kb_some, kb_none, clr_vi, clr_ref, clr_null, clr_none, va_rf_some, va_rf_none, ↓bi_ite_t, ↓bi_ite_f, ↓jc_lt_t, ↓jc_lt_f, ↓jc_gt_t, ↓jc_gt_f, ↓jc_le_t, ↓jc_le_f, ↓jc_ge_t, ↓jc_ge_f, ↓jc_eq_t, ↓jc_eq_f, ↓if_pos, ↓if_neg]
    · simp (disch := first | assumption | omega | exact bi_lo | exact bi_hi | exact bi_01 | exact jcmp_lo | exact jcmp_hi | exact (jor_r _ _).1 | exact (jor_r _ _).2 | exact (jand_r _ _).1 | exact (jand_r _ _).2) only [x225_0, x225_1, x225_2, x225_5, x225_6, x225_7, x225_8, x225_9, x225_12, x225_15, x225_16, kb_some, kb_none, clr_vi, clr_ref, clr_null, clr_none, va_rf_some, va_rf_none, ↓bi_ite_t, ↓bi_ite_f, ↓jc_lt_t, ↓jc_lt_f, ↓jc_gt_t, ↓jc_gt_f, ↓jc_le_t, ↓jc_le_f, ↓jc_ge_t, ↓jc_ge_f, ↓jc_eq_t, ↓jc_eq_f, ↓if_pos, ↓if_neg, hin]
  simp only [bi_t c2] at hin
  obtain ⟨a1, a2, a3⟩ := h.2.1
  obtain ⟨u1, u2, u3⟩ := h.2.2.2.1.2.1
  have hct := fun d => c_trial (L := L) (d := d) h
  obtain ⟨t1, t2, t3⟩ := tr_B h
  have hB : isB (SH L) R 29 30 120 := ⟨rfl, rr_lk hR rfl, rfl, by decide, by decide, by decide⟩
  have hW2 : isW (SH L) R 9 10 11 10 := ⟨rfl, rr_lk hR rfl, rr_lk hR rfl, rfl, rfl, by decide, by decide, by decide, by decide, by decide, by decide⟩
  have y9 : tr J 9 = J 9 := tr_o (by decide) (by decide)
  have y10 : tr J 10 = J 10 := tr_o (by decide) (by decide)
  have y11 : tr J 11 = J 11 := tr_o (by decide) (by decide)
  obtain ⟨vg, Jg, Kg, Rg, g1, g2, g3, g4, g5, g6⟩ := w_goOver (d := d + 17) (J := tr J) (K := K) hW2 hB (by decide) (by rw [y9]; omega) (by rw [t1.1]; omega) (fun i hi => by rw [y9] at hi; rw [y10]; have := u3 i (by omega); omega) (fun i hi => by rw [y9] at hi; rw [y11]; have := u3 i (by omega); omega)
  rw [g2, g3, g4] at g1
  rw [y9, y10, y11, u1, t1.1] at g6
  have hs0 : SQ (J 76 1, tr J 30) (J 76 1, J 77) := ⟨⟨rfl, a2.1, a2.2⟩, fun j hj => ⟨t2 j hj, (a3 j hj).2.1, fun q => by
    have q' : (j : Int) < J 76 1 := q
    show tr J 30 j = J 77 j
    rw [tr_30, if_pos (by omega)]
    exact (a3 j hj).2.2 q'⟩⟩
  have hsq := SQ_go (p := J 10) (q := J 11) (p' := J 80) (q' := J 81) (J 76 5).toNat 0 _ _ (fun j j1 j2 => by
    have := u3 j (by omega)
    exact ⟨⟨this.1.1, by omega, by omega⟩, this.2.1, by omega, by omega⟩) hs0
  have hs00 : SQ (J 76 1, J 77) (J 76 1, J 77) := ⟨⟨rfl, a2.1, a2.2⟩, fun j hj => ⟨(a3 j hj).2.1, (a3 j hj).2.1, fun _ => rfl⟩⟩
  rw [← g6] at hsq
  have og : ∀ a, a ≠ 29 → a ≠ 30 → Jg a = J a := fun a q1 q2 => by rw [g5 a (by omega), tr_o q1 q2]
  generalize hgo : goO (J 80) (J 81) (J 76 5).toNat 0 (J 76 1, J 77) = sm at hsq
  obtain ⟨⟨k1, k2, k3⟩, k4⟩ := hsq
  have k1' : Jg 29 1 = sm.1 := k1
  have k2' : 0 ≤ Jg 29 1 := k2
  have k3' : Jg 29 1 ≤ 120 := k3
  have hgR : ∀ j : Nat, j < 120 → 0 ≤ Jg 30 j ∧ Jg 30 j ≤ 255 := fun j hj => (k4 j hj).1
  have hgS : RS Jg := by
    have := h.2.2.2.2.2.1.1
    unfold RS at this ⊢
    rw [og 32 (by decide) (by decide), og 36 (by decide) (by decide), og 42 (by decide) (by decide)]
    exact this
  have hRB := RB_30 (L := L) (J := Jg) (f := bA Jg 29 30) hR ⟨k2', k3'⟩ hgR rfl
  generalize hf : bA Jg 29 30 = f at hRB
  -- the reference, up to what is read
  have main : ∀ (J1 : mJ) (R1 : mm_R), wfR R1 → TF J J1 → ∃ J2, EE (d + 20) 225 0 [some (.ref 76), some (vi x), none, none, none] [] (SH L) J1 K R1 = ok (some (vi (if x = 0 then dpW f (Jg 29 1) else pcn (rb f (Jg 29 1))))) (SH L) J2 K (mm_up (mm_up R1 76 17 (some 84)) 76 17 (some 84)) ∧ frm SC J1 J2 := by
    intro J1 R1 hR1 hT
    have o1 := hT.1
    have hR2 : wfR (mm_up R1 76 17 (some 84)) := wfR_up hR1 rfl
    have hRa := hR1
    generalize hJ0 : mm_up J1 76 11 0 = J0
    have hop : EE (d + 19) 142 0 [some (.ref 76)] [] (SH L) J0 K R1 = ok none (SH L) (csJ 1 84 J0 170) K (mm_up R1 76 17 (some 84)) := by
      have hca := m_carryAll (L := L) (d := d + 17) (J := J0) (K := K) (t := 1) hR1 (Or.inl rfl) (Or.inr rfl)
      have hR := hR1
      have s76 : (SH L)[76]? = some (11, 58) := rfl; have r76_0 : R1 76 0 = some 77 := rr_lk hR rfl; have r76_3 : R1 76 3 = some 78 := rr_lk hR rfl; have r76_4 : R1 76 4 = some 79 := rr_lk hR rfl; have r76_6 : R1 76 6 = some 80 := rr_lk hR rfl; have r76_7 : R1 76 7 = some 81 := rr_lk hR rfl; have r76_9 : R1 76 9 = some 82 := rr_lk hR rfl; have r76_10 : R1 76 10 = some 83 := rr_lk hR rfl; have r76_12 : R1 76 12 = some 84 := rr_lk hR rfl; have r76_13 : R1 76 13 = some 85 := rr_lk hR rfl; have r76_19 : R1 76 19 = some 86 := rr_lk hR rfl; have r76_20 : R1 76 20 = some 87 := rr_lk hR rfl; have r76_21 : R1 76 21 = some 88 := rr_lk hR rfl; have r76_22 : R1 76 22 = some 89 := rr_lk hR rfl; have r76_24 : R1 76 24 = some 90 := rr_lk hR rfl; have r76_25 : R1 76 25 = some 91 := rr_lk hR rfl; have r76_26 : R1 76 26 = some 92 := rr_lk hR rfl; have r76_28 : R1 76 28 = some 93 := rr_lk hR rfl; have r76_29 : R1 76 29 = some 94 := rr_lk hR rfl; have r76_30 : R1 76 30 = some 95 := rr_lk hR rfl; have r76_31 : R1 76 31 = some 96 := rr_lk hR rfl; have r76_32 : R1 76 32 = some 97 := rr_lk hR rfl; have r76_36 : R1 76 36 = some 98 := rr_lk hR rfl; have r76_38 : R1 76 38 = some 99 := rr_lk hR rfl; have r76_39 : R1 76 39 = some 100 := rr_lk hR rfl; have r76_40 : R1 76 40 = some 101 := rr_lk hR rfl; have r76_41 : R1 76 41 = some 102 := rr_lk hR rfl; have r76_42 : R1 76 42 = some 103 := rr_lk hR rfl; have r76_47 : R1 76 47 = some 104 := rr_lk hR rfl; have r76_53 : R1 76 53 = some 105 := rr_lk hR rfl; have r76_54 : R1 76 54 = some 106 := rr_lk hR rfl; have r76_55 : R1 76 55 = some 107 := rr_lk hR rfl; have r76_56 : R1 76 56 = some 108 := rr_lk hR rfl; have r76_57 : R1 76 57 = some 109 := rr_lk hR rfl
      simp (disch := first | assumption | omega | exact bi_lo | exact bi_hi | exact bi_01 | exact jcmp_lo | exact jcmp_hi | exact (jor_r _ _).1 | exact (jor_r _ _).2 | exact (jand_r _ _).1 | exact (jand_r _ _).2) only [x142_0, x142_1, x142_2, x142_5, x142_6, x142_9, kb_some, kb_none, clr_vi, clr_ref, clr_null, clr_none, va_rf_some, va_rf_none, ↓bi_ite_t, ↓bi_ite_f, ↓jc_lt_t, ↓jc_lt_f, ↓jc_gt_t, ↓jc_gt_f, ↓jc_le_t, ↓jc_le_f, ↓jc_ge_t, ↓jc_ge_f, ↓jc_eq_t, ↓jc_eq_f, ↓if_pos, ↓if_neg, hca]
    have hag : ∀ J3, EE (d + 19) 143 0 [some (.ref 76)] [] (SH L) J3 K (mm_up R1 76 17 (some 84)) = ok none (SH L) (csJ 0 84 J3 170) K (mm_up (mm_up R1 76 17 (some 84)) 76 17 (some 84)) := fun J3 => by
      have hca := m_carryAll (L := L) (d := d + 17) (J := J3) (K := K) (t := 0) hR2 (Or.inl rfl) (Or.inl rfl)
      generalize mm_up R1 76 17 (some 84) = R2 at *
      have hR := hR2
      have s76 : (SH L)[76]? = some (11, 58) := rfl; have r76_0 : R2 76 0 = some 77 := rr_lk hR rfl; have r76_3 : R2 76 3 = some 78 := rr_lk hR rfl; have r76_4 : R2 76 4 = some 79 := rr_lk hR rfl; have r76_6 : R2 76 6 = some 80 := rr_lk hR rfl; have r76_7 : R2 76 7 = some 81 := rr_lk hR rfl; have r76_9 : R2 76 9 = some 82 := rr_lk hR rfl; have r76_10 : R2 76 10 = some 83 := rr_lk hR rfl; have r76_12 : R2 76 12 = some 84 := rr_lk hR rfl; have r76_13 : R2 76 13 = some 85 := rr_lk hR rfl; have r76_19 : R2 76 19 = some 86 := rr_lk hR rfl; have r76_20 : R2 76 20 = some 87 := rr_lk hR rfl; have r76_21 : R2 76 21 = some 88 := rr_lk hR rfl; have r76_22 : R2 76 22 = some 89 := rr_lk hR rfl; have r76_24 : R2 76 24 = some 90 := rr_lk hR rfl; have r76_25 : R2 76 25 = some 91 := rr_lk hR rfl; have r76_26 : R2 76 26 = some 92 := rr_lk hR rfl; have r76_28 : R2 76 28 = some 93 := rr_lk hR rfl; have r76_29 : R2 76 29 = some 94 := rr_lk hR rfl; have r76_30 : R2 76 30 = some 95 := rr_lk hR rfl; have r76_31 : R2 76 31 = some 96 := rr_lk hR rfl; have r76_32 : R2 76 32 = some 97 := rr_lk hR rfl; have r76_36 : R2 76 36 = some 98 := rr_lk hR rfl; have r76_38 : R2 76 38 = some 99 := rr_lk hR rfl; have r76_39 : R2 76 39 = some 100 := rr_lk hR rfl; have r76_40 : R2 76 40 = some 101 := rr_lk hR rfl; have r76_41 : R2 76 41 = some 102 := rr_lk hR rfl; have r76_42 : R2 76 42 = some 103 := rr_lk hR rfl; have r76_47 : R2 76 47 = some 104 := rr_lk hR rfl; have r76_53 : R2 76 53 = some 105 := rr_lk hR rfl; have r76_54 : R2 76 54 = some 106 := rr_lk hR rfl; have r76_55 : R2 76 55 = some 107 := rr_lk hR rfl; have r76_56 : R2 76 56 = some 108 := rr_lk hR rfl; have r76_57 : R2 76 57 = some 109 := rr_lk hR rfl
      simp (disch := first | assumption | omega | exact bi_lo | exact bi_hi | exact bi_01 | exact jcmp_lo | exact jcmp_hi | exact (jor_r _ _).1 | exact (jor_r _ _).2 | exact (jand_r _ _).1 | exact (jand_r _ _).2) only [x143_0, x143_1, x143_2, x143_5, x143_6, x143_9, kb_some, kb_none, clr_vi, clr_ref, clr_null, clr_none, va_rf_some, va_rf_none, ↓bi_ite_t, ↓bi_ite_f, ↓jc_lt_t, ↓jc_lt_f, ↓jc_gt_t, ↓jc_gt_f, ↓jc_le_t, ↓jc_le_f, ↓jc_ge_t, ↓jc_ge_f, ↓jc_eq_t, ↓jc_eq_f, ↓if_pos, ↓if_neg, hca]
    generalize hJa : csJ 1 84 J0 170 = Ja at hop
    have oa : ∀ a j, ¬ (a = 84 ∨ (a = 76 ∧ (j = 11 ∨ j = 15 ∨ j = 16))) → Ja a j = J1 a j := fun a j q => by
      rw [← hJa, sv_o (by omega), ← hJ0]; unfold mm_up; rw [if_neg (by omega)]
    have e1 : Ja 76 1 = J 76 1 := by rw [oa 76 1 (by decide), o1 76 (by decide)]
    have e5 : Ja 76 5 = J 76 5 := by rw [oa 76 5 (by decide), o1 76 (by decide)]
    have e77 : Ja 77 = J 77 := by funext j; rw [oa 77 j (by omega), o1 77 (by decide)]
    have e80 : Ja 80 = J 80 := by funext j; rw [oa 80 j (by omega), o1 80 (by decide)]
    have e81 : Ja 81 = J 81 := by funext j; rw [oa 81 j (by omega), o1 81 (by decide)]
    obtain ⟨Jb, b1, b2, b3⟩ := l_plan (L := L) (d := d + 19) (K := K) (x := x) hR2 (J 76 5).toNat 0 Ja (J 76 1, J 77) (by rw [e5]; exact u2) (by rw [e5]; omega) (by rw [e5]; omega) (by rw [e1, e77]; exact hs00) (fun j hj => by rw [e5] at hj; rw [e80, e81]; have := u3 j hj; omega)
    rw [e80, e81, e1, e77, hgo] at b3
    rw [e5, show ((0 : Nat) : Int) = 0 from rfl] at b1
    have n1 : Jb 76 1 = Jg 29 1 := by rw [k1', ← b3]
    have n77 : Jb 77 = sm.2 := by rw [← b3]
    have hMR : MR f Jb (mm_up R1 76 17 (some 84)) := by
      refine ⟨hR2, by omega, fun i hi => by rw [n77]; exact (k4 i hi).2.1, ?_⟩
      rw [← hf]
      funext q
      unfold mA bA
      rw [n1, n77]
      by_cases c : 0 ≤ q ∧ q < Jg 29 1
      · rw [if_pos c, if_pos c]
        exact ((k4 q.toNat (by omega)).2.2 (by show ((q.toNat : Nat) : Int) < Jg 29 1; omega)).symm
      · rw [if_neg c, if_neg c]
    have fin : ∀ Jc, frm AR Jb Jc → frm SC J1 (csJ 0 84 Jc 170) := fun Jc hc a j ha => by
      by_cases ci : idx a j < 170
      · have hn := idx_n ci
        have hna : ¬ (a = 76 ∧ j = 11) := fun q => by
          obtain ⟨q1, q2⟩ := q
          subst q1; subst q2
          rw [show idx 76 11 = 1000 from rfl] at ci; omega
        rw [rs_at rfl ci, hc 84 _ (by unfold AR; omega), b2 84 _ (by unfold AP; omega), ← hJa, sv_at (Or.inl rfl) rfl ci, ← hJ0]
        unfold mm_up; rw [if_neg hna]
      · rw [rs_o ci (by unfold SC at ha; omega), hc a j (fun q => ha (AR_SC q)), b2 a j (fun q => ?_), oa a j (by unfold SC at ha; omega)]
        rcases q with ⟨q1, q2⟩ | ⟨q1, q2⟩
        · subst q1
          exact ci (by rw [ix77 q2]; omega)
        · subst q1; subst q2
          exact ci (by decide)
    generalize hR3 : mm_up R1 76 17 (some 84) = R3 at *
    rw [← n1]
    have hin1 := fun d J => hin d J R1
    have st : ∀ X, EE (d + 20) 225 42 [some (.ref 76), some (vi x), some (vi (J 76 5)), none, none] [] (SH L) Jb K R3 = X → EE (d + 20) 225 0 [some (.ref 76), some (vi x), none, none, none] [] (SH L) J1 K R1 = X := by
      intro X hX
      simp (disch := first | assumption | omega | exact bi_lo | exact bi_hi | exact bi_01 | exact jcmp_lo | exact jcmp_hi | exact (jor_r _ _).1 | exact (jor_r _ _).2 | exact (jand_r _ _).1 | exact (jand_r _ _).2) only [x225_0, x225_1, x225_2, x225_5, x225_6, x225_7, x225_8, x225_9, x225_12, x225_15, x225_16, x225_17, x225_18, x225_21, x225_22, kb_some, kb_none, clr_vi, clr_ref, clr_null, clr_none, va_rf_some, va_rf_none, ↓bi_ite_t, ↓bi_ite_f, ↓jc_lt_t, ↓jc_lt_f, ↓jc_gt_t, ↓jc_gt_f, ↓jc_le_t, ↓jc_le_f, ↓jc_ge_t, ↓jc_ge_f, ↓jc_eq_t, ↓jc_eq_f, ↓if_pos, ↓if_neg, hin1, hJ0, hop]
      rw [b1]
      exact hX
    by_cases c3 : x = 0
    · subst c3
      rw [if_pos rfl]
      obtain ⟨Jc, d1, d2⟩ := m_deepest (L := L) (d := d + 13) (K := K) hMR
      refine ⟨csJ 0 84 Jc 170, ?_, fin Jc d2⟩
      apply st
      have hag' := hag Jc
      simp (disch := first | assumption | omega | exact bi_lo | exact bi_hi | exact bi_01 | exact jcmp_lo | exact jcmp_hi | exact (jor_r _ _).1 | exact (jor_r _ _).2 | exact (jand_r _ _).1 | exact (jand_r _ _).2) only [x225_42, x225_43, x225_46, x225_47, x225_50, x225_51, x225_54, x225_55, x225_56, x225_59, x225_60, x225_63, x225_66, x225_67, x225_68, x225_69, kb_some, kb_none, clr_vi, clr_ref, clr_null, clr_none, va_rf_some, va_rf_none, ↓bi_ite_t, ↓bi_ite_f, ↓jc_lt_t, ↓jc_lt_f, ↓jc_gt_t, ↓jc_gt_f, ↓jc_le_t, ↓jc_le_f, ↓jc_ge_t, ↓jc_ge_f, ↓jc_eq_t, ↓jc_eq_f, ↓if_pos, ↓if_neg, d1]
      simp (disch := first | assumption | omega | exact bi_lo | exact bi_hi | exact bi_01 | exact jcmp_lo | exact jcmp_hi | exact (jor_r _ _).1 | exact (jor_r _ _).2 | exact (jand_r _ _).1 | exact (jand_r _ _).2) only [x225_71, x225_73, x225_91, x225_92, x225_95, x225_96, kb_some, kb_none, clr_vi, clr_ref, clr_null, clr_none, va_rf_some, va_rf_none, ↓bi_ite_t, ↓bi_ite_f, ↓jc_lt_t, ↓jc_lt_f, ↓jc_gt_t, ↓jc_gt_f, ↓jc_le_t, ↓jc_le_f, ↓jc_ge_t, ↓jc_ge_f, ↓jc_eq_t, ↓jc_eq_f, ↓if_pos, ↓if_neg, hag']
    · have c4 : x = 1 := by omega
      subst c4
      rw [if_neg c3]
      obtain ⟨Jc, d1, d2⟩ := m_recovered (L := L) (d := d + 14) (K := K) hMR
      have hrb := rb_r (f := f) (n := Jb 76 1) (by
        rw [← hMR.2.2.2]
        by_cases c5 : 3 < Jb 76 1
        · left
          unfold mA
          rw [if_pos (by omega)]
          exact (hMR.2.2.1 _ (by omega)).1
        · right; omega)
      generalize hrv : rb f (Jb 76 1) = bb at *
      refine ⟨csJ 0 84 Jc 170, ?_, fin Jc d2⟩
      apply st
      have hag' := hag Jc
      have hbl := l_bits (L := L) (d := d + 20) (J := Jc) (K := K) (R := R3) (x := 1) (y := bb) 64 bb 0 (by omega) hrb (by omega)
      rw [Int.zero_add] at hbl
      have hpr := pcn_r (b := bb)
      simp (disch := first | assumption | omega | exact bi_lo | exact bi_hi | exact bi_01 | exact jcmp_lo | exact jcmp_hi | exact (jor_r _ _).1 | exact (jor_r _ _).2 | exact (jand_r _ _).1 | exact (jand_r _ _).2) only [x225_42, x225_43, x225_46, x225_47, x225_50, x225_51, x225_54, x225_55, x225_56, x225_59, x225_60, x225_63, x225_66, x225_67, x225_68, x225_69, kb_some, kb_none, clr_vi, clr_ref, clr_null, clr_none, va_rf_some, va_rf_none, ↓bi_ite_t, ↓bi_ite_f, ↓jc_lt_t, ↓jc_lt_f, ↓jc_gt_t, ↓jc_gt_f, ↓jc_le_t, ↓jc_le_f, ↓jc_ge_t, ↓jc_ge_f, ↓jc_eq_t, ↓jc_eq_f, ↓if_pos, ↓if_neg, d1]
      rw [hbl]
      simp (disch := first | assumption | omega | exact bi_lo | exact bi_hi | exact bi_01 | exact jcmp_lo | exact jcmp_hi | exact (jor_r _ _).1 | exact (jor_r _ _).2 | exact (jand_r _ _).1 | exact (jand_r _ _).2) only [x225_91, x225_92, x225_95, x225_96, kb_some, kb_none, clr_vi, clr_ref, clr_null, clr_none, va_rf_some, va_rf_none, ↓bi_ite_t, ↓bi_ite_f, ↓jc_lt_t, ↓jc_lt_f, ↓jc_gt_t, ↓jc_gt_f, ↓jc_le_t, ↓jc_le_f, ↓jc_ge_t, ↓jc_ge_f, ↓jc_eq_t, ↓jc_eq_f, ↓if_pos, ↓if_neg, hag']
  by_cases c3 : x = 0
  · subst c3
    obtain ⟨J1, R1, b3, b4, b5, hm⟩ := rd_cB (L := L) (e1 := d + 8) (K := K) hRB hgS
    have hT : TF J J1 := ⟨fun a ha => by rw [b4 a (by unfold A31; omega), og a (by omega) (by omega)], b5, by rw [b4 29 (by decide)]; exact ⟨k2', k3'⟩, fun j hj => by rw [b4 30 (by decide)]; exact hgR j hj⟩
    obtain ⟨J2, m1, m2⟩ := main J1 R1 b3 hT
    rw [if_pos rfl] at m1
    have hw1 : wfR (mm_up R1 76 17 (some 84)) := wfR_up b3 rfl
    have hw2 : wfR (mm_up (mm_up R1 76 17 (some 84)) 76 17 (some 84)) := wfR_up hw1 rfl
    have hi := TF_INV h hw2 hT m2
    refine ⟨vi (dpW f (Jg 29 1)), J1, K, R1, J2, K, _, ?_, m1, hi⟩
    unfold dpW
    cases hw : wh f (Jg 29 1) with
    | error q =>
      rw [hw] at hm
      obtain ⟨p1, p2, p3⟩ := hm
      have hR := b3
      have s2 : (SH L)[2]? = some (10, 10) := rfl; have r2_0 : R1 2 0 = some 3 := rr_lk hR rfl; have r2_1 : R1 2 1 = some 15 := rr_lk hR rfl; have r2_3 : R1 2 3 = some 27 := rr_lk hR rfl; have r2_4 : R1 2 4 = some 29 := rr_lk hR rfl; have r2_5 : R1 2 5 = some 31 := rr_lk hR rfl; have r2_6 : R1 2 6 = some 46 := rr_lk hR rfl; have r2_7 : R1 2 7 = some 57 := rr_lk hR rfl; have r2_8 : R1 2 8 = some 60 := rr_lk hR rfl; have r2_9 : R1 2 9 = some 63 := rr_lk hR rfl; have s31 : (SH L)[31]? = some (2, 5) := rfl; have r31_0 : R1 31 0 = some 32 := rr_lk hR rfl; have r31_1 : R1 31 1 = some 36 := rr_lk hR rfl; have s32 : (SH L)[32]? = some (1, 4) := rfl; have r32_0 : R1 32 0 = some 33 := rr_lk hR rfl; have r32_1 : R1 32 1 = some 34 := rr_lk hR rfl; have r32_2 : R1 32 2 = some 35 := rr_lk hR rfl
      have hd := fun d => f_deepest (d := d) (J := J1) (K := K) (isF_32 (L := L) b3) (by rw [p2.1]; omega)
      have e1 := (hF_at q 0 0 (by omega) p2.2).1
      rw [Nat.zero_add] at e1
      have e6 : q.getD 0 (0, 0, 0) = q[0]'(by omega) := by
        rw [List.getD_eq_getElem?_getD, List.getElem?_eq_getElem (by omega)]; rfl
      rw [← e6] at e1
      rw [e1] at hd
      show _ = ok (some (vi ((q.getD 0 (0, 0, 0)).1))) _ _ _ _
      simp (disch := first | assumption | omega | exact bi_lo | exact bi_hi | exact bi_01 | exact jcmp_lo | exact jcmp_hi | exact (jor_r _ _).1 | exact (jor_r _ _).2 | exact (jand_r _ _).1 | exact (jand_r _ _).2) only [x118_0, x118_1, x118_4, x118_5, x118_6, x118_9, x118_10, x118_11, x118_12, x118_15, x118_16, x118_19, x118_22, x118_25, x118_26, x118_29, x118_32, x118_33, x118_36, x118_39, x118_40, x118_41, x118_44, x118_45, x118_48, x118_49, x118_52, x118_55, x118_58, x118_59, x118_60, x118_63, x118_64, x118_67, x118_70, x118_73, x118_74, x118_77, x118_78, x118_81, x118_84, x118_87, x15_0, x15_1, x15_4, x15_4n, kb_some, kb_none, clr_vi, clr_ref, clr_null, clr_none, va_rf_some, va_rf_none, ↓bi_ite_t, ↓bi_ite_f, ↓jc_lt_t, ↓jc_lt_f, ↓jc_gt_t, ↓jc_gt_f, ↓jc_le_t, ↓jc_le_f, ↓jc_ge_t, ↓jc_ge_f, ↓jc_eq_t, ↓jc_eq_f, ↓if_pos, ↓if_neg, hct, g1, p1, hd]
    | ok F =>
      rw [hw] at hm
      obtain ⟨p1, p2⟩ := hm
      simp (disch := first | assumption | omega | exact bi_lo | exact bi_hi | exact bi_01 | exact jcmp_lo | exact jcmp_hi | exact (jor_r _ _).1 | exact (jor_r _ _).2 | exact (jand_r _ _).1 | exact (jand_r _ _).2) only [x118_0, x118_1, x118_4, x118_5, x118_6, x118_9, x118_10, x118_11, x118_12, x118_15, x118_16, x118_19, x118_22, x118_25, x118_26, x118_29, x118_32, x118_33, x118_36, x118_39, x118_40, x118_41, x118_44, x118_45, x118_48, x118_49, x118_52, x118_55, x118_58, x118_59, x118_60, x118_63, x118_64, x118_67, x118_70, x118_73, x118_74, x118_77, x118_78, x118_81, x118_84, x118_87, kb_some, kb_none, clr_vi, clr_ref, clr_null, clr_none, va_rf_some, va_rf_none, ↓bi_ite_t, ↓bi_ite_f, ↓jc_lt_t, ↓jc_lt_f, ↓jc_gt_t, ↓jc_gt_f, ↓jc_le_t, ↓jc_le_f, ↓jc_ge_t, ↓jc_ge_f, ↓jc_eq_t, ↓jc_eq_f, ↓if_pos, ↓if_neg, hct, g1, p1]
  · have c4 : x = 1 := by omega
    subst c4
    obtain ⟨v1, J1, K1, R1, b1, b2, b3, b4, b5, b6⟩ := rd_recovered (L := L) (d := d + 8) (K := K) hRB hgS
    rw [b2, b6] at b1
    have hT : TF J J1 := ⟨fun a ha => by rw [b4 a (by unfold A31; omega), og a (by omega) (by omega)], b5, by rw [b4 29 (by decide)]; exact ⟨k2', k3'⟩, fun j hj => by rw [b4 30 (by decide)]; exact hgR j hj⟩
    obtain ⟨J2, m1, m2⟩ := main J1 R1 b3 hT
    rw [if_neg c3] at m1
    have hw1 : wfR (mm_up R1 76 17 (some 84)) := wfR_up b3 rfl
    have hw2 : wfR (mm_up (mm_up R1 76 17 (some 84)) 76 17 (some 84)) := wfR_up hw1 rfl
    have hi := TF_INV h hw2 hT m2
    have hrb := rb_r (f := f) (n := Jg 29 1) (by
      rw [← hf]
      by_cases c5 : 3 < Jg 29 1
      · left
        unfold bA
        rw [if_pos (by omega)]
        exact (hgR _ (by omega)).1
      · right; omega)
    have hbc := fun d => c_bitCount (d := d) (S := SH L) (J := J1) (K := K) (R := R1) (b := rb f (Jg 29 1)) hrb
    refine ⟨vi (pcn (rb f (Jg 29 1))), J1, K, R1, J2, K, _, ?_, m1, hi⟩
    simp (disch := first | assumption | omega | exact bi_lo | exact bi_hi | exact bi_01 | exact jcmp_lo | exact jcmp_hi | exact (jor_r _ _).1 | exact (jor_r _ _).2 | exact (jand_r _ _).1 | exact (jand_r _ _).2) only [x118_0, x118_1, x118_4, x118_5, x118_6, x118_9, x118_10, x118_11, x118_12, x118_15, x118_16, x118_19, x118_22, x118_25, x118_26, x118_29, x118_32, x118_33, x118_36, x118_39, x118_40, x118_41, x118_44, x118_45, x118_48, x118_49, x118_52, x118_55, x118_58, x118_59, x118_60, x118_63, x118_64, x118_67, x118_70, x118_73, x118_74, x118_77, x118_78, x118_81, x118_84, x118_87, kb_some, kb_none, clr_vi, clr_ref, clr_null, clr_none, va_rf_some, va_rf_none, ↓bi_ite_t, ↓bi_ite_f, ↓jc_lt_t, ↓jc_lt_f, ↓jc_gt_t, ↓jc_gt_f, ↓jc_le_t, ↓jc_le_f, ↓jc_ge_t, ↓jc_ge_f, ↓jc_eq_t, ↓jc_eq_f, ↓if_pos, ↓if_neg, hct, g1, b1, hbc]
end
