/-! the reference reads a text: leaves -/
section
variable {L d : Nat} {t : Int → Int} {J K : mJ} {R : mm_R} {p x y b : Int}
theorem wd3_ne {a b' c a' b2 c' : Int} (h : wd3 t p a b' c) (hn : a ≠ a' ∨ b' ≠ b2 ∨ c ≠ c') : ¬ wd3 t p a' b2 c' := by
  rintro ⟨q1, q2, q3, q4⟩
  obtain ⟨w1, w2, w3, w4⟩ := h
  omega
theorem mx_head (h : PC t J R p) (hs : ¬ wd3 t p 115 101 116) :
    (wd3 t p 110 117 109 → EE (d + 4) 184 0 [some (.ref 76), none, none] [] (SH L) (st J 0 p) K R = EE (d + 4) 184 185 [some (.ref 76), some (vi 1), some (vi 0)] [] (SH L) (st (tc J 110) 0 (p + 3)) K R) ∧
    (wd3 t p 115 116 114 → EE (d + 4) 184 0 [some (.ref 76), none, none] [] (SH L) (st J 0 p) K R = EE (d + 4) 184 185 [some (.ref 76), some (vi 0), some (vi 1)] [] (SH L) (st (tc J 115) 0 (p + 3)) K R) ∧
    (wd3 t p 114 97 119 → EE (d + 4) 184 0 [some (.ref 76), none, none] [] (SH L) (st J 0 p) K R = EE (d + 4) 184 185 [some (.ref 76), some (vi 0), some (vi 0)] [] (SH L) (st (tc J 114) 0 (p + 3)) K R) ∧
    (¬ wd3 t p 110 117 109 → ¬ wd3 t p 115 116 114 → ¬ wd3 t p 114 97 119 → EE (d + 4) 184 0 [some (.ref 76), none, none] [] (SH L) (st J 0 p) K R = ok (some (vi 0)) (SH L) (st J 1 p) K R) := by
  have hM := h.1
  have hp := h.2.1
  have s76 : (SH L)[76]? = some (11, 58) := rfl
  have hn := hM.2.1
  have w1 := mx_isWord (L := L) (d := d + 1) (b := 0) (K := K) hM hp (a := 115) (b' := 101) (c := 116) (by decide)
  have w2 := mx_isWord (L := L) (d := d + 1) (b := 0) (K := K) hM hp (a := 110) (b' := 117) (c := 109) (by decide)
  have w3 := mx_isWord (L := L) (d := d + 1) (b := 0) (K := K) hM hp (a := 115) (b' := 116) (c := 114) (by decide)
  have w4 := mx_isWord (L := L) (d := d + 1) (b := 0) (K := K) hM hp (a := 114) (b' := 97) (c := 119) (by decide)
  have hc := fun ty (hty : 0 ≤ ty ∧ ty ≤ 255) => mx_comes (L := L) (d := d + 3) (b := 0) (q := p) (K := K) h hty
  have c110 := hc 110 (by decide)
  have c115 := hc 115 (by decide)
  have c114 := hc 114 (by decide)
  rw [bi_f hs] at w1
  refine ⟨fun c => ?_, fun c => ?_, fun c => ?_, fun c c2 c3 => ?_⟩
  · rw [bi_t c] at w2
    rw [bi_f (wd3_ne c (by decide))] at w3
    simp (disch := first | assumption | omega | exact bi_lo | exact bi_hi | exact bi_01 | exact jcmp_lo | exact jcmp_hi | exact (jor_r _ _).1 | exact (jor_r _ _).2 | exact (jand_r _ _).1 | exact (jand_r _ _).2) only [x184_0, x184_1, x184_3, x184_5, x184_7, x184_10, x184_90, x184_91, x184_93, x184_95, x184_97, x184_100, x184_101, x184_102, x184_104, x184_106, x184_108, x184_111, x184_112, x184_113, x184_114, x184_117, x184_118, x184_121, x184_122, x184_124, x184_126, x184_128, x184_131, x184_134, x184_135, x184_138, x184_139, x184_142, x184_143, x184_146, x184_149, x184_150, x184_151, x184_152, x184_153, x184_156, x184_158, x184_161, x184_162, x184_165, x184_167, x184_170, x184_172, x184_175, x184_176, x184_177, x184_180, x184_181, x184_182, kb_some, kb_none, clr_vi, clr_ref, clr_null, clr_none, va_rf_some, va_rf_none, ↓bi_ite_t, ↓bi_ite_f, ↓jc_lt_t, ↓jc_lt_f, ↓jc_gt_t, ↓jc_gt_f, ↓jc_le_t, ↓jc_le_f, ↓jc_ge_t, ↓jc_ge_f, ↓jc_eq_t, ↓jc_eq_f, ↓if_pos, ↓if_neg, w1, w2, w3, st_45, st_44, st_b, st_p, c110]
  · rw [bi_f (wd3_ne c (by decide))] at w2
    rw [bi_t c] at w3
    simp (disch := first | assumption | omega | exact bi_lo | exact bi_hi | exact bi_01 | exact jcmp_lo | exact jcmp_hi | exact (jor_r _ _).1 | exact (jor_r _ _).2 | exact (jand_r _ _).1 | exact (jand_r _ _).2) only [x184_0, x184_1, x184_3, x184_5, x184_7, x184_10, x184_90, x184_91, x184_93, x184_95, x184_97, x184_100, x184_101, x184_102, x184_104, x184_106, x184_108, x184_111, x184_112, x184_113, x184_114, x184_117, x184_118, x184_121, x184_122, x184_124, x184_126, x184_128, x184_131, x184_134, x184_135, x184_138, x184_139, x184_142, x184_143, x184_146, x184_149, x184_150, x184_151, x184_152, x184_153, x184_156, x184_158, x184_161, x184_162, x184_165, x184_167, x184_170, x184_172, x184_175, x184_176, x184_177, x184_180, x184_181, x184_182, kb_some, kb_none, clr_vi, clr_ref, clr_null, clr_none, va_rf_some, va_rf_none, ↓bi_ite_t, ↓bi_ite_f, ↓jc_lt_t, ↓jc_lt_f, ↓jc_gt_t, ↓jc_gt_f, ↓jc_le_t, ↓jc_le_f, ↓jc_ge_t, ↓jc_ge_f, ↓jc_eq_t, ↓jc_eq_f, ↓if_pos, ↓if_neg, w1, w2, w3, st_45, st_44, st_b, st_p, c115]
  · rw [bi_f (wd3_ne c (by decide))] at w2
    rw [bi_f (wd3_ne c (by decide))] at w3
    rw [bi_t c] at w4
    simp (disch := first | assumption | omega | exact bi_lo | exact bi_hi | exact bi_01 | exact jcmp_lo | exact jcmp_hi | exact (jor_r _ _).1 | exact (jor_r _ _).2 | exact (jand_r _ _).1 | exact (jand_r _ _).2) only [x184_0, x184_1, x184_3, x184_5, x184_7, x184_10, x184_90, x184_91, x184_93, x184_95, x184_97, x184_100, x184_101, x184_102, x184_104, x184_106, x184_108, x184_111, x184_112, x184_113, x184_114, x184_117, x184_118, x184_121, x184_122, x184_124, x184_126, x184_128, x184_131, x184_134, x184_135, x184_138, x184_139, x184_142, x184_143, x184_146, x184_149, x184_150, x184_151, x184_152, x184_153, x184_156, x184_158, x184_161, x184_162, x184_165, x184_167, x184_170, x184_172, x184_175, x184_176, x184_177, x184_180, x184_181, x184_182, kb_some, kb_none, clr_vi, clr_ref, clr_null, clr_none, va_rf_some, va_rf_none, ↓bi_ite_t, ↓bi_ite_f, ↓jc_lt_t, ↓jc_lt_f, ↓jc_gt_t, ↓jc_gt_f, ↓jc_le_t, ↓jc_le_f, ↓jc_ge_t, ↓jc_ge_f, ↓jc_eq_t, ↓jc_eq_f, ↓if_pos, ↓if_neg, w1, w2, w3, w4, st_45, st_44, st_b, st_p, c114]
  · rw [bi_f c] at w2
    rw [bi_f c2] at w3
    rw [bi_f c3] at w4
    simp (disch := first | assumption | omega | exact bi_lo | exact bi_hi | exact bi_01 | exact jcmp_lo | exact jcmp_hi | exact (jor_r _ _).1 | exact (jor_r _ _).2 | exact (jand_r _ _).1 | exact (jand_r _ _).2) only [x184_0, x184_1, x184_3, x184_5, x184_7, x184_10, x184_90, x184_91, x184_93, x184_95, x184_97, x184_100, x184_101, x184_102, x184_104, x184_106, x184_108, x184_111, x184_112, x184_113, x184_114, x184_117, x184_118, x184_121, x184_122, x184_124, x184_126, x184_128, x184_131, x184_134, x184_135, x184_138, x184_139, x184_142, x184_143, x184_146, x184_149, x184_150, kb_some, kb_none, clr_vi, clr_ref, clr_null, clr_none, va_rf_some, va_rf_none, ↓bi_ite_t, ↓bi_ite_f, ↓jc_lt_t, ↓jc_lt_f, ↓jc_gt_t, ↓jc_gt_f, ↓jc_le_t, ↓jc_le_f, ↓jc_ge_t, ↓jc_ge_f, ↓jc_eq_t, ↓jc_eq_f, ↓if_pos, ↓if_neg, w1, w2, w3, w4, st_45, st_44, st_b, st_p]
/-- what is said of a leaf -/
def CML (L d : Nat) (t : Int → Int) (K : mJ) (R : mm_R) (D : Nat) (J : mJ) (p : Int) : Prop :=
  match thS t D p (J 76 46).toNat with
  | .error e => ∃ J1, EE (d + 4) 184 0 [some (.ref 76), none, none] [] (SH L) (st J 0 p) K R = ok (some (vi 0)) (SH L) (st J1 1 e) K R ∧ frm AT J J1
  | .ok r => ∃ J1, EE (d + 4) 184 0 [some (.ref 76), none, none] [] (SH L) (st J 0 p) K R = ok (some (vi 0)) (SH L) (st J1 0 r.2.1) K R ∧ PM (D + 1) J J1 ([r.1] : List (Nd D)) r.2.2
theorem tML_frm {l : List Int} (h46 : 0 ≤ J 76 46) : frm AT J (tML J l) := fun a j hj => tML_o h46 (by unfold AT at hj; omega)
theorem PM_row {D : Nat} {ty : Int} {c : List Int} (h : PC t J R p) : PM (D + 1) J (tML (tc J ty) c) ([((ty, (c.length : Nat), ((J 76 46).toNat : Int)), fo0 D)] : List (Nd D)) c := by
  have hc := h.2.2.1
  have hk := h.2.2.2.1
  have e18 : tc J ty 76 18 = J 76 18 + 1 := tc_18
  have e46 : tc J ty 76 46 = J 76 46 := tc_o (by omega) hk.1
  have r2 := (tc_rows (ty := ty) hc.1 hk.1 h.2.2.2.2).2.1
  refine PM_leaf h (frm_trans tc_frm (tML_frm (by omega))) ?_ ?_ (fun a j h1 h2 h3 => ?_) ?_ (fun k hk' => ?_)
  · rw [tML_18, e18]
  · rw [tML_46, e46]
  · exact tML_o (by omega) (by rw [e18, e46, show J 76 18 + 1 - 1 = J 76 18 by omega]; omega)
  · have := tML_87 (J := tc J ty) (l := c)
    rw [e18, show J 76 18 + 1 - 1 = J 76 18 by omega, r2] at this
    rw [this]; omega
  · have := tML_102 (J := tc J ty) (l := c) (by omega) k hk'
    rw [e46] at this; exact this
theorem PM_num {D : Nat} {w : Int} (h : PC t J R p) : PM (D + 1) J (mm_up (tc J 110) 87 (J 76 18).toNat w) ([((110, w, ((J 76 46).toNat : Int)), fo0 D)] : List (Nd D)) [] := by
  have hk := h.2.2.2.1
  have e18 : tc J 110 76 18 = J 76 18 + 1 := tc_18
  have e46 : tc J 110 76 46 = J 76 46 := tc_o (by omega) hk.1
  refine PM_leaf h (frm_up tc_frm (by unfold AT; omega)) ?_ ?_ (fun a j h1 h2 h3 => ?_) up_s (fun k hk' => by simp at hk')
  · rw [up_ne (by decide), e18]
  · rw [up_ne (by decide), e46]; simp
  · unfold mm_up; rw [if_neg (by omega)]
theorem mx_leaf {D : Nat} (h : PC t J R p) (hs : ¬ wd3 t p 115 101 116) : CML L d t K R D J p := by
  obtain ⟨g1, g2, g3, g4⟩ := mx_head (L := L) (d := d) (K := K) h hs
  have hM := h.1
  have hN := MT_N hM
  have hp := h.2.1
  have hn := hM.2.1
  have hc := h.2.2.1
  have hk := h.2.2.2.1
  have s76 : (SH L)[76]? = some (11, 58) := rfl
  have e18 : ∀ ty, tc J ty 76 18 = J 76 18 + 1 := fun ty => tc_18
  have e43 : ∀ ty, tc J ty 76 43 = J 76 43 := fun ty => tc_o (by omega) hk.1
  have e46 : ∀ ty, tc J ty 76 46 = J 76 46 := fun ty => tc_o (by omega) hk.1
  have erow : ∀ ty, (tc J ty 76 18 - 1).toNat = (J 76 18).toNat := fun ty => by rw [e18]; congr 1; omega
  have r2 := fun ty => (tc_rows (ty := ty) hc.1 hk.1 h.2.2.2.2).2.1
  have hMt : ∀ ty, MT t (tc J ty) R := fun ty => MT_frm hM tc_frm
  have hw := fun ty (hq : p + 3 ≤ J 76 43) => mx_wants (L := L) (d := d + 2) (K := K) (hMt ty) (p := p + 3) (y := 32) (by rw [e43]; omega) (by decide)
  have bad : ∀ (ty : Int), ty = ty := fun _ => rfl
  unfold CML
  unfold thS
  by_cases c1 : wd3 t p 110 117 109
  · rw [if_pos c1]
    have hlt := wd3_lt hN c1 (by decide)
    have hw1 := hw 110 hlt
    rw [show p + 3 + 1 = p + 4 by omega] at hw1
    by_cases c4 : t (p + 3) ≠ 32
    · rw [if_pos c4]
      rw [if_neg c4] at hw1
      have hnu := mx_number1 (L := L) (d := d + 1) (K := K) (p := p + 3) (hMt 110) (by rw [e18]; omega)
      rw [erow] at hnu
      refine ⟨mm_up (tc J 110) 87 (J 76 18).toNat 0, (g1 c1).trans ?_, frm_up tc_frm (by unfold AT; omega)⟩
      simp (disch := first | assumption | omega | exact bi_lo | exact bi_hi | exact bi_01 | exact jcmp_lo | exact jcmp_hi | exact (jor_r _ _).1 | exact (jor_r _ _).2 | exact (jand_r _ _).1 | exact (jand_r _ _).2) only [x184_185, x184_186, x184_188, x184_191, x184_192, x184_195, x184_196, x184_199, x184_217, x184_218, kb_some, kb_none, clr_vi, clr_ref, clr_null, clr_none, va_rf_some, va_rf_none, ↓bi_ite_t, ↓bi_ite_f, ↓jc_lt_t, ↓jc_lt_f, ↓jc_gt_t, ↓jc_gt_f, ↓jc_le_t, ↓jc_le_f, ↓jc_ge_t, ↓jc_ge_f, ↓jc_eq_t, ↓jc_eq_f, ↓if_pos, ↓if_neg, hw1, hnu]
    rw [if_neg c4]
    have c4' : t (p + 3) = 32 := by omega
    rw [if_pos c4'] at hw1
    have h3 := TN_lt hN c4' (by omega)
    have hnu := mx_number (L := L) (d := d + 1) (K := K) (p := p + 4) (hMt 110) (by rw [e43]; omega) (by rw [e18]; omega)
    rw [erow] at hnu
    generalize hp2 : p + 4 + (if t (p + 4) = 45 then 1 else 0) = p2 at *
    by_cases c5 : isD (t p2)
    · rw [if_pos c5] at hnu ⊢
      simp only
      refine ⟨_, (g1 c1).trans ?_, PM_num h⟩
      simp (disch := first | assumption | omega | exact bi_lo | exact bi_hi | exact bi_01 | exact jcmp_lo | exact jcmp_hi | exact (jor_r _ _).1 | exact (jor_r _ _).2 | exact (jand_r _ _).1 | exact (jand_r _ _).2) only [x184_185, x184_186, x184_188, x184_191, x184_192, x184_195, x184_196, x184_199, x184_217, x184_218, kb_some, kb_none, clr_vi, clr_ref, clr_null, clr_none, va_rf_some, va_rf_none, ↓bi_ite_t, ↓bi_ite_f, ↓jc_lt_t, ↓jc_lt_f, ↓jc_gt_t, ↓jc_gt_f, ↓jc_le_t, ↓jc_le_f, ↓jc_ge_t, ↓jc_ge_f, ↓jc_eq_t, ↓jc_eq_f, ↓if_pos, ↓if_neg, hw1, hnu]
    · rw [if_neg c5] at hnu ⊢
      simp only
      refine ⟨mm_up (tc J 110) 87 (J 76 18).toNat 0, (g1 c1).trans ?_, frm_up tc_frm (by unfold AT; omega)⟩
      simp (disch := first | assumption | omega | exact bi_lo | exact bi_hi | exact bi_01 | exact jcmp_lo | exact jcmp_hi | exact (jor_r _ _).1 | exact (jor_r _ _).2 | exact (jand_r _ _).1 | exact (jand_r _ _).2) only [x184_185, x184_186, x184_188, x184_191, x184_192, x184_195, x184_196, x184_199, x184_217, x184_218, kb_some, kb_none, clr_vi, clr_ref, clr_null, clr_none, va_rf_some, va_rf_none, ↓bi_ite_t, ↓bi_ite_f, ↓jc_lt_t, ↓jc_lt_f, ↓jc_gt_t, ↓jc_gt_f, ↓jc_le_t, ↓jc_le_f, ↓jc_ge_t, ↓jc_ge_f, ↓jc_eq_t, ↓jc_eq_f, ↓if_pos, ↓if_neg, hw1, hnu]
  rw [if_neg c1]
  by_cases c2 : wd3 t p 115 116 114
  · rw [if_pos c2]
    have hlt := wd3_lt hN c2 (by decide)
    have hw1 := hw 115 hlt
    rw [show p + 3 + 1 = p + 4 by omega] at hw1
    by_cases c4 : t (p + 3) ≠ 32
    · rw [if_pos c4]
      rw [if_neg c4] at hw1
      have hnu := mx_letters1 (L := L) (d := d + 1) (J := tc J 115) (K := K) (R := R) (p := p + 3)
      refine ⟨tc J 115, (g2 c2).trans ?_, tc_frm⟩
      simp (disch := first | assumption | omega | exact bi_lo | exact bi_hi | exact bi_01 | exact jcmp_lo | exact jcmp_hi | exact (jor_r _ _).1 | exact (jor_r _ _).2 | exact (jand_r _ _).1 | exact (jand_r _ _).2) only [x184_185, x184_186, x184_188, x184_191, x184_192, x184_195, x184_196, x184_199, x184_202, x184_203, x184_206, x184_207, x184_210, x184_217, x184_218, kb_some, kb_none, clr_vi, clr_ref, clr_null, clr_none, va_rf_some, va_rf_none, ↓bi_ite_t, ↓bi_ite_f, ↓jc_lt_t, ↓jc_lt_f, ↓jc_gt_t, ↓jc_gt_f, ↓jc_le_t, ↓jc_le_f, ↓jc_ge_t, ↓jc_ge_f, ↓jc_eq_t, ↓jc_eq_f, ↓if_pos, ↓if_neg, hw1, hnu]
    rw [if_neg c4]
    have c4' : t (p + 3) = 32 := by omega
    rw [if_pos c4'] at hw1
    have h3 := TN_lt hN c4' (by omega)
    have hl := l_mletters (L := L) (d := d + 1) (K := K) (hMt 115) (by rw [e18]; omega) (by rw [e46]; omega) 20 0 (p + 4) [] rfl (by omega) (by omega) (by rw [e43]; omega) (by rw [e46]; simp; omega)
    have e0 : tML (tc J 115) [] = tc J 115 := rfl
    rw [e0, List.nil_append] at hl
    have hnu : EE (d + 3) 181 0 [some (.ref 76), none] [] (SH L) (st (tc J 115) 0 (p + 4)) K R = ok none (SH L) (st (tML (tc J 115) (rowL t (lc t 20 (p + 4)) (p + 4))) 0 (p + 4 + (lc t 20 (p + 4) : Nat))) K R := by
      rw [← hl]
      simp (disch := first | assumption | omega | exact bi_lo | exact bi_hi | exact bi_01 | exact jcmp_lo | exact jcmp_hi | exact (jor_r _ _).1 | exact (jor_r _ _).2 | exact (jand_r _ _).1 | exact (jand_r _ _).2) only [x181_0, x181_1, kb_some, kb_none, clr_vi, clr_ref, clr_null, clr_none, va_rf_some, va_rf_none]
    have hpm := PM_row (D := D) (ty := 115) (c := rowL t (lc t 20 (p + 4)) (p + 4)) h
    rw [rowL_len] at hpm
    refine ⟨_, (g2 c2).trans ?_, hpm⟩
    simp only
    simp (disch := first | assumption | omega | exact bi_lo | exact bi_hi | exact bi_01 | exact jcmp_lo | exact jcmp_hi | exact (jor_r _ _).1 | exact (jor_r _ _).2 | exact (jand_r _ _).1 | exact (jand_r _ _).2) only [x184_185, x184_186, x184_188, x184_191, x184_192, x184_195, x184_196, x184_199, x184_202, x184_203, x184_206, x184_207, x184_210, x184_217, x184_218, kb_some, kb_none, clr_vi, clr_ref, clr_null, clr_none, va_rf_some, va_rf_none, ↓bi_ite_t, ↓bi_ite_f, ↓jc_lt_t, ↓jc_lt_f, ↓jc_gt_t, ↓jc_gt_f, ↓jc_le_t, ↓jc_le_f, ↓jc_ge_t, ↓jc_ge_f, ↓jc_eq_t, ↓jc_eq_f, ↓if_pos, ↓if_neg, hw1, hnu]
  rw [if_neg c2]
  by_cases c3 : wd3 t p 114 97 119
  · rw [if_pos c3]
    have hlt := wd3_lt hN c3 (by decide)
    have hw1 := hw 114 hlt
    rw [show p + 3 + 1 = p + 4 by omega] at hw1
    by_cases c4 : t (p + 3) ≠ 32
    · rw [if_pos c4]
      rw [if_neg c4] at hw1
      have hnu := mx_bytes1 (L := L) (d := d) (J := tc J 114) (K := K) (R := R) (p := p + 3)
      refine ⟨tc J 114, (g3 c3).trans ?_, tc_frm⟩
      simp (disch := first | assumption | omega | exact bi_lo | exact bi_hi | exact bi_01 | exact jcmp_lo | exact jcmp_hi | exact (jor_r _ _).1 | exact (jor_r _ _).2 | exact (jand_r _ _).1 | exact (jand_r _ _).2) only [x184_185, x184_186, x184_188, x184_191, x184_192, x184_195, x184_196, x184_199, x184_202, x184_203, x184_206, x184_207, x184_210, x184_213, x184_214, x184_217, x184_218, kb_some, kb_none, clr_vi, clr_ref, clr_null, clr_none, va_rf_some, va_rf_none, ↓bi_ite_t, ↓bi_ite_f, ↓jc_lt_t, ↓jc_lt_f, ↓jc_gt_t, ↓jc_gt_f, ↓jc_le_t, ↓jc_le_f, ↓jc_ge_t, ↓jc_ge_f, ↓jc_eq_t, ↓jc_eq_f, ↓if_pos, ↓if_neg, hw1, hnu]
    rw [if_neg c4]
    have c4' : t (p + 3) = 32 := by omega
    rw [if_pos c4'] at hw1
    have h3 := TN_lt hN c4' (by omega)
    have hl := mx_bytes (L := L) (d := d) (K := K) (p := p + 4) (hMt 114) (by rw [e43]; omega) (by rw [e18]; omega) (by rw [e46]; omega) (by rw [erow, r2])
    by_cases c5 : isD (t (p + 4))
    · rw [if_pos c5] at hl ⊢
      cases hq : rwF t 19 (p + 4) with
      | error e =>
        rw [hq] at hl
        obtain ⟨l', hl⟩ := hl
        refine ⟨tML (tc J 114) l', (g3 c3).trans ?_, frm_trans tc_frm (tML_frm (by rw [e46]; omega))⟩
        simp (disch := first | assumption | omega | exact bi_lo | exact bi_hi | exact bi_01 | exact jcmp_lo | exact jcmp_hi | exact (jor_r _ _).1 | exact (jor_r _ _).2 | exact (jand_r _ _).1 | exact (jand_r _ _).2) only [x184_185, x184_186, x184_188, x184_191, x184_192, x184_195, x184_196, x184_199, x184_202, x184_203, x184_206, x184_207, x184_210, x184_213, x184_214, x184_217, x184_218, kb_some, kb_none, clr_vi, clr_ref, clr_null, clr_none, va_rf_some, va_rf_none, ↓bi_ite_t, ↓bi_ite_f, ↓jc_lt_t, ↓jc_lt_f, ↓jc_gt_t, ↓jc_gt_f, ↓jc_le_t, ↓jc_le_f, ↓jc_ge_t, ↓jc_ge_f, ↓jc_eq_t, ↓jc_eq_f, ↓if_pos, ↓if_neg, hw1, hl]
      | ok s =>
        rw [hq] at hl
        simp only at hl ⊢
        refine ⟨_, (g3 c3).trans ?_, PM_row h⟩
        simp (disch := first | assumption | omega | exact bi_lo | exact bi_hi | exact bi_01 | exact jcmp_lo | exact jcmp_hi | exact (jor_r _ _).1 | exact (jor_r _ _).2 | exact (jand_r _ _).1 | exact (jand_r _ _).2) only [x184_185, x184_186, x184_188, x184_191, x184_192, x184_195, x184_196, x184_199, x184_202, x184_203, x184_206, x184_207, x184_210, x184_213, x184_214, x184_217, x184_218, kb_some, kb_none, clr_vi, clr_ref, clr_null, clr_none, va_rf_some, va_rf_none, ↓bi_ite_t, ↓bi_ite_f, ↓jc_lt_t, ↓jc_lt_f, ↓jc_gt_t, ↓jc_gt_f, ↓jc_le_t, ↓jc_le_f, ↓jc_ge_t, ↓jc_ge_f, ↓jc_eq_t, ↓jc_eq_f, ↓if_pos, ↓if_neg, hw1, hl]
    · rw [if_neg c5] at hl ⊢
      refine ⟨_, (g3 c3).trans ?_, PM_row (c := []) h⟩
      simp only
      simp (disch := first | assumption | omega | exact bi_lo | exact bi_hi | exact bi_01 | exact jcmp_lo | exact jcmp_hi | exact (jor_r _ _).1 | exact (jor_r _ _).2 | exact (jand_r _ _).1 | exact (jand_r _ _).2) only [x184_185, x184_186, x184_188, x184_191, x184_192, x184_195, x184_196, x184_199, x184_202, x184_203, x184_206, x184_207, x184_210, x184_213, x184_214, x184_217, x184_218, kb_some, kb_none, clr_vi, clr_ref, clr_null, clr_none, va_rf_some, va_rf_none, ↓bi_ite_t, ↓bi_ite_f, ↓jc_lt_t, ↓jc_lt_f, ↓jc_gt_t, ↓jc_gt_f, ↓jc_le_t, ↓jc_le_f, ↓jc_ge_t, ↓jc_ge_f, ↓jc_eq_t, ↓jc_eq_f, ↓if_pos, ↓if_neg, hw1, hl]
      rfl
  rw [if_neg c3, if_neg hs]
  exact ⟨J, (g4 c1 c2 c3), frm_refl⟩
end
