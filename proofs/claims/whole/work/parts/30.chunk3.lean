theorem ckf_r {v : Int} {g : Int → Int} : ∀ (i : Nat) (p c : Int), 0 ≤ c → c ≤ 255 → 0 ≤ ckf v g i p c ∧ ckf v g i p c ≤ 255 := by
  intro i
  induction i with
  | zero => intro p c h1 h2; exact ⟨h1, h2⟩
  | succ i ih =>
    intro p c h1 h2
    refine ih (p + 1) (ckS v c (g p)) ?_ ?_
    · unfold ckS; repeat' split
      all_goals omega
    · unfold ckS; repeat' split
      all_goals omega
section
variable {L d e c : Nat} {f : Int → Int} {ver : Int} {K : mJ} {R : mm_R}
theorem cT_leaf {D : Nat} {a : Da} {J' : mJ} {i : Nat} (h : cN f (J' 42 1) (J' 37) (J' 38) (J' 39) (J' 40) (J' 41) (J' 43) (3 - (D : Int)) a 0 i) : cT f J' D (a, fo0 D) i := by
  refine ⟨?_, cF_0⟩
  show cN f (J' 42 1) (J' 37) (J' 38) (J' 39) (J' 40) (J' 41) (J' 43) (3 - (D : Int)) a (fsz D (fo0 D)) i
  rw [fsz_0]; exact h
theorem rd_fault {D : Nat} {J : mJ} {w p : Int} (h : RD L e c f ver J R) (h32 : 0 ≤ J 32 3 ∧ J 32 3 ≤ 6) {l : Int} :
    wp (SH L) (EE d 11 0 [some (.ref 32), some (vi w), some (vi l), some (vi p)] [] (SH L) J K R) fun v J' K' R' => v = some (vi 0) ∧ K' = K ∧ R' = R ∧ CP D f J (.error [(w, l, p)]) (some (vi 0)) J' := by
  refine wp_mono (rd_raise (d := d) (K := K) (L := L) (J := J) h.1 h32 h.2.2.2.2.2.2.2.2.1 h.2.2.2.2.2.2.2.2.2) ?_
  rintro v J' K' R' ⟨q1, q2, q3, q4, q5, q6, q7⟩
  exact ⟨q1, q2, q3, q4, rfl, fun hf => q7 [] (by simp) hf⟩
theorem rd_chunk1 (D : Nat) (hD : D ≤ 3) (hv : 1 ≤ ver ∧ ver ≤ 3) (hg : ∀ D', D = D' + 1 → CH L d e c f ver K R D') : CH L d e c f ver K R D := by
  intro J tp lp pl h h32 htp hlp hpl hf0 hen
  have hR := h.1
  have hs := h.2.1
  have hB := h.2.2.1.1
  have h36 := h.2.2.2.2.2.2.2.2.1
  have h42 := h.2.2.2.2.2.2.2.2.2
  have hn1 := h.2.2.2.2.1
  have hver := h.2.2.2.2.2.2.2.1
  have hbf := h.2.2.2.2.2.2.1
  have s31 : (SH L)[31]? = some (2, 5) := rfl; have r31_0 : R 31 0 = some 32 := rr_lk hR rfl; have r31_1 : R 31 1 = some 36 := rr_lk hR rfl; have s32 : (SH L)[32]? = some (1, 4) := rfl; have r32_0 : R 32 0 = some 33 := rr_lk hR rfl; have r32_1 : R 32 1 = some 34 := rr_lk hR rfl; have r32_2 : R 32 2 = some 35 := rr_lk hR rfl; have s36 : (SH L)[36]? = some (9, 7) := rfl; have r36_0 : R 36 0 = some 37 := rr_lk hR rfl; have r36_1 : R 36 1 = some 38 := rr_lk hR rfl; have r36_2 : R 36 2 = some 39 := rr_lk hR rfl; have r36_3 : R 36 3 = some 40 := rr_lk hR rfl; have r36_4 : R 36 4 = some 41 := rr_lk hR rfl; have r36_5 : R 36 5 = some 42 := rr_lk hR rfl
  have hfl := RD_f h lp
  have hft := RD_f h tp
  have hfe := RD_f h (pl + f lp)
  have ha1 := RD_at (d := d + 2 * D + 2) (K := K) h lp (by omega)
  have ha2 := RD_at (d := d + 2 * D + 2) (K := K) h (pl + f lp) (by omega)
  have ha3 := RD_at (d := d + 2 * D + 2) (K := K) h tp (by omega)
  have hck := c_checkBy (d := d + 2 * D + 1) (K := K) h.2.2.1 hn1 (v := ver) (p := pl) (m := f lp) (by omega) (by omega) (by omega)
  rw [hbf] at hck
  have hcr := ckf_r (v := ver) (g := f) (f lp).toNat pl 0 (by omega) (by omega)
  have hro := fun ty hty => rd_takesRow (d := d + 2 * D) (K := K) h h32 (ty := ty) (pl := pl) (n := f lp) (layer := 5 - (D : Int)) hty (by omega)
  have hnu := rd_takesNumber (d := d + 2 * D) (K := K) h h32 (pl := pl) (n := f lp) (layer := 5 - (D : Int)) (by omega)
  have hfa := fun w p => rd_fault (d := d + 2 * D + 2) (D := D) (K := K) (w := w) (p := p) (l := 5 - (D : Int)) h h32
  have e32 : (5 : Int) - (D : Int) - 2 = 3 - (D : Int) := by omega
  rw [e32] at hnu
  rw [e32] at hro
  unfold chk
  simp only
  by_cases c1 : ckf ver f (f lp).toNat pl 0 = f (pl + f lp)
  · rw [if_neg (not_not_intro c1)]
    by_cases t1 : f tp = 110
    · rw [if_pos t1]
      rw [t1] at ha3
      by_cases n1 : 1 ≤ f lp ∧ f lp ≤ 4
      · rw [if_pos n1]
        simp (disch := first | assumption | omega | exact bi_lo | exact bi_hi | exact bi_01 | exact jcmp_lo | exact jcmp_hi | exact (jor_r _ _).1 | exact (jor_r _ _).2 | exact (jand_r _ _).1 | exact (jand_r _ _).2) only [x30_0, x30_1, x30_4, x30_5, x30_8, x30_10, x30_11, x30_13, x30_14, x30_16, x30_17, x30_20, x30_21, x30_24, x30_25, x30_27, x30_30, x30_31, x30_34, x30_36, x30_39, x30_55, x30_56, x30_59, x30_60, x30_63, x30_65, x30_67_110, x30_108, x30_110, x30_111, x30_114, x30_116, x30_117, x30_120, x30_121, x30_122, x30_124, x30_126, kb_some, kb_none, clr_vi, clr_ref, clr_null, clr_none, va_rf_some, va_rf_none, hs, hver, ha1, ha2, ha3, hck, if_pos c1, if_neg (show ¬ f lp < 1 by omega), if_neg (show ¬ 4 < f lp by omega)]
        refine wp_kb (hnu n1) ?_
        rintro v J1 K1 R1 ⟨rfl, q2, q3, q4, q5, q6⟩
        simp (disch := first | assumption | omega | exact bi_lo | exact bi_hi | exact bi_01 | exact jcmp_lo | exact jcmp_hi | exact (jor_r _ _).1 | exact (jor_r _ _).2 | exact (jand_r _ _).1 | exact (jand_r _ _).2) only [x30_129, x30_132, x30_133, x30_136, x30_138, x30_140, x30_141, x30_144, kb_some, kb_none, clr_vi, clr_ref, clr_null, clr_none, va_rf_some, va_rf_none]
        refine wp_ok ⟨q2, q3, q4, rfl, q5, ?_⟩
        intro g1 g2
        rw [fsz_0] at g1 ⊢
        rw [fby_0] at g2 ⊢
        obtain ⟨b1, b2, b3⟩ := q6 (by omega)
        exact ⟨cT_leaf b1, by rw [b2]; rfl, by rw [b3]; show J 42 1 = J 42 1 + ((0 + 0 : Nat) : Int); omega⟩
      · rw [if_neg n1]
        have fin : wp (SH L) (kb (EE (d + 2 * D + 2) 11 0 [some (.ref 32), some (vi 7), some (vi (5 - (D : Int))), some (vi lp)] [] (SH L) J K R) (d + 2 * D + 2) 30 144 [some (.ref 31), some (vi tp), some (vi lp), some (vi pl), some (vi (5 - (D : Int))), some (vi (f lp)), some (vi (pl + f lp)), some (vi 110)] []) fun v J' K' R' => K' = K ∧ R' = R ∧ CP D f J (.error [(7, 5 - (D : Int), lp)]) v J' := by
          refine wp_kb (hfa _ _) ?_
          rintro v J1 K1 R1 ⟨rfl, q2, q3, q4⟩
          simp (disch := first | assumption | omega | exact bi_lo | exact bi_hi | exact bi_01 | exact jcmp_lo | exact jcmp_hi | exact (jor_r _ _).1 | exact (jor_r _ _).2 | exact (jand_r _ _).1 | exact (jand_r _ _).2) only [x30_144, kb_some, kb_none, clr_vi, clr_ref, clr_null, clr_none, va_rf_some, va_rf_none]
          exact wp_ok ⟨q2, q3, q4⟩
        by_cases n2 : f lp < 1
        · simp (disch := first | assumption | omega | exact bi_lo | exact bi_hi | exact bi_01 | exact jcmp_lo | exact jcmp_hi | exact (jor_r _ _).1 | exact (jor_r _ _).2 | exact (jand_r _ _).1 | exact (jand_r _ _).2) only [x30_0, x30_1, x30_4, x30_5, x30_8, x30_10, x30_11, x30_13, x30_14, x30_16, x30_17, x30_20, x30_21, x30_24, x30_25, x30_27, x30_30, x30_31, x30_34, x30_36, x30_39, x30_55, x30_56, x30_59, x30_60, x30_63, x30_65, x30_67_110, x30_108, x30_110, x30_111, x30_114, x30_116, x30_117, x30_120, x30_121, x30_122, x30_124, x30_126, x30_129, x30_132, x30_133, x30_136, x30_138, x30_140, x30_141, kb_some, kb_none, clr_vi, clr_ref, clr_null, clr_none, va_rf_some, va_rf_none, hs, hver, ha1, ha2, ha3, hck, if_pos c1, if_pos n2]
          exact fin
        · simp (disch := first | assumption | omega | exact bi_lo | exact bi_hi | exact bi_01 | exact jcmp_lo | exact jcmp_hi | exact (jor_r _ _).1 | exact (jor_r _ _).2 | exact (jand_r _ _).1 | exact (jand_r _ _).2) only [x30_0, x30_1, x30_4, x30_5, x30_8, x30_10, x30_11, x30_13, x30_14, x30_16, x30_17, x30_20, x30_21, x30_24, x30_25, x30_27, x30_30, x30_31, x30_34, x30_36, x30_39, x30_55, x30_56, x30_59, x30_60, x30_63, x30_65, x30_67_110, x30_108, x30_110, x30_111, x30_114, x30_116, x30_117, x30_120, x30_121, x30_122, x30_124, x30_126, x30_129, x30_132, x30_133, x30_136, x30_138, x30_140, x30_141, kb_some, kb_none, clr_vi, clr_ref, clr_null, clr_none, va_rf_some, va_rf_none, hs, hver, ha1, ha2, ha3, hck, if_pos c1, if_neg n2, if_pos (show 4 < f lp by omega)]
          exact fin
    · rw [if_neg t1]
      by_cases t2 : f tp = 115 ∨ f tp = 114
      · rw [if_pos t2]
        have hsw : ∀ ls r, EE (d + 2 * D + 3) 30 67 ls (vi (f tp) :: r) (SH L) J K R = EE (d + 2 * D + 3) 30 145 ls r (SH L) J K R := by
          intro ls r
          rcases t2 with e1 | e1
          · rw [e1]; exact x30_67_115
          · rw [e1]; exact x30_67_114
        by_cases n1 : 20 < f lp
        · rw [if_pos n1]
          simp (disch := first | assumption | omega | exact bi_lo | exact bi_hi | exact bi_01 | exact jcmp_lo | exact jcmp_hi | exact (jor_r _ _).1 | exact (jor_r _ _).2 | exact (jand_r _ _).1 | exact (jand_r _ _).2) only [x30_0, x30_1, x30_4, x30_5, x30_8, x30_10, x30_11, x30_13, x30_14, x30_16, x30_17, x30_20, x30_21, x30_24, x30_25, x30_27, x30_30, x30_31, x30_34, x30_36, x30_39, x30_55, x30_56, x30_59, x30_60, x30_63, x30_65, hsw, x30_145, x30_147, x30_149, x30_152, x30_153, x30_155, x30_156, x30_158, x30_160, x30_163, x30_166, x30_167, x30_170, x30_172, x30_174, x30_175, kb_some, kb_none, clr_vi, clr_ref, clr_null, clr_none, va_rf_some, va_rf_none, hs, hver, ha1, ha2, ha3, hck, if_pos c1, if_pos n1]
          refine wp_kb (hfa _ _) ?_
          rintro v J1 K1 R1 ⟨rfl, q2, q3, q4⟩
          simp (disch := first | assumption | omega | exact bi_lo | exact bi_hi | exact bi_01 | exact jcmp_lo | exact jcmp_hi | exact (jor_r _ _).1 | exact (jor_r _ _).2 | exact (jand_r _ _).1 | exact (jand_r _ _).2) only [x30_178, kb_some, kb_none, clr_vi, clr_ref, clr_null, clr_none, va_rf_some, va_rf_none]
          exact wp_ok ⟨q2, q3, q4⟩
        · rw [if_neg n1]
          simp (disch := first | assumption | omega | exact bi_lo | exact bi_hi | exact bi_01 | exact jcmp_lo | exact jcmp_hi | exact (jor_r _ _).1 | exact (jor_r _ _).2 | exact (jand_r _ _).1 | exact (jand_r _ _).2) only [x30_0, x30_1, x30_4, x30_5, x30_8, x30_10, x30_11, x30_13, x30_14, x30_16, x30_17, x30_20, x30_21, x30_24, x30_25, x30_27, x30_30, x30_31, x30_34, x30_36, x30_39, x30_55, x30_56, x30_59, x30_60, x30_63, x30_65, hsw, x30_145, x30_147, x30_149, x30_152, x30_153, x30_155, x30_156, x30_158, x30_160, kb_some, kb_none, clr_vi, clr_ref, clr_null, clr_none, va_rf_some, va_rf_none, hs, hver, ha1, ha2, ha3, hck, if_pos c1, if_neg n1]
          refine wp_kb (hro (f tp) t2 (by omega)) ?_
          rintro v J1 K1 R1 ⟨rfl, rfl, q3, q4⟩
          by_cases hb : f tp = 115 ∧ badW f (f lp).toNat pl ≠ -1
          · rw [if_pos hb] at q4 ⊢
            obtain ⟨rfl, q5⟩ := q4
            simp (disch := first | assumption | omega | exact bi_lo | exact bi_hi | exact bi_01 | exact jcmp_lo | exact jcmp_hi | exact (jor_r _ _).1 | exact (jor_r _ _).2 | exact (jand_r _ _).1 | exact (jand_r _ _).2) only [x30_163, x30_166, x30_167, x30_170, x30_172, x30_174, x30_175, x30_178, kb_some, kb_none, clr_vi, clr_ref, clr_null, clr_none, va_rf_some, va_rf_none]
            exact wp_ok ⟨rfl, rfl, q3, rfl, fun hf => q5 [] (by simp) hf⟩
          · rw [if_neg hb] at q4 ⊢
            obtain ⟨rfl, q5, q6⟩ := q4
            simp (disch := first | assumption | omega | exact bi_lo | exact bi_hi | exact bi_01 | exact jcmp_lo | exact jcmp_hi | exact (jor_r _ _).1 | exact (jor_r _ _).2 | exact (jand_r _ _).1 | exact (jand_r _ _).2) only [x30_163, x30_166, x30_167, x30_170, x30_172, x30_174, x30_175, x30_178, kb_some, kb_none, clr_vi, clr_ref, clr_null, clr_none, va_rf_some, va_rf_none]
            refine wp_ok ⟨rfl, rfl, q3, rfl, q5, ?_⟩
            have hby : byN (f tp, f lp, pl) = (f lp).toNat := if_pos t2
            intro g1 g2
            have g1' : J 36 6 + ((1 + fsz D (fo0 D) : Nat) : Int) ≤ 40 := g1
            have g2' : J 42 1 + ((byN (f tp, f lp, pl) + fby D (fo0 D) : Nat) : Int) ≤ 120 := g2
            rw [fsz_0] at g1'
            rw [fby_0, hby] at g2'
            obtain ⟨b1, b2, b3⟩ := q6 (by omega) (by omega)
            refine ⟨cT_leaf b1, ?_, ?_⟩
            · show J1 36 6 = J 36 6 + ((1 + fsz D (fo0 D) : Nat) : Int)
              rw [fsz_0]; omega
            · show J1 42 1 = J 42 1 + ((byN (f tp, f lp, pl) + fby D (fo0 D) : Nat) : Int)
              rw [fby_0, hby]; omega
      · rw [if_neg t2]
        by_cases t3 : f tp = 103
        · rw [if_pos t3]
          rw [t3] at ha3
          cases D with
          | zero =>
            simp only
            simp (disch := first | assumption | omega | exact bi_lo | exact bi_hi | exact bi_01 | exact jcmp_lo | exact jcmp_hi | exact (jor_r _ _).1 | exact (jor_r _ _).2 | exact (jand_r _ _).1 | exact (jand_r _ _).2) only [x30_0, x30_1, x30_4, x30_5, x30_8, x30_10, x30_11, x30_13, x30_14, x30_16, x30_17, x30_20, x30_21, x30_24, x30_25, x30_27, x30_30, x30_31, x30_34, x30_36, x30_39, x30_55, x30_56, x30_59, x30_60, x30_63, x30_65, x30_67_103, x30_179, x30_181, x30_182, x30_185, x30_186, x30_187, x30_189, x30_191, x30_194, x30_197, x30_198, x30_201, x30_203, x30_205, x30_206, kb_some, kb_none, clr_vi, clr_ref, clr_null, clr_none, va_rf_some, va_rf_none, hs, hver, ha1, ha2, ha3, hck, if_pos c1, if_pos (show (5 : Int) ≤ 5 - ((0 : Nat) : Int) by omega)]
            refine wp_kb (hfa _ _) ?_
            rintro v J1 K1 R1 ⟨rfl, q2, q3, q4⟩
            simp (disch := first | assumption | omega | exact bi_lo | exact bi_hi | exact bi_01 | exact jcmp_lo | exact jcmp_hi | exact (jor_r _ _).1 | exact (jor_r _ _).2 | exact (jand_r _ _).1 | exact (jand_r _ _).2) only [x30_209, kb_some, kb_none, clr_vi, clr_ref, clr_null, clr_none, va_rf_some, va_rf_none]
            exact wp_ok ⟨q2, q3, q4⟩
          | succ D' =>
            simp only
            have hgr := rd_group (hg D' rfl) (layer := 5 - ((D' + 1 : Nat) : Int)) (by omega) (by omega) h h32 hpl hf0 hen
            simp (disch := first | assumption | omega | exact bi_lo | exact bi_hi | exact bi_01 | exact jcmp_lo | exact jcmp_hi | exact (jor_r _ _).1 | exact (jor_r _ _).2 | exact (jand_r _ _).1 | exact (jand_r _ _).2) only [x30_0, x30_1, x30_4, x30_5, x30_8, x30_10, x30_11, x30_13, x30_14, x30_16, x30_17, x30_20, x30_21, x30_24, x30_25, x30_27, x30_30, x30_31, x30_34, x30_36, x30_39, x30_55, x30_56, x30_59, x30_60, x30_63, x30_65, x30_67_103, x30_179, x30_181, x30_182, x30_185, x30_186, x30_187, x30_189, x30_191, kb_some, kb_none, clr_vi, clr_ref, clr_null, clr_none, va_rf_some, va_rf_none, hs, hver, ha1, ha2, ha3, hck, if_pos c1, if_neg (show ¬ (5 : Int) ≤ 5 - ((D' + 1 : Nat) : Int) by omega)]
            refine wp_kb hgr ?_
            rintro v J1 K1 R1 ⟨rfl, rfl, q3⟩
            have hv01 : v = some (vi 0) ∨ v = some (vi 1) := by
              revert q3
              generalize grp f (chk f ver D') (5 - ((D' + 1 : Nat) : Int)) (pl + f lp) pl 6 pl = rr
              cases rr with
              | error e' => exact fun q => Or.inl q.2.1
              | ok l => exact fun q => Or.inr q.2.1
            rcases hv01 with rfl | rfl
            · simp (disch := first | assumption | omega | exact bi_lo | exact bi_hi | exact bi_01 | exact jcmp_lo | exact jcmp_hi | exact (jor_r _ _).1 | exact (jor_r _ _).2 | exact (jand_r _ _).1 | exact (jand_r _ _).2) only [x30_194, x30_197, x30_198, x30_201, x30_203, x30_205, x30_206, x30_209, kb_some, kb_none, clr_vi, clr_ref, clr_null, clr_none, va_rf_some, va_rf_none]
              exact wp_ok ⟨rfl, rfl, q3⟩
            · simp (disch := first | assumption | omega | exact bi_lo | exact bi_hi | exact bi_01 | exact jcmp_lo | exact jcmp_hi | exact (jor_r _ _).1 | exact (jor_r _ _).2 | exact (jand_r _ _).1 | exact (jand_r _ _).2) only [x30_194, x30_197, x30_198, x30_201, x30_203, x30_205, x30_206, x30_209, kb_some, kb_none, clr_vi, clr_ref, clr_null, clr_none, va_rf_some, va_rf_none]
              exact wp_ok ⟨rfl, rfl, q3⟩
        · rw [if_neg t3]
          have hx : f tp ≠ 103 ∧ f tp ≠ 110 ∧ f tp ≠ 114 ∧ f tp ≠ 115 := by omega
          simp (disch := first | assumption | omega | exact bi_lo | exact bi_hi | exact bi_01 | exact jcmp_lo | exact jcmp_hi | exact (jor_r _ _).1 | exact (jor_r _ _).2 | exact (jand_r _ _).1 | exact (jand_r _ _).2) only [x30_0, x30_1, x30_4, x30_5, x30_8, x30_10, x30_11, x30_13, x30_14, x30_16, x30_17, x30_20, x30_21, x30_24, x30_25, x30_27, x30_30, x30_31, x30_34, x30_36, x30_39, x30_55, x30_56, x30_59, x30_60, x30_63, x30_65, x30_67o, x30_210, x30_211, x30_214, x30_216, x30_218, x30_219, kb_some, kb_none, clr_vi, clr_ref, clr_null, clr_none, va_rf_some, va_rf_none, hs, hver, ha1, ha2, ha3, hck, if_pos c1]
          refine wp_kb (hfa _ _) ?_
          rintro v J1 K1 R1 ⟨rfl, q2, q3, q4⟩
          simp (disch := first | assumption | omega | exact bi_lo | exact bi_hi | exact bi_01 | exact jcmp_lo | exact jcmp_hi | exact (jor_r _ _).1 | exact (jor_r _ _).2 | exact (jand_r _ _).1 | exact (jand_r _ _).2) only [x30_222, kb_some, kb_none, clr_vi, clr_ref, clr_null, clr_none, va_rf_some, va_rf_none]
          exact wp_ok ⟨q2, q3, q4⟩
  · rw [if_pos c1]
    simp (disch := first | assumption | omega | exact bi_lo | exact bi_hi | exact bi_01 | exact jcmp_lo | exact jcmp_hi | exact (jor_r _ _).1 | exact (jor_r _ _).2 | exact (jand_r _ _).1 | exact (jand_r _ _).2) only [x30_0, x30_1, x30_4, x30_5, x30_8, x30_10, x30_11, x30_13, x30_14, x30_16, x30_17, x30_20, x30_21, x30_24, x30_25, x30_27, x30_30, x30_31, x30_34, x30_36, x30_39, x30_42, x30_43, x30_46, x30_47, x30_49, x30_51, kb_some, kb_none, clr_vi, clr_ref, clr_null, clr_none, va_rf_some, va_rf_none, hs, hver, ha1, ha2, hck, if_neg c1]
    refine wp_kb (hfa _ _) ?_
    rintro v J1 K1 R1 ⟨rfl, q2, q3, q4⟩
    simp (disch := first | assumption | omega | exact bi_lo | exact bi_hi | exact bi_01 | exact jcmp_lo | exact jcmp_hi | exact (jor_r _ _).1 | exact (jor_r _ _).2 | exact (jand_r _ _).1 | exact (jand_r _ _).2) only [x30_54, kb_some, kb_none, clr_vi, clr_ref, clr_null, clr_none, va_rf_some, va_rf_none]
    exact wp_ok ⟨q2, q3, q4⟩
theorem rd_chunk (hv : 1 ≤ ver ∧ ver ≤ 3) : ∀ (D : Nat), D ≤ 3 → CH L d e c f ver K R D := by
  intro D
  induction D with
  | zero => exact fun h => rd_chunk1 0 h hv (fun D' h => absurd h (by omega))
  | succ D ih =>
    intro h
    refine rd_chunk1 (D + 1) h hv ?_
    intro D' h'
    have e : D = D' := by omega
    subst e
    exact ih (by omega)
end
