section
variable {L d e c : Nat} {f : Int → Int} {ver x : Int} {J K : mJ} {R : mm_R}
abbrev A31 (a : Nat) : Prop := 31 ≤ a ∧ a ≤ 43
theorem FH_31 {J : mJ} {j : Nat} {z : Int} (e : Fl) : FH (mm_up J 31 j z) e = FH J e := by
  unfold FH; rw [up_ne (by decide), up_ne (by decide), up_ne (by decide), up_ne (by decide)]
/-- what the reading of the head gives -/
def HW (L e c : Nat) (f : Int → Int) (R : mm_R) (J : mJ) (v : Option Value) (J' : mJ) : Prop :=
  fr A31 J J' ∧ RD L e c f (J' 31 3) J' R ∧ (0 ≤ J' 32 3 ∧ J' 32 3 ≤ 6) ∧ match headF f (J e 1) with
    | some q => v = some (vi 0) ∧ (FH J [] → FH J' [(q.1, 0, q.2)])
    | none => v = some (vi 1) ∧ J' = mm_up (mm_up J 31 3 (f 2)) 31 4 (f 3)
theorem HW_of {J0 J' : mJ} {q : Int × Int} (hf : fr (fun a => a = 31) J J0) (h0 : RD L e c f (J0 31 3) J0 R) (hfh : FH J [] → FH J0 []) (hp : FRM J0 J') (hp2 : FH J0 [] → FH J' [(q.1, 0, q.2)]) (hq : headF f (J e 1) = some q) : HW L e c f R J (some (vi 0)) J' := by
  have h1 := RD_FRM h0 hp
  refine ⟨fr_trans (fr_mono hf (by intro a ha; unfold A31; omega)) (fr_mono hp.1 (by intro a ha; unfold A31; omega)), ?_, hp.2.2.2.1, ?_⟩
  · rw [hp.1 31 (by decide)]; exact h1
  · rw [hq]
    exact ⟨rfl, fun hf => hp2 (hfh hf)⟩
theorem rd_head4 {J1 : mJ} (h : RD L e c f ver J R) (h32 : 0 ≤ J 32 3 ∧ J 32 3 ≤ 6) (hJ : J1 = mm_up J 31 3 (f 2)) (hn : 2 < J e 1 ∧ f 0 = 67 ∧ f 1 = 70 ∧ 1 ≤ f 2 ∧ f 2 ≤ 3) :
    wp (SH L) (EE (d + 3) 20 27 [some (.ref 31)] [] (SH L) J1 K R) fun v J' K' R' => K' = K ∧ R' = R ∧ HW L e c f R J v J' := by
  have hR := h.1
  have hee := h.2.2.2.1
  have ee : J1 e 1 = J e 1 := by rw [hJ, up_ne (by omega)]
  have h1 : RD L e c f (f 2) J1 R := by rw [hJ]; exact RD_31 h up_s
  have e32 : J1 32 3 = J 32 3 := by rw [hJ, up_ne (by decide)]
  have h2 : RD L e c f (mm_up J1 31 4 (f 3) 31 3) (mm_up J1 31 4 (f 3)) R := RD_31 h1 rfl
  have hfr : fr (fun a => a = 31) J (mm_up J1 31 4 (f 3)) := fr_up (by rw [hJ]; exact fr_up fr_refl rfl) rfl
  have hfh : FH J [] → FH (mm_up J1 31 4 (f 3)) [] := by rw [FH_31, hJ, FH_31]; exact id
  have s31 : (SH L)[31]? = some (2, 5) := rfl; have r31_0 : R 31 0 = some 32 := rr_lk hR rfl; have r31_1 : R 31 1 = some 36 := rr_lk hR rfl; have s32 : (SH L)[32]? = some (1, 4) := rfl; have r32_0 : R 32 0 = some 33 := rr_lk hR rfl; have r32_1 : R 32 1 = some 34 := rr_lk hR rfl; have r32_2 : R 32 2 = some 35 := rr_lk hR rfl
  have ht := rd_table (d := d) (K := K) h1 (by rw [e32]; exact h32)
  rw [ee] at ht
  simp (disch := first | assumption | omega | exact bi_lo | exact bi_hi | exact bi_01 | exact jcmp_lo | exact jcmp_hi | exact (jor_r _ _).1 | exact (jor_r _ _).2 | exact (jand_r _ _).1 | exact (jand_r _ _).2) only [x20_27, x20_28, kb_some, kb_none, clr_vi, clr_ref, clr_null, clr_none, va_rf_some, va_rf_none]
  refine wp_kb ht ?_
  rintro v J2 K2 R2 ⟨rfl, rfl, p3, p4⟩
  have z1 : ¬ J e 1 ≤ 0 := by omega
  have z2 : ¬ f 0 ≠ 67 := by omega
  have z3 : ¬ J e 1 ≤ 1 := by omega
  have z4 : ¬ f 1 ≠ 70 := by omega
  have z5 : ¬ J e 1 ≤ 2 := by omega
  have z6 : ¬ ¬ (1 ≤ f 2 ∧ f 2 ≤ 3) := by omega
  have eh : headF f (J e 1) = (if J e 1 ≤ 3 then some (3, J e 1) else if 6 < f 3 then some (5, 3) else if J e 1 ≤ 3 + 3 * f 3 then some (3, J e 1) else none) := by
    unfold headF; rw [if_neg z1, if_neg z2, if_neg z3, if_neg z4, if_neg z5, if_neg z6]
  rw [← eh] at p4
  cases ho : headF f (J e 1) with
  | some q =>
    rw [ho] at p4
    obtain ⟨rfl, p5⟩ := p4
    simp (disch := first | assumption | omega | exact bi_lo | exact bi_hi | exact bi_01 | exact jcmp_lo | exact jcmp_hi | exact (jor_r _ _).1 | exact (jor_r _ _).2 | exact (jand_r _ _).1 | exact (jand_r _ _).2) only [x20_31, x20_34, x20_35, x20_38, x20_39, kb_some, kb_none, clr_vi, clr_ref, clr_null, clr_none, va_rf_some, va_rf_none, if_true]
    exact wp_ok ⟨rfl, rfl, HW_of hfr h2 hfh p3 p5 ho⟩
  | none =>
    rw [ho] at p4
    obtain ⟨rfl, rfl⟩ := p4
    simp (disch := first | assumption | omega | exact bi_lo | exact bi_hi | exact bi_01 | exact jcmp_lo | exact jcmp_hi | exact (jor_r _ _).1 | exact (jor_r _ _).2 | exact (jand_r _ _).1 | exact (jand_r _ _).2) only [x20_31, x20_34, x20_35, x20_38, x20_39, kb_some, kb_none, clr_vi, clr_ref, clr_null, clr_none, va_rf_some, va_rf_none, if_neg (show ¬ (1 : Int) = 0 by omega)]
    refine wp_ok ⟨rfl, rfl, fr_mono hfr (by intro a ha; unfold A31; omega), h2, p3.2.2.2.1, ?_⟩
    rw [ho, hJ]
    exact ⟨rfl, rfl⟩
theorem rd_head3 (h : RD L e c f ver J R) (h32 : 0 ≤ J 32 3 ∧ J 32 3 ≤ 6) (hn : 1 < J e 1 ∧ f 0 = 67 ∧ f 1 = 70) :
    wp (SH L) (EE (d + 3) 20 20 [some (.ref 31)] [] (SH L) J K R) fun v J' K' R' => K' = K ∧ R' = R ∧ HW L e c f R J v J' := by
  have hR := h.1
  have hee := h.2.2.2.1
  have h1 : RD L e c f (mm_up J 31 3 (f 2) 31 3) (mm_up J 31 3 (f 2)) R := RD_31 h rfl
  have s31 : (SH L)[31]? = some (2, 5) := rfl; have r31_0 : R 31 0 = some 32 := rr_lk hR rfl; have r31_1 : R 31 1 = some 36 := rr_lk hR rfl; have s32 : (SH L)[32]? = some (1, 4) := rfl; have r32_0 : R 32 0 = some 33 := rr_lk hR rfl; have r32_1 : R 32 1 = some 34 := rr_lk hR rfl; have r32_2 : R 32 2 = some 35 := rr_lk hR rfl
  have ht := rd_version (d := d) (K := K) h h32
  simp (disch := first | assumption | omega | exact bi_lo | exact bi_hi | exact bi_01 | exact jcmp_lo | exact jcmp_hi | exact (jor_r _ _).1 | exact (jor_r _ _).2 | exact (jand_r _ _).1 | exact (jand_r _ _).2) only [x20_20, x20_21, kb_some, kb_none, clr_vi, clr_ref, clr_null, clr_none, va_rf_some, va_rf_none]
  refine wp_kb ht ?_
  rintro v J2 K2 R2 ⟨rfl, rfl, p3, p4⟩
  have z1 : ¬ J e 1 ≤ 0 := by omega
  have z2 : ¬ f 0 ≠ 67 := by omega
  have z3 : ¬ J e 1 ≤ 1 := by omega
  have z4 : ¬ f 1 ≠ 70 := by omega
  by_cases c1 : J e 1 ≤ 2
  · rw [if_pos c1] at p4
    obtain ⟨rfl, p5⟩ := p4
    simp (disch := first | assumption | omega | exact bi_lo | exact bi_hi | exact bi_01 | exact jcmp_lo | exact jcmp_hi | exact (jor_r _ _).1 | exact (jor_r _ _).2 | exact (jand_r _ _).1 | exact (jand_r _ _).2) only [x20_24, x20_27, x20_28, x20_31, x20_34, x20_35, x20_38, x20_39, kb_some, kb_none, clr_vi, clr_ref, clr_null, clr_none, va_rf_some, va_rf_none, if_true]
    exact wp_ok ⟨rfl, rfl, HW_of (fr_up fr_refl rfl) h1 (by rw [FH_31]; exact id) p3 p5 (by unfold headF; rw [if_neg z1, if_neg z2, if_neg z3, if_neg z4, if_pos c1])⟩
  rw [if_neg c1] at p4
  by_cases c2 : ¬ (1 ≤ f 2 ∧ f 2 ≤ 3)
  · rw [if_pos c2] at p4
    obtain ⟨rfl, p5⟩ := p4
    simp (disch := first | assumption | omega | exact bi_lo | exact bi_hi | exact bi_01 | exact jcmp_lo | exact jcmp_hi | exact (jor_r _ _).1 | exact (jor_r _ _).2 | exact (jand_r _ _).1 | exact (jand_r _ _).2) only [x20_24, x20_27, x20_28, x20_31, x20_34, x20_35, x20_38, x20_39, kb_some, kb_none, clr_vi, clr_ref, clr_null, clr_none, va_rf_some, va_rf_none, if_true]
    exact wp_ok ⟨rfl, rfl, HW_of (fr_up fr_refl rfl) h1 (by rw [FH_31]; exact id) p3 p5 (by unfold headF; rw [if_neg z1, if_neg z2, if_neg z3, if_neg z4, if_neg c1, if_pos c2])⟩
  rw [if_neg c2] at p4
  obtain ⟨rfl, rfl⟩ := p4
  simp (disch := first | assumption | omega | exact bi_lo | exact bi_hi | exact bi_01 | exact jcmp_lo | exact jcmp_hi | exact (jor_r _ _).1 | exact (jor_r _ _).2 | exact (jand_r _ _).1 | exact (jand_r _ _).2) only [x20_24, kb_some, kb_none, clr_vi, clr_ref, clr_null, clr_none, va_rf_some, va_rf_none, if_neg (show ¬ (1 : Int) = 0 by omega)]
  exact rd_head4 h h32 rfl (by omega)
theorem rd_head2 (h : RD L e c f (J 31 3) J R) (h32 : 0 ≤ J 32 3 ∧ J 32 3 ≤ 6) (hn : 0 < J e 1 ∧ f 0 = 67) :
    wp (SH L) (EE (d + 3) 20 10 [some (.ref 31)] [] (SH L) J K R) fun v J' K' R' => K' = K ∧ R' = R ∧ HW L e c f R J v J' := by
  have hR := h.1
  have hee := h.2.2.2.1
  have s31 : (SH L)[31]? = some (2, 5) := rfl; have r31_0 : R 31 0 = some 32 := rr_lk hR rfl; have r31_1 : R 31 1 = some 36 := rr_lk hR rfl; have s32 : (SH L)[32]? = some (1, 4) := rfl; have r32_0 : R 32 0 = some 33 := rr_lk hR rfl; have r32_1 : R 32 1 = some 34 := rr_lk hR rfl; have r32_2 : R 32 2 = some 35 := rr_lk hR rfl
  have ht := rd_isMagic (d := d) (K := K) (x := 1) (y := 70) h h32 (by omega) (by omega)
  simp (disch := first | assumption | omega | exact bi_lo | exact bi_hi | exact bi_01 | exact jcmp_lo | exact jcmp_hi | exact (jor_r _ _).1 | exact (jor_r _ _).2 | exact (jand_r _ _).1 | exact (jand_r _ _).2) only [x20_10, x20_11, x20_12, x20_14, kb_some, kb_none, clr_vi, clr_ref, clr_null, clr_none, va_rf_some, va_rf_none]
  refine wp_kb ht ?_
  rintro v J2 K2 R2 ⟨rfl, rfl, p3, p4⟩
  have z1 : ¬ J e 1 ≤ 0 := by omega
  have z2 : ¬ f 0 ≠ 67 := by omega
  by_cases c1 : J e 1 ≤ 1
  · rw [if_pos c1] at p4
    obtain ⟨rfl, p5⟩ := p4
    simp (disch := first | assumption | omega | exact bi_lo | exact bi_hi | exact bi_01 | exact jcmp_lo | exact jcmp_hi | exact (jor_r _ _).1 | exact (jor_r _ _).2 | exact (jand_r _ _).1 | exact (jand_r _ _).2) only [x20_17, x20_20, x20_21, x20_24, x20_27, x20_28, x20_31, x20_34, x20_35, x20_38, x20_39, kb_some, kb_none, clr_vi, clr_ref, clr_null, clr_none, va_rf_some, va_rf_none, if_true]
    exact wp_ok ⟨rfl, rfl, HW_of fr_refl h id p3 p5 (by unfold headF; rw [if_neg z1, if_neg z2, if_pos c1])⟩
  rw [if_neg c1] at p4
  by_cases c2 : f 1 ≠ 70
  · rw [if_pos c2] at p4
    obtain ⟨rfl, p5⟩ := p4
    simp (disch := first | assumption | omega | exact bi_lo | exact bi_hi | exact bi_01 | exact jcmp_lo | exact jcmp_hi | exact (jor_r _ _).1 | exact (jor_r _ _).2 | exact (jand_r _ _).1 | exact (jand_r _ _).2) only [x20_17, x20_20, x20_21, x20_24, x20_27, x20_28, x20_31, x20_34, x20_35, x20_38, x20_39, kb_some, kb_none, clr_vi, clr_ref, clr_null, clr_none, va_rf_some, va_rf_none, if_true]
    exact wp_ok ⟨rfl, rfl, HW_of fr_refl h id p3 p5 (by unfold headF; rw [if_neg z1, if_neg z2, if_neg c1, if_pos c2])⟩
  rw [if_neg c2] at p4
  obtain ⟨rfl, rfl⟩ := p4
  simp (disch := first | assumption | omega | exact bi_lo | exact bi_hi | exact bi_01 | exact jcmp_lo | exact jcmp_hi | exact (jor_r _ _).1 | exact (jor_r _ _).2 | exact (jand_r _ _).1 | exact (jand_r _ _).2) only [x20_17, kb_some, kb_none, clr_vi, clr_ref, clr_null, clr_none, va_rf_some, va_rf_none, if_neg (show ¬ (1 : Int) = 0 by omega)]
  exact rd_head3 h h32 (by omega)
theorem rd_head (h : RD L e c f (J 31 3) J R) (h32 : 0 ≤ J 32 3 ∧ J 32 3 ≤ 6) :
    wp (SH L) (EE (d + 3) 20 0 [some (.ref 31)] [] (SH L) J K R) fun v J' K' R' => K' = K ∧ R' = R ∧ HW L e c f R J v J' := by
  have hR := h.1
  have hee := h.2.2.2.1
  have s31 : (SH L)[31]? = some (2, 5) := rfl; have r31_0 : R 31 0 = some 32 := rr_lk hR rfl; have r31_1 : R 31 1 = some 36 := rr_lk hR rfl; have s32 : (SH L)[32]? = some (1, 4) := rfl; have r32_0 : R 32 0 = some 33 := rr_lk hR rfl; have r32_1 : R 32 1 = some 34 := rr_lk hR rfl; have r32_2 : R 32 2 = some 35 := rr_lk hR rfl
  have ht := rd_isMagic (d := d) (K := K) (x := 0) (y := 67) h h32 (by omega) (by omega)
  simp (disch := first | assumption | omega | exact bi_lo | exact bi_hi | exact bi_01 | exact jcmp_lo | exact jcmp_hi | exact (jor_r _ _).1 | exact (jor_r _ _).2 | exact (jand_r _ _).1 | exact (jand_r _ _).2) only [x20_0, x20_1, x20_2, x20_4, kb_some, kb_none, clr_vi, clr_ref, clr_null, clr_none, va_rf_some, va_rf_none]
  refine wp_kb ht ?_
  rintro v J2 K2 R2 ⟨rfl, rfl, p3, p4⟩
  by_cases c1 : J e 1 ≤ 0
  · rw [if_pos c1] at p4
    obtain ⟨rfl, p5⟩ := p4
    simp (disch := first | assumption | omega | exact bi_lo | exact bi_hi | exact bi_01 | exact jcmp_lo | exact jcmp_hi | exact (jor_r _ _).1 | exact (jor_r _ _).2 | exact (jand_r _ _).1 | exact (jand_r _ _).2) only [x20_7, x20_10, x20_11, x20_12, x20_14, x20_17, x20_20, x20_21, x20_24, x20_27, x20_28, x20_31, x20_34, x20_35, x20_38, x20_39, kb_some, kb_none, clr_vi, clr_ref, clr_null, clr_none, va_rf_some, va_rf_none, if_true]
    exact wp_ok ⟨rfl, rfl, HW_of fr_refl h id p3 p5 (by unfold headF; rw [if_pos c1])⟩
  rw [if_neg c1] at p4
  by_cases c2 : f 0 ≠ 67
  · rw [if_pos c2] at p4
    obtain ⟨rfl, p5⟩ := p4
    simp (disch := first | assumption | omega | exact bi_lo | exact bi_hi | exact bi_01 | exact jcmp_lo | exact jcmp_hi | exact (jor_r _ _).1 | exact (jor_r _ _).2 | exact (jand_r _ _).1 | exact (jand_r _ _).2) only [x20_7, x20_10, x20_11, x20_12, x20_14, x20_17, x20_20, x20_21, x20_24, x20_27, x20_28, x20_31, x20_34, x20_35, x20_38, x20_39, kb_some, kb_none, clr_vi, clr_ref, clr_null, clr_none, va_rf_some, va_rf_none, if_true]
    exact wp_ok ⟨rfl, rfl, HW_of fr_refl h id p3 p5 (by unfold headF; rw [if_neg c1, if_pos c2])⟩
  rw [if_neg c2] at p4
  obtain ⟨rfl, rfl⟩ := p4
  simp (disch := first | assumption | omega | exact bi_lo | exact bi_hi | exact bi_01 | exact jcmp_lo | exact jcmp_hi | exact (jor_r _ _).1 | exact (jor_r _ _).2 | exact (jand_r _ _).1 | exact (jand_r _ _).2) only [x20_7, kb_some, kb_none, clr_vi, clr_ref, clr_null, clr_none, va_rf_some, va_rf_none, if_neg (show ¬ (1 : Int) = 0 by omega)]
  exact rd_head2 h h32 (by omega)
end
