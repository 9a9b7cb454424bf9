/-! the class reads a file whole; what is recovered -/
def okB (r : Except Fl (Nd 3)) (a b : Int) : Int := match r with
  | .ok _ => a
  | .error _ => b
def rbS (f : Int → Int) (n E v : Int) : Nat → Int → Int → Int → Int
  | 0, _, _, b => b
  | i + 1, e, p, b => if sound f n E p e = true then rbS f n E v i (e + 1) (jor p (jshl 1 e)) (okB (chk f v 3 (4 + 3 * e) (4 + 3 * e + 2) (f (4 + 3 * e + 1))) (jor b (jshl 1 e)) b) else rbS f n E v i (e + 1) p b
def rb (f : Int → Int) (n : Int) : Int := match headF f n with
  | some _ => 0
  | none => rbS f n (f 3) (f 2) (f 3).toNat 0 0 0
theorem RS_of {J J' : mJ} (h : RS J) (hf : FRM J J') : RS J' := by
  obtain ⟨h1, h2, h3⟩ := h
  exact ⟨hf.2.2.2.1, ⟨by have := hf.2.1; omega, hf.2.1.2⟩, ⟨by have := hf.2.2.1; omega, hf.2.2.1.2⟩⟩
theorem A31_32 {J J' : mJ} (h : fr A32 J J') : fr A31 J J' := fr_mono h (by intro a ha; unfold A32 at ha; unfold A31; omega)
section
variable {L d e c : Nat} {f : Int → Int} {ver x : Int} {J K : mJ} {R : mm_R}
theorem rd_isWhole (h : RB L e c f J R) (hs : RS J) : wp (SH L) (EE (d + 11) 17 0 [some (.ref 31), some (.ref e), none] [] (SH L) J K R) fun v J' K' R' => K' = K ∧ wfR R' ∧ fr A31 J J' ∧ RS J' ∧ match wh f (J e 1) with
    | .error q => v = some (vi 0) ∧ FH J' q
    | .ok F => v = some (vi 1) ∧ CF f J' F := by
  have hR := h.1
  have hn := h.2.2.2.1
  have hee := h.2.2.1
  have s31 : (SH L)[31]? = some (2, 5) := rfl
  have s32 : (SH L)[32]? = some (1, 4) := rfl
  have hbg := rd_begin (L := L) (d := d + 8) (e := e) (J := J) (K := K) hR hs.2.2
  obtain ⟨h1, h2, h3⟩ := RB_begin h hs.2.2
  have hR1 := h1.1
  have r31_0 := rr_lk hR1 (show R0 31 0 = some 32 from rfl)
  obtain ⟨z1, z2, z3⟩ := bg_0 (J := J) hs.2.2.1
  have hbf : fr A31 J (bg J) := A31_32 bg_fr
  generalize bg J = J0 at *
  generalize mm_up R 31 2 (some e) = R1 at *
  have hhd := rd_head (d := d + 7) (K := K) h1 (by omega)
  simp (disch := first | assumption | omega | exact bi_lo | exact bi_hi | exact bi_01 | exact jcmp_lo | exact jcmp_hi | exact (jor_r _ _).1 | exact (jor_r _ _).2 | exact (jand_r _ _).1 | exact (jand_r _ _).2) only [x17_0, x17_1, x17_1n, x17_2, x17_5, x17_6, kb_some, kb_none, clr_vi, clr_ref, clr_null, clr_none, va_rf_some, va_rf_none, hbg]
  refine wp_kb hhd ?_
  rintro v J1 K1 R1' ⟨rfl, rfl, q3, q4, q5, q6⟩
  have hb1 : fr A31 J J1 := fr_trans hbf q3
  rw [h3] at q6
  unfold wh
  generalize hhf : headF f (J e 1) = o at q6 ⊢
  have q36 := q4.2.2.2.2.2.2.2.2.1
  have q42 := q4.2.2.2.2.2.2.2.2.2
  cases o with
  | some q =>
    obtain ⟨rfl, q7⟩ := q6
    simp (disch := first | assumption | omega | exact bi_lo | exact bi_hi | exact bi_01 | exact jcmp_lo | exact jcmp_hi | exact (jor_r _ _).1 | exact (jor_r _ _).2 | exact (jand_r _ _).1 | exact (jand_r _ _).2) only [x17_9, x17_12, x17_13, kb_some, kb_none, clr_vi, clr_ref, clr_null, clr_none, va_rf_some, va_rf_none, if_true]
    exact wp_ok ⟨rfl, hR1, hb1, ⟨q5, q36, q42⟩, rfl, q7 h2⟩
  | none =>
    obtain ⟨rfl, q7⟩ := q6
    obtain ⟨b1, b2, b3, b4, b5, b6, b7⟩ := headF_none hhf
    have e3 : J1 31 3 = f 2 := by rw [q7, up_j (by decide), up_s]
    have e4 : J1 31 4 = f 3 := by rw [q7, up_s]
    have ee : J1 e 1 = J e 1 := by rw [q7, up_ne (by omega), up_ne (by omega), h3]
    have e32 : J1 32 3 = 0 := by rw [q7, up_ne (by decide), up_ne (by decide), z1]
    have e36 : J1 36 6 = 0 := by rw [q7, up_ne (by decide), up_ne (by decide), z2]
    have e42 : J1 42 1 = 0 := by rw [q7, up_ne (by decide), up_ne (by decide), z3]
    have hFH : FH J1 [] := ⟨by rw [e32]; rfl, trivial⟩
    rw [e3] at q4
    have f3 := RD_f0 q4 (p := 3) (by omega) (by omega)
    have hta := l_tab (d := d + 7) (K := K1) q4 (a1 := e) (by omega) (f 3).toNat 0 (by omega) (by omega) (by omega)
    rw [e4, ee] at hta
    have go : ∀ (Q : Option Value → mJ → mJ → mm_R → Prop), wp (SH L) (EE (d + 11) 17 16 [some (.ref 31), some (.ref e), some (vi 0)] [] (SH L) J1 K1 R1') Q → wp (SH L) (kb (ok (some (vi 1)) (SH L) J1 K1 R1') (d + 10) 17 9 [some (.ref 31), some (.ref e), none] []) Q := by
      intro Q hQ
      simp (disch := first | assumption | omega | exact bi_lo | exact bi_hi | exact bi_01 | exact jcmp_lo | exact jcmp_hi | exact (jor_r _ _).1 | exact (jor_r _ _).2 | exact (jand_r _ _).1 | exact (jand_r _ _).2) only [x17_9, x17_14, x17_15, kb_some, kb_none, clr_vi, clr_ref, clr_null, clr_none, va_rf_some, va_rf_none, if_neg (show ¬ (1 : Int) = 0 by omega)]
      exact hQ
    refine go _ ?_
    generalize htq : tabE f (J e 1) (f 3) (f 3).toNat 0 = o at hta ⊢
    cases o with
    | some y =>
      obtain ⟨y1, y2, hta⟩ := hta
      rw [hta]
      have hp := fun d J => rd_entryPlace (L := L) (d := d) (J := J) (K := K1) (R := R1') (x := y)
      simp (disch := first | assumption | omega | exact bi_lo | exact bi_hi | exact bi_01 | exact jcmp_lo | exact jcmp_hi | exact (jor_r _ _).1 | exact (jor_r _ _).2 | exact (jand_r _ _).1 | exact (jand_r _ _).2) only [x17_33, x17_34, x17_37, x17_38, x17_39, x17_40, x17_41, x17_44, x17_45, x17_46, kb_some, kb_none, clr_vi, clr_ref, clr_null, clr_none, va_rf_some, va_rf_none, hp]
      refine wp_kb (rd_raise (L := L) hR1 q5 q36 q42) ?_
      rintro v J2 K2 R2 ⟨rfl, rfl, rfl, p4, p5, p6, p7⟩
      have h2' := RD_FRM q4 p4
      simp (disch := first | assumption | omega | exact bi_lo | exact bi_hi | exact bi_01 | exact jcmp_lo | exact jcmp_hi | exact (jor_r _ _).1 | exact (jor_r _ _).2 | exact (jand_r _ _).1 | exact (jand_r _ _).2) only [x17_49, x17_50, x17_51, x17_54, x17_56, x17_57, x17_58, kb_some, kb_none, clr_vi, clr_ref, clr_null, clr_none, va_rf_some, va_rf_none]
      refine wp_kb (rd_raise (L := L) hR1 p4.2.2.2.1 h2'.2.2.2.2.2.2.2.2.1 h2'.2.2.2.2.2.2.2.2.2) ?_
      rintro v J3 K3 R3 ⟨rfl, rfl, rfl, o4, o5, o6, o7⟩
      simp (disch := first | assumption | omega | exact bi_lo | exact bi_hi | exact bi_01 | exact jcmp_lo | exact jcmp_hi | exact (jor_r _ _).1 | exact (jor_r _ _).2 | exact (jand_r _ _).1 | exact (jand_r _ _).2) only [x17_61, kb_some, kb_none, clr_vi, clr_ref, clr_null, clr_none, va_rf_some, va_rf_none]
      have hs3 := RS_of (RS_of ⟨q5, q36, q42⟩ p4) o4
      exact wp_ok ⟨rfl, hR1, fr_trans hb1 (A31_32 (fr_trans p4.1 o4.1)), hs3, rfl, o7 _ (by simp) (p7 [] (by simp) hFH)⟩
    | none =>
      simp only at hta ⊢
      rw [hta]
      have hb0 : ∀ p, 0 ≤ p → p < J e 1 → 0 ≤ f p := fun p p1 p2 => RD_f0 q4 p1 (by omega)
      have hff : ∀ p, -1 ≤ f p := fun p => (RD_f q4 p).1
      have hs' := tabE_none _ _ htq
      have hlen := l_ents (d := d + 1) (K := K1) (E := f 3) (a1 := e) ⟨b2, b3⟩ ⟨f3, b4⟩ (f 3).toNat 0 J1 q4 e4 q5 (fun o q1 q2 => by have := sound_1 (hs' o q1 (by omega)); omega) (by omega) (by omega) (by omega) (by omega)
      simp (disch := first | assumption | omega | exact bi_lo | exact bi_hi | exact bi_01 | exact jcmp_lo | exact jcmp_hi | exact (jor_r _ _).1 | exact (jor_r _ _).2 | exact (jand_r _ _).1 | exact (jand_r _ _).2) only [x17_68, x17_69, kb_some, kb_none, clr_vi, clr_ref, clr_null, clr_none, va_rf_some, va_rf_none]
      refine wp_mono hlen ?_
      rintro v J2 K2 R2 ⟨rfl, rfl, w3, w4⟩
      have hs2 := RS_of ⟨q5, q36, q42⟩ w3
      refine ⟨rfl, hR1, fr_trans hb1 (A31_32 w3.1), hs2, ?_⟩
      have hroom := wh_room (by omega) hff hb0 hhf htq
      have hsz := fun l => entsS_szj (v := f 2) hff hb0 (E := f 3) (fun o q1 q2 => by have := sound_1 (hs' o q1 (by omega)); omega) (by omega) (f 3).toNat 0 l (by omega) (by omega)
      generalize entsS f (f 2) (f 3).toNat 0 = r at w4 hsz ⊢
      cases r with
      | error q => exact ⟨w4.1, w4.2 hFH⟩
      | ok l =>
        have := hsz l rfl
        obtain ⟨w5, w6, w7⟩ := w4
        obtain ⟨x1, x2, x3⟩ := w7 (by omega) (by omega)
        rw [e36] at x1 x2
        rw [e42] at x3
        exact ⟨w5, x1, by rw [x2]; omega, by rw [x3]; omega⟩
theorem l_rec (hv : 1 ≤ ver ∧ ver ≤ 3) {E : Int} (hE : 0 ≤ E ∧ E ≤ 6) {a1 : Nat} : ∀ (i : Nat) (x p b : Int) (J : mJ), RD L e c f ver J R → J 31 4 = E → (0 ≤ J 32 3 ∧ J 32 3 ≤ 6) → 4 + 3 * E ≤ J e 1 → (E - x).toNat = i → 0 ≤ x → x ≤ E →
    wp (SH L) (EE (d + 10) 18 21 [some (.ref 31), some (.ref a1), some (vi p), some (vi b), some (vi x)] [] (SH L) J K R) fun v J' K' R' => K' = K ∧ R' = R ∧ FRM J J' ∧ v = some (vi (rbS f (J e 1) E ver i x p b)) := by
  have s31 : (SH L)[31]? = some (2, 5) := rfl
  intro i
  induction i with
  | zero =>
    intro x p b J h hJE h32 hn hi h0 h1
    have h36 := h.2.2.2.2.2.2.2.2.1
    have h42 := h.2.2.2.2.2.2.2.2.2
    simp (disch := first | assumption | omega | exact bi_lo | exact bi_hi | exact bi_01 | exact jcmp_lo | exact jcmp_hi | exact (jor_r _ _).1 | exact (jor_r _ _).2 | exact (jand_r _ _).1 | exact (jand_r _ _).2) only [x18_21, x18_23, x18_24, x18_27, x18_91, x18_92, kb_some, kb_none, clr_vi, clr_ref, clr_null, clr_none, va_rf_some, va_rf_none, ↓bi_ite_t, ↓bi_ite_f, ↓jc_lt_t, ↓jc_lt_f, ↓jc_gt_t, ↓jc_gt_f, ↓jc_le_t, ↓jc_le_f, ↓jc_ge_t, ↓jc_ge_f, ↓jc_eq_t, ↓jc_eq_f, ↓if_pos, ↓if_neg]
    exact wp_ok ⟨rfl, rfl, FRM_refl h36.2 h42.2 h32, rfl⟩
  | succ i ih =>
    intro x p b J h hJE h32 hn hi h0 h1
    have hR := h.1
    have h36 := h.2.2.2.2.2.2.2.2.1
    have h42 := h.2.2.2.2.2.2.2.2.2
    have hn0 := h.2.2.2.2.1
    have hf1 := RD_f0 h (p := 4 + 3 * x + 1) (by omega) (by omega)
    have hf0 := RD_f0 h (p := 4 + 3 * x + 2) (by omega) (by omega)
    have ho := fun d => rd_offsetOf (d := d) (K := K) h (x := x) (by omega)
    have hp := fun d J => rd_entryPlace (L := L) (d := d) (J := J) (K := K) (R := R) (x := x)
    have hso := rd_sound (d := d + 6) (K := K) h (x := x) (m := p) (by omega) (by omega)
    rw [hJE] at hso
    unfold rbS
    by_cases c1 : sound f (J e 1) E p x = true
    · rw [if_pos c1]
      rw [bi_t c1] at hso
      have hs1 := sound_1 c1
      have hch := rd_chunk (L := L) (d := d) (e := e) (c := c) (f := f) (K := K) (R := R) hv 3 (by omega) J (4 + 3 * x) (4 + 3 * x + 2) (f (4 + 3 * x + 1)) h h32 (by omega) (by omega) (by omega) hf0 (by omega)
      have e5 : (5 : Int) - ((3 : Nat) : Int) = 2 := by omega
      rw [e5] at hch
      have e9 : d + 2 * 3 + 3 = d + 9 := by omega
      rw [e9] at hch
      simp (disch := first | assumption | omega | exact bi_lo | exact bi_hi | exact bi_01 | exact jcmp_lo | exact jcmp_hi | exact (jor_r _ _).1 | exact (jor_r _ _).2 | exact (jand_r _ _).1 | exact (jand_r _ _).2) only [x18_21, x18_23, x18_24, x18_27, kb_some, kb_none, clr_vi, clr_ref, clr_null, clr_none, va_rf_some, va_rf_none, ↓bi_ite_t, ↓bi_ite_f, ↓jc_lt_t, ↓jc_lt_f, ↓jc_gt_t, ↓jc_gt_f, ↓jc_le_t, ↓jc_le_f, ↓jc_ge_t, ↓jc_ge_f, ↓jc_eq_t, ↓jc_eq_f, ↓if_pos, ↓if_neg]
      simp (disch := first | assumption | omega | exact bi_lo | exact bi_hi | exact bi_01 | exact jcmp_lo | exact jcmp_hi | exact (jor_r _ _).1 | exact (jor_r _ _).2 | exact (jand_r _ _).1 | exact (jand_r _ _).2) only [x18_30, x18_31, x18_33, x18_34, x18_37, x18_40, x18_43, x18_44, x18_45, x18_47, x18_48, x18_49, x18_50, x18_51, x18_52, x18_54, x18_57, x18_58, x18_60, x18_63, x18_64, x18_65, x18_66, x18_68, x18_71, x18_72, kb_some, kb_none, clr_vi, clr_ref, clr_null, clr_none, va_rf_some, va_rf_none, ↓bi_ite_t, ↓bi_ite_f, ↓jc_lt_t, ↓jc_lt_f, ↓jc_gt_t, ↓jc_gt_f, ↓jc_le_t, ↓jc_le_f, ↓jc_ge_t, ↓jc_ge_f, ↓jc_eq_t, ↓jc_eq_f, ↓if_pos, ↓if_neg, hso, hp, ho]
      refine wp_kb hch ?_
      rintro v J1 K1 R1 ⟨rfl, rfl, q3⟩
      generalize chk f ver 3 (4 + 3 * x) (4 + 3 * x + 2) (f (4 + 3 * x + 1)) = res at q3 ⊢
      obtain ⟨q4, q5⟩ := q3
      have h1' := RD_FRM h q4
      have ee : J1 e = J e := q4.1 e (by have := h.2.2.2.1; unfold A32; omega)
      have ih' := fun p b => ih (x + 1) p b J1 h1' (by rw [q4.1 31 (by decide)]; exact hJE) q4.2.2.2.1 (by rw [ee]; exact hn) (by omega) (by omega) (by omega)
      rw [ee] at ih'
      cases res with
      | error q =>
        obtain ⟨rfl, -⟩ := q5
        simp (disch := first | assumption | omega | exact bi_lo | exact bi_hi | exact bi_01 | exact jcmp_lo | exact jcmp_hi | exact (jor_r _ _).1 | exact (jor_r _ _).2 | exact (jand_r _ _).1 | exact (jand_r _ _).2) only [x18_75, x18_85, x18_88, kb_some, kb_none, clr_vi, clr_ref, clr_null, clr_none, va_rf_some, va_rf_none, ↓bi_ite_t, ↓bi_ite_f, ↓jc_lt_t, ↓jc_lt_f, ↓jc_gt_t, ↓jc_gt_f, ↓jc_le_t, ↓jc_le_f, ↓jc_ge_t, ↓jc_ge_f, ↓jc_eq_t, ↓jc_eq_f, ↓if_pos, ↓if_neg]
        refine wp_mono (ih' _ _) ?_
        rintro v J2 K2 R2 ⟨rfl, rfl, w3, w4⟩
        exact ⟨rfl, rfl, FRM_trans q4 w3, w4⟩
      | ok a =>
        obtain ⟨rfl, -⟩ := q5
        simp (disch := first | assumption | omega | exact bi_lo | exact bi_hi | exact bi_01 | exact jcmp_lo | exact jcmp_hi | exact (jor_r _ _).1 | exact (jor_r _ _).2 | exact (jand_r _ _).1 | exact (jand_r _ _).2) only [x18_75, x18_78, x18_79, x18_80, x18_82, x18_83, x18_84, x18_85, x18_88, kb_some, kb_none, clr_vi, clr_ref, clr_null, clr_none, va_rf_some, va_rf_none, ↓bi_ite_t, ↓bi_ite_f, ↓jc_lt_t, ↓jc_lt_f, ↓jc_gt_t, ↓jc_gt_f, ↓jc_le_t, ↓jc_le_f, ↓jc_ge_t, ↓jc_ge_f, ↓jc_eq_t, ↓jc_eq_f, ↓if_pos, ↓if_neg]
        refine wp_mono (ih' _ _) ?_
        rintro v J2 K2 R2 ⟨rfl, rfl, w3, w4⟩
        exact ⟨rfl, rfl, FRM_trans q4 w3, w4⟩
    · rw [if_neg c1]
      rw [bi_f c1] at hso
      have ih' := ih (x + 1) p b J h hJE h32 hn (by omega) (by omega) (by omega)
      simp (disch := first | assumption | omega | exact bi_lo | exact bi_hi | exact bi_01 | exact jcmp_lo | exact jcmp_hi | exact (jor_r _ _).1 | exact (jor_r _ _).2 | exact (jand_r _ _).1 | exact (jand_r _ _).2) only [x18_21, x18_23, x18_24, x18_27, kb_some, kb_none, clr_vi, clr_ref, clr_null, clr_none, va_rf_some, va_rf_none, ↓bi_ite_t, ↓bi_ite_f, ↓jc_lt_t, ↓jc_lt_f, ↓jc_gt_t, ↓jc_gt_f, ↓jc_le_t, ↓jc_le_f, ↓jc_ge_t, ↓jc_ge_f, ↓jc_eq_t, ↓jc_eq_f, ↓if_pos, ↓if_neg]
      simp (disch := first | assumption | omega | exact bi_lo | exact bi_hi | exact bi_01 | exact jcmp_lo | exact jcmp_hi | exact (jor_r _ _).1 | exact (jor_r _ _).2 | exact (jand_r _ _).1 | exact (jand_r _ _).2) only [x18_30, x18_31, x18_33, x18_34, x18_37, x18_40, x18_85, x18_88, kb_some, kb_none, clr_vi, clr_ref, clr_null, clr_none, va_rf_some, va_rf_none, ↓bi_ite_t, ↓bi_ite_f, ↓jc_lt_t, ↓jc_lt_f, ↓jc_gt_t, ↓jc_gt_f, ↓jc_le_t, ↓jc_le_f, ↓jc_ge_t, ↓jc_ge_f, ↓jc_eq_t, ↓jc_eq_f, ↓if_pos, ↓if_neg, hso]
      exact ih'
theorem rd_recovered (h : RB L e c f J R) (hs : RS J) : wp (SH L) (EE (d + 11) 18 0 [some (.ref 31), some (.ref e), none, none, none] [] (SH L) J K R) fun v J' K' R' => K' = K ∧ wfR R' ∧ fr A31 J J' ∧ RS J' ∧ v = some (vi (rb f (J e 1))) := by
  have hR := h.1
  have hn := h.2.2.2.1
  have hee := h.2.2.1
  have s31 : (SH L)[31]? = some (2, 5) := rfl
  have hbg := rd_begin (L := L) (d := d + 8) (e := e) (J := J) (K := K) hR hs.2.2
  obtain ⟨h1, h2, h3⟩ := RB_begin h hs.2.2
  have hR1 := h1.1
  obtain ⟨z1, z2, z3⟩ := bg_0 (J := J) hs.2.2.1
  have hbf : fr A31 J (bg J) := A31_32 bg_fr
  generalize bg J = J0 at *
  generalize mm_up R 31 2 (some e) = R1 at *
  have hhd := rd_head (d := d + 7) (K := K) h1 (by omega)
  simp (disch := first | assumption | omega | exact bi_lo | exact bi_hi | exact bi_01 | exact jcmp_lo | exact jcmp_hi | exact (jor_r _ _).1 | exact (jor_r _ _).2 | exact (jand_r _ _).1 | exact (jand_r _ _).2) only [x18_0, x18_1, x18_1n, x18_2, x18_5, x18_6, kb_some, kb_none, clr_vi, clr_ref, clr_null, clr_none, va_rf_some, va_rf_none, hbg]
  refine wp_kb hhd ?_
  rintro v J1 K1 R1' ⟨rfl, rfl, q3, q4, q5, q6⟩
  have hb1 : fr A31 J J1 := fr_trans hbf q3
  rw [h3] at q6
  unfold rb
  generalize hhf : headF f (J e 1) = o at q6 ⊢
  have q36 := q4.2.2.2.2.2.2.2.2.1
  have q42 := q4.2.2.2.2.2.2.2.2.2
  cases o with
  | some q =>
    obtain ⟨rfl, q7⟩ := q6
    simp (disch := first | assumption | omega | exact bi_lo | exact bi_hi | exact bi_01 | exact jcmp_lo | exact jcmp_hi | exact (jor_r _ _).1 | exact (jor_r _ _).2 | exact (jand_r _ _).1 | exact (jand_r _ _).2) only [x18_9, x18_12, x18_13, kb_some, kb_none, clr_vi, clr_ref, clr_null, clr_none, va_rf_some, va_rf_none, ↓bi_ite_t, ↓bi_ite_f, ↓jc_lt_t, ↓jc_lt_f, ↓jc_gt_t, ↓jc_gt_f, ↓jc_le_t, ↓jc_le_f, ↓jc_ge_t, ↓jc_ge_f, ↓jc_eq_t, ↓jc_eq_f, ↓if_pos, ↓if_neg]
    exact wp_ok ⟨rfl, hR1, hb1, ⟨q5, q36, q42⟩, rfl⟩
  | none =>
    obtain ⟨rfl, q7⟩ := q6
    obtain ⟨b1, b2, b3, b4, b5, b6, b7⟩ := headF_none hhf
    have e3 : J1 31 3 = f 2 := by rw [q7, up_j (by decide), up_s]
    have e4 : J1 31 4 = f 3 := by rw [q7, up_s]
    have ee : J1 e 1 = J e 1 := by rw [q7, up_ne (by omega), up_ne (by omega), h3]
    rw [e3] at q4
    have f3 := RD_f0 q4 (p := 3) (by omega) (by omega)
    have hl := l_rec (d := d + 1) (K := K1) (a1 := e) ⟨b2, b3⟩ ⟨f3, b4⟩ (f 3).toNat 0 0 0 J1 q4 e4 q5 (by omega) (by omega) (by omega) (by omega)
    rw [ee] at hl
    simp (disch := first | assumption | omega | exact bi_lo | exact bi_hi | exact bi_01 | exact jcmp_lo | exact jcmp_hi | exact (jor_r _ _).1 | exact (jor_r _ _).2 | exact (jand_r _ _).1 | exact (jand_r _ _).2) only [x18_9, x18_14, x18_15, x18_16, x18_17, x18_18, x18_19, kb_some, kb_none, clr_vi, clr_ref, clr_null, clr_none, va_rf_some, va_rf_none, ↓bi_ite_t, ↓bi_ite_f, ↓jc_lt_t, ↓jc_lt_f, ↓jc_gt_t, ↓jc_gt_f, ↓jc_le_t, ↓jc_le_f, ↓jc_ge_t, ↓jc_ge_f, ↓jc_eq_t, ↓jc_eq_f, ↓if_pos, ↓if_neg]
    refine wp_mono hl ?_
    rintro v J2 K2 R2 ⟨rfl, rfl, w3, w4⟩
    exact ⟨rfl, hR1, fr_trans hb1 (A31_32 w3.1), RS_of ⟨q5, q36, q42⟩ w3, w4⟩
end
