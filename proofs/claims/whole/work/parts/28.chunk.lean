/-! the class reads chunks and groups -/
def byN (a : Da) : Nat := if a.1 = 115 ∨ a.1 = 114 then a.2.1.toNat else 0
/-- how a thing lies, of D levels, at i -/
def cT (f : Int → Int) (J' : mJ) (D : Nat) (x : Nd D) (i : Nat) : Prop := cN f (J' 42 1) (J' 37) (J' 38) (J' 39) (J' 40) (J' 41) (J' 43) (3 - (D : Int)) x.1 (fsz D x.2) i ∧ cF f (J' 42 1) (J' 37) (J' 38) (J' 39) (J' 40) (J' 41) (J' 43) D (3 - (D : Int) + 1) x.2 (i + 1)
def CP (D : Nat) (f : Int → Int) (J : mJ) (res : Except Fl (Nd D)) (v : Option Value) (J' : mJ) : Prop :=
  FRM J J' ∧ match res with
    | .error e => v = some (vi 0) ∧ (FH J [] → FH J' e)
    | .ok x => v = some (vi 1) ∧ J' 32 3 = J 32 3 ∧ (J 36 6 + (1 + fsz D x.2 : Nat) ≤ 40 → J 42 1 + (byN x.1 + fby D x.2 : Nat) ≤ 120 → cT f J' D x (J 36 6).toNat ∧ J' 36 6 = J 36 6 + (1 + fsz D x.2 : Nat) ∧ J' 42 1 = J 42 1 + (byN x.1 + fby D x.2 : Nat))
theorem fby_cons' {d : Nat} {x : Nd d} {l : List (Nd d)} : fby (d + 1) (x :: l : List (Nd d)) = byN x.1 + fby d x.2 + fby (d + 1) l := rfl
theorem RD_f0 {L e c : Nat} {f : Int → Int} {v : Int} {J : mJ} {R : mm_R} (h : RD L e c f v J R) {p : Int} (h0 : 0 ≤ p) (h1 : p < J e 1) : 0 ≤ f p := by
  obtain ⟨u1, u2, u3, u4, u5, u6, u7, u8, u9, u10⟩ := h
  rw [← u7]; unfold bA
  rw [if_pos ⟨h0, h1⟩]
  exact (u6 p.toNat (by omega)).1
theorem FRM_cT {f : Int → Int} {J J' : mJ} {D : Nat} {x : Nd D} {i : Nat} (h : cT f J D x i) (hf : FRM J J') (hi : (i + (1 + fsz D x.2) : Nat) ≤ J 36 6) : cT f J' D x i := by
  obtain ⟨h1, h2⟩ := h
  obtain ⟨u1, u2, u3, u4, u5, u6⟩ := hf
  exact ⟨cN_congr h1 (by omega) (u5 i (by omega)) (fun j hj => u6 j hj), cF_congr (by omega) (fun j hj => u6 j hj) _ _ _ _ h2 (fun j q1 q2 => u5 j (by omega))⟩
section
variable {L d e c : Nat} {f : Int → Int} {ver : Int} {K : mJ} {R : mm_R}
/-- what is said of chunks of D levels -/
def CH (L d e c : Nat) (f : Int → Int) (ver : Int) (K : mJ) (R : mm_R) (D : Nat) : Prop := ∀ (J : mJ) (tp lp pl : Int), RD L e c f ver J R → (0 ≤ J 32 3 ∧ J 32 3 ≤ 6) → (0 ≤ tp ∧ tp ≤ 10000) → (0 ≤ lp ∧ lp ≤ 10000) → 0 ≤ pl → 0 ≤ f lp → pl + f lp < J e 1 →
  wp (SH L) (EE (d + 2 * D + 3) 30 0 [some (.ref 31), some (vi tp), some (vi lp), some (vi pl), some (vi (5 - (D : Int))), none, none, none] [] (SH L) J K R) fun v J' K' R' => K' = K ∧ R' = R ∧ CP D f J (chk f ver D tp lp pl) v J'
theorem l_group {D : Nat} (hch : CH L d e c f ver K R D) {pl en layer t : Int} (hl : layer + 1 = 5 - (D : Int)) (hpl : 0 ≤ pl) (hD : D ≤ 3) : ∀ (k : Nat) (place : Int) (J : mJ) (l7 : Option Value), RD L e c f ver J R → (0 ≤ J 32 3 ∧ J 32 3 ≤ 6) → 0 ≤ place → place ≤ en → en < J e 1 → k ≤ 6 →
    match grp f (chk f ver D) layer en pl k place with
    | .error e => wp (SH L) (EE (d + 2 * D + 4) 33 20 [some (.ref 31), some (vi pl), some (vi en), some (vi layer), some (vi t), some (vi place), some (vi (6 - k)), l7] [] (SH L) J K R) fun v J' K' R' => K' = K ∧ R' = R ∧ FRM J J' ∧ v = some (vi 0) ∧ (FH J [] → FH J' e)
    | .ok l => ∃ J' l7', EE (d + 2 * D + 4) 33 20 [some (.ref 31), some (vi pl), some (vi en), some (vi layer), some (vi t), some (vi place), some (vi (6 - k)), l7] [] (SH L) J K R = EE (d + 2 * D + 4) 33 157 [some (.ref 31), some (vi pl), some (vi en), some (vi layer), some (vi t), some (vi en), some (vi (6 - k + (l.length : Nat))), l7'] [] (SH L) J' K R ∧ FRM J J' ∧ J' 32 3 = J 32 3 ∧
        (J 36 6 + (fsz (D + 1) l : Nat) ≤ 40 → J 42 1 + (fby (D + 1) l : Nat) ≤ 120 → cF f (J' 42 1) (J' 37) (J' 38) (J' 39) (J' 40) (J' 41) (J' 43) (D + 1) (3 - (D : Int)) l (J 36 6).toNat ∧ J' 36 6 = J 36 6 + (fsz (D + 1) l : Nat) ∧ J' 42 1 = J 42 1 + (fby (D + 1) l : Nat)) := by
  intro k
  induction k with
  | zero =>
    intro place J l7 h h32 h0 hp hen hk
    have hR := h.1
    have hs := h.2.1
    have hB := h.2.2.1.1
    have h36 := h.2.2.2.2.2.2.2.2.1
    have h42 := h.2.2.2.2.2.2.2.2.2
    have hn := h.2.2.2.2.1
    have s31 : (SH L)[31]? = some (2, 5) := rfl; have r31_0 : R 31 0 = some 32 := rr_lk hR rfl; have r31_1 : R 31 1 = some 36 := rr_lk hR rfl; have s32 : (SH L)[32]? = some (1, 4) := rfl; have r32_0 : R 32 0 = some 33 := rr_lk hR rfl; have r32_1 : R 32 1 = some 34 := rr_lk hR rfl; have r32_2 : R 32 2 = some 35 := rr_lk hR rfl; have s36 : (SH L)[36]? = some (9, 7) := rfl; have r36_0 : R 36 0 = some 37 := rr_lk hR rfl; have r36_1 : R 36 1 = some 38 := rr_lk hR rfl; have r36_2 : R 36 2 = some 39 := rr_lk hR rfl; have r36_3 : R 36 3 = some 40 := rr_lk hR rfl; have r36_4 : R 36 4 = some 41 := rr_lk hR rfl; have r36_5 : R 36 5 = some 42 := rr_lk hR rfl
    unfold grp
    by_cases c1 : place < en
    · rw [if_pos c1]
      simp only
      simp (disch := first | assumption | omega | exact bi_lo | exact bi_hi | exact bi_01 | exact jcmp_lo | exact jcmp_hi | exact (jor_r _ _).1 | exact (jor_r _ _).2 | exact (jand_r _ _).1 | exact (jand_r _ _).2) only [x33_20, x33_22, x33_24, x33_124, x33_126, x33_127, x33_130, x33_131, x33_134, x33_136, x33_137, x33_138, x33_139, x33_141, kb_some, kb_none, clr_vi, clr_ref, clr_null, clr_none, va_rf_some, va_rf_none, if_pos (show (6 : Int) ≤ 6 - ((0 : Nat) : Int) by omega), if_neg (show ¬ en ≤ place by omega)]
      refine wp_kb (rd_raise (d := d + 2 * D + 3) (K := K) (L := L) (J := J) hR h32 h36 h42) ?_
      rintro v J1 K1 R1 ⟨rfl, rfl, rfl, q4, q5, q6, q7⟩
      have h1 := RD_FRM h q4
      simp (disch := first | assumption | omega | exact bi_lo | exact bi_hi | exact bi_01 | exact jcmp_lo | exact jcmp_hi | exact (jor_r _ _).1 | exact (jor_r _ _).2 | exact (jand_r _ _).1 | exact (jand_r _ _).2) only [x33_144, x33_145, x33_146, x33_149, x33_151, x33_152, x33_153, kb_some, kb_none, clr_vi, clr_ref, clr_null, clr_none, va_rf_some, va_rf_none]
      refine wp_kb (rd_raise (d := d + 2 * D + 3) (K := K1) (L := L) (J := J1) hR q4.2.2.2.1 h1.2.2.2.2.2.2.2.2.1 h1.2.2.2.2.2.2.2.2.2) ?_
      rintro v J2 K2 R2 ⟨rfl, rfl, rfl, p4, p5, p6, p7⟩
      simp (disch := first | assumption | omega | exact bi_lo | exact bi_hi | exact bi_01 | exact jcmp_lo | exact jcmp_hi | exact (jor_r _ _).1 | exact (jor_r _ _).2 | exact (jand_r _ _).1 | exact (jand_r _ _).2) only [x33_156, kb_some, kb_none, clr_vi, clr_ref, clr_null, clr_none, va_rf_some, va_rf_none]
      refine wp_ok ⟨rfl, rfl, FRM_trans q4 p4, rfl, fun hf => ?_⟩
      exact p7 _ (by simp) (q7 [] (by simp) hf)
    · rw [if_neg c1]
      have : place = en := by omega
      subst this
      refine ⟨J, l7, ?_, ⟨fr_refl, by omega, by omega, by omega, fun _ _ => ⟨rfl, rfl, rfl, rfl, rfl⟩, fun _ _ => rfl⟩, rfl, fun _ _ => ⟨trivial, by simp [fsz_nil], by simp [fby_nil]⟩⟩
      simp (disch := first | assumption | omega | exact bi_lo | exact bi_hi | exact bi_01 | exact jcmp_lo | exact jcmp_hi | exact (jor_r _ _).1 | exact (jor_r _ _).2 | exact (jand_r _ _).1 | exact (jand_r _ _).2) only [x33_20, x33_22, x33_24, x33_124, x33_126, x33_127, kb_some, kb_none, clr_vi, clr_ref, clr_null, clr_none, va_rf_some, va_rf_none, if_pos (show (6 : Int) ≤ 6 - ((0 : Nat) : Int) by omega), if_pos (Int.le_refl place)]
      simp
  | succ k ih =>
    intro place J l7 h h32 h0 hp hen hk
    have hR := h.1
    have hs := h.2.1
    have hB := h.2.2.1.1
    have h36 := h.2.2.2.2.2.2.2.2.1
    have h42 := h.2.2.2.2.2.2.2.2.2
    have hn := h.2.2.2.2.1
    have hfr := RD_f h (place + 1)
    have ha := RD_at (d := d + 2 * D + 3) (K := K) h (place + 1) (by omega)
    have s31 : (SH L)[31]? = some (2, 5) := rfl; have r31_0 : R 31 0 = some 32 := rr_lk hR rfl; have r31_1 : R 31 1 = some 36 := rr_lk hR rfl; have s32 : (SH L)[32]? = some (1, 4) := rfl; have r32_0 : R 32 0 = some 33 := rr_lk hR rfl; have r32_1 : R 32 1 = some 34 := rr_lk hR rfl; have r32_2 : R 32 2 = some 35 := rr_lk hR rfl; have s36 : (SH L)[36]? = some (9, 7) := rfl; have r36_0 : R 36 0 = some 37 := rr_lk hR rfl; have r36_1 : R 36 1 = some 38 := rr_lk hR rfl; have r36_2 : R 36 2 = some 39 := rr_lk hR rfl; have r36_3 : R 36 3 = some 40 := rr_lk hR rfl; have r36_4 : R 36 4 = some 41 := rr_lk hR rfl; have r36_5 : R 36 5 = some 42 := rr_lk hR rfl
    have hk6 : ¬ (6 : Int) ≤ 6 - ((k + 1 : Nat) : Int) := by omega
    unfold grp
    by_cases c1 : place < en
    · rw [if_pos c1]
      by_cases c2 : en < place + 3 + f (place + 1)
      · rw [if_pos c2]
        simp only
        simp (disch := first | assumption | omega | exact bi_lo | exact bi_hi | exact bi_01 | exact jcmp_lo | exact jcmp_hi | exact (jor_r _ _).1 | exact (jor_r _ _).2 | exact (jand_r _ _).1 | exact (jand_r _ _).2) only [x33_20, x33_22, x33_24, x33_27, x33_29, x33_30, x33_33, x33_35, x33_36, x33_37, x33_38, x33_41, x33_43, x33_44, x33_45, x33_48, x33_49, x33_51, x33_53, x33_54, x33_57, x33_58, x33_61, x33_62, x33_63, x33_64, x33_65, x33_66, kb_some, kb_none, clr_vi, clr_ref, clr_null, clr_none, va_rf_some, va_rf_none, if_neg hk6, if_neg (show ¬ en ≤ place by omega), hs, ha, if_neg (show ¬ place + 3 + f (place + 1) ≤ en by omega)]
        refine wp_kb (rd_raise (d := d + 2 * D + 3) (K := K) (L := L) (J := J) hR h32 h36 h42) ?_
        rintro v J1 K1 R1 ⟨rfl, rfl, rfl, q4, q5, q6, q7⟩
        have h1 := RD_FRM h q4
        simp (disch := first | assumption | omega | exact bi_lo | exact bi_hi | exact bi_01 | exact jcmp_lo | exact jcmp_hi | exact (jor_r _ _).1 | exact (jor_r _ _).2 | exact (jand_r _ _).1 | exact (jand_r _ _).2) only [x33_69, x33_70, x33_71, x33_74, x33_76, x33_77, x33_78, kb_some, kb_none, clr_vi, clr_ref, clr_null, clr_none, va_rf_some, va_rf_none]
        refine wp_kb (rd_raise (d := d + 2 * D + 3) (K := K1) (L := L) (J := J1) hR q4.2.2.2.1 h1.2.2.2.2.2.2.2.2.1 h1.2.2.2.2.2.2.2.2.2) ?_
        rintro v J2 K2 R2 ⟨rfl, rfl, rfl, p4, p5, p6, p7⟩
        simp (disch := first | assumption | omega | exact bi_lo | exact bi_hi | exact bi_01 | exact jcmp_lo | exact jcmp_hi | exact (jor_r _ _).1 | exact (jor_r _ _).2 | exact (jand_r _ _).1 | exact (jand_r _ _).2) only [x33_81, kb_some, kb_none, clr_vi, clr_ref, clr_null, clr_none, va_rf_some, va_rf_none]
        refine wp_ok ⟨rfl, rfl, FRM_trans q4 p4, rfl, fun hf => ?_⟩
        exact p7 _ (by simp) (q7 [] (by simp) hf)
      · rw [if_neg c2]
        have hf0 := RD_f0 h (p := place + 1) (by omega) (by omega)
        obtain ⟨v, J1, K1, R1, q1, q2, q3, q4⟩ := hch J place (place + 1) (place + 2) h h32 (by omega) (by omega) (by omega) hf0 (by omega)
        subst q2; subst q3
        have h1 := RD_FRM h q4.1
        have go : EE (d + 2 * D + 4) 33 20 [some (.ref 31), some (vi pl), some (vi en), some (vi layer), some (vi t), some (vi place), some (vi (6 - ((k + 1 : Nat) : Int))), l7] [] (SH L) J K1 R1 = kb (ok v (SH L) J1 K1 R1) (d + 2 * D + 3) 33 99 [some (.ref 31), some (vi pl), some (vi en), some (vi layer), some (vi t), some (vi place), some (vi (6 - ((k + 1 : Nat) : Int))), some (vi (place + 3 + f (place + 1)))] [] := by
          rw [← hl] at q1
          rw [← q1]
          simp (disch := first | assumption | omega | exact bi_lo | exact bi_hi | exact bi_01 | exact jcmp_lo | exact jcmp_hi | exact (jor_r _ _).1 | exact (jor_r _ _).2 | exact (jand_r _ _).1 | exact (jand_r _ _).2) only [x33_20, x33_22, x33_24, x33_27, x33_29, x33_30, x33_33, x33_35, x33_36, x33_37, x33_38, x33_41, x33_43, x33_44, x33_45, x33_48, x33_49, x33_51, x33_53, x33_54, x33_57, x33_58, x33_61, x33_62, x33_63, x33_64, x33_65, x33_66, x33_69, x33_70, x33_71, x33_74, x33_76, x33_77, x33_78, x33_81, x33_82, x33_83, x33_85, x33_87, x33_88, x33_89, x33_91, x33_92, x33_93, x33_94, x33_95, x33_96, kb_some, kb_none, clr_vi, clr_ref, clr_null, clr_none, va_rf_some, va_rf_none, if_neg hk6, if_neg (show ¬ en ≤ place by omega), hs, ha, if_pos (show place + 3 + f (place + 1) ≤ en by omega)]
        have hlen : ∀ e', chk f ver D place (place + 1) (place + 2) = .error e' → e'.length ≤ D + 1 := fun e' he => (chk_len D _ _ _ e' he).2
        generalize chk f ver D place (place + 1) (place + 2) = res at q4 hlen ⊢
        obtain ⟨q4, q5⟩ := q4
        cases res with
        | error e' =>
          obtain ⟨rfl, q6⟩ := q5
          simp only
          rw [go]
          simp (disch := first | assumption | omega | exact bi_lo | exact bi_hi | exact bi_01 | exact jcmp_lo | exact jcmp_hi | exact (jor_r _ _).1 | exact (jor_r _ _).2 | exact (jand_r _ _).1 | exact (jand_r _ _).2) only [x33_99, x33_102, x33_103, x33_106, x33_108, x33_109, x33_110, kb_some, kb_none, clr_vi, clr_ref, clr_null, clr_none, va_rf_some, va_rf_none, if_true]
          refine wp_kb (rd_raise (d := d + 2 * D + 3) (K := K1) (L := L) (J := J1) hR q4.2.2.2.1 h1.2.2.2.2.2.2.2.2.1 h1.2.2.2.2.2.2.2.2.2) ?_
          rintro v J2 K2 R2 ⟨rfl, rfl, rfl, p4, p5, p6, p7⟩
          simp (disch := first | assumption | omega | exact bi_lo | exact bi_hi | exact bi_01 | exact jcmp_lo | exact jcmp_hi | exact (jor_r _ _).1 | exact (jor_r _ _).2 | exact (jand_r _ _).1 | exact (jand_r _ _).2) only [x33_113, kb_some, kb_none, clr_vi, clr_ref, clr_null, clr_none, va_rf_some, va_rf_none]
          refine wp_ok ⟨rfl, rfl, FRM_trans q4 p4, rfl, fun hf => ?_⟩
          have := hlen e' rfl
          exact p7 _ (by omega) (q6 hf)
        | ok x =>
          obtain ⟨rfl, q6, q7⟩ := q5
          have go2 : EE (d + 2 * D + 4) 33 20 [some (.ref 31), some (vi pl), some (vi en), some (vi layer), some (vi t), some (vi place), some (vi (6 - ((k + 1 : Nat) : Int))), l7] [] (SH L) J K1 R1 = EE (d + 2 * D + 4) 33 20 [some (.ref 31), some (vi pl), some (vi en), some (vi layer), some (vi t), some (vi (place + 3 + f (place + 1))), some (vi (6 - (k : Int))), some (vi (place + 3 + f (place + 1)))] [] (SH L) J1 K1 R1 := by
            rw [go, show (6 : Int) - (k : Int) = 6 - ((k + 1 : Nat) : Int) + 1 by omega]
            simp (disch := first | assumption | omega | exact bi_lo | exact bi_hi | exact bi_01 | exact jcmp_lo | exact jcmp_hi | exact (jor_r _ _).1 | exact (jor_r _ _).2 | exact (jand_r _ _).1 | exact (jand_r _ _).2) only [x33_99, x33_114, x33_116, x33_118, x33_121, kb_some, kb_none, clr_vi, clr_ref, clr_null, clr_none, va_rf_some, va_rf_none, if_neg (show ¬ (1 : Int) = 0 by omega)]
          rw [go2]
          have ih' := ih (place + 3 + f (place + 1)) J1 (some (vi (place + 3 + f (place + 1)))) h1 q4.2.2.2.1 (by omega) (by omega) (by rw [q4.1 e (by have := h.2.2.2.1; unfold A32; omega)]; exact hen) (by omega)
          simp only at ih' ⊢
          generalize grp f (chk f ver D) layer en pl k (place + 3 + f (place + 1)) = r2 at ih' ⊢
          cases r2 with
          | error e2 =>
            simp only at ih' ⊢
            refine wp_mono ih' ?_
            rintro v J2 K2 R2 ⟨w1, w2, w3, w4, w5⟩
            exact ⟨w1, w2, FRM_trans q4 w3, w4, fun hf => w5 ⟨by rw [q6]; exact hf.1, trivial⟩⟩
          | ok l =>
            simp only at ih' ⊢
            obtain ⟨J2, l7', e1, e2, e3, e4⟩ := ih'
            refine ⟨J2, l7', ?_, FRM_trans q4 e2, e3.trans q6, ?_⟩
            · rw [e1, List.length_cons, show (6 : Int) - (k : Int) + (l.length : Nat) = 6 - ((k + 1 : Nat) : Int) + ((l.length + 1 : Nat) : Int) by omega]
            · rw [fsz_cons, fby_cons']
              intro g1 g2
              obtain ⟨a1, a2, a3⟩ := q7 (by omega) (by omega)
              obtain ⟨b1, b2, b3⟩ := e4 (by omega) (by omega)
              have a1' := FRM_cT a1 e2 (by omega)
              rw [cF_cons]
              refine ⟨⟨a1'.1, a1'.2, ?_⟩, by omega, by omega⟩
              rw [show (J 36 6).toNat + 1 + fsz D x.2 = (J1 36 6).toNat by omega]
              exact b1
    · rw [if_neg c1]
      have : place = en := by omega
      subst this
      refine ⟨J, l7, ?_, ⟨fr_refl, by omega, by omega, by omega, fun _ _ => ⟨rfl, rfl, rfl, rfl, rfl⟩, fun _ _ => rfl⟩, rfl, fun _ _ => ⟨trivial, by simp [fsz_nil], by simp [fby_nil]⟩⟩
      simp (disch := first | assumption | omega | exact bi_lo | exact bi_hi | exact bi_01 | exact jcmp_lo | exact jcmp_hi | exact (jor_r _ _).1 | exact (jor_r _ _).2 | exact (jand_r _ _).1 | exact (jand_r _ _).2) only [x33_20, x33_22, x33_24, x33_27, x33_29, x33_30, x33_124, x33_126, x33_127, kb_some, kb_none, clr_vi, clr_ref, clr_null, clr_none, va_rf_some, va_rf_none, if_neg hk6, if_pos (Int.le_refl place)]
      simp
end
