/-! the class writes chunks, groups, the file -/
section
variable {L d t ty wo le sp so co ce : Nat} {J0 K : mJ} {R : mm_R} {l : List Int} {v w y : Int} {g : Int → Int}
theorem l_wend (h : WT L J0 R t ty wo le sp so co ce) {i4 : Int} {i lp : Nat} {P : List Int} {l6 : Option Value} (hlp : lp < l.length) (hl : l.length + P.length + 1 ≤ 240) :
    EE (d + 2) 36 86 [some (.ref 57), some (.ref t), some (vi i), some (vi lp), some (vi i4), some (vi (l.length : Nat)), l6] [] (SH L) (apL 58 59 J0 (l ++ P)) K R = ok none (SH L) (apL 58 59 J0 (l.set lp P.length ++ P ++ [ckL (J0 57 1) P 0])) K R := by
  have hR := h.1
  have h0 := h.2.2.2.1
  have hv := h.2.2.2.2.2.2
  have s57 : (SH L)[57]? = some (3, 2) := rfl; have r57_0 : R 57 0 = some 58 := rr_lk hR rfl; have s58 : (SH L)[58]? = some (0, 2) := rfl; have r58_0 : R 58 0 = some 59 := rr_lk hR rfl
  have hsz := wo_size (L := L) (d := d + 1) (K := K) (l := l ++ P) hR h0
  rw [List.length_append, Int.natCast_add] at hsz
  have hrp := wo_replace (L := L) (d := d) (K := K) (l := l ++ P) (y := (P.length : Nat)) hR h0 (p := lp) (by rw [List.length_append]; omega) (by rw [List.length_append]; omega)
  rw [List.set_append_left _ _ hlp] at hrp
  have hck := wo_check (L := L) (d := d) (K := K) (A := l.set lp P.length) (P := P) hR h0 hv (by rw [List.length_append, List.length_set]; omega)
  rw [List.length_set] at hck
  have hap := wo_append (L := L) (d := d + 1) (K := K) (y := ckL (J0 57 1) P 0) hR h0 (l := l.set lp P.length ++ P) (by rw [List.length_append, List.length_set]; omega)
  have e57 : ∀ l, apL 58 59 J0 l 57 1 = J0 57 1 := fun l => by rw [apL_o (by decide)]
  have es : (l.length : Int) + (P.length : Int) - (l.length : Int) = P.length := by omega
  simp (disch := first | assumption | omega | exact bi_lo | exact bi_hi | exact bi_01 | exact jcmp_lo | exact jcmp_hi | exact (jor_r _ _).1 | exact (jor_r _ _).2 | exact (jand_r _ _).1 | exact (jand_r _ _).2) only [x36_86, x36_87, x36_90, x36_93, x36_95, x36_96, x36_98, x36_99, x36_102, x36_103, x36_105, x36_108, x36_109, x36_112, x36_113, x36_116, x36_117, x36_120, x36_122, x36_124, x36_127, x36_130, x36_131, kb_some, kb_none, clr_vi, clr_ref, clr_null, clr_none, va_rf_some, va_rf_none, hsz, es, hrp, e57, hck, hap]
/-- what is said of chunks of D levels -/
def WPD (L d : Nat) (g : Int → Int) (t ty wo le sp so co ce : Nat) (J0 K : mJ) (R : mm_R) (D : Nat) : Prop := ∀ (x : Nd D) (i lp : Nat) (lv : Int) (l : List Int), cF g (J0 co 1) (J0 ty) (J0 wo) (J0 le) (J0 sp) (J0 so) (J0 ce) (D + 1) lv ([x] : List (Nd D)) i → wF g (D + 1) ([x] : List (Nd D)) → (i : Int) + (1 + fsz D x.2 : Nat) ≤ J0 t 6 → lp < l.length → l.length + (payT g (J0 57 1) D x).length + 1 ≤ 240 →
  EE (d + 2 * D + 3) 36 0 [some (.ref 57), some (.ref t), some (vi i), some (vi lp), some (vi (3 - (D : Int))), none, none] [] (SH L) (apL 58 59 J0 l) K R = ok none (SH L) (apL 58 59 J0 (l.set lp (payT g (J0 57 1) D x).length ++ payT g (J0 57 1) D x ++ [ckL (J0 57 1) (payT g (J0 57 1) D x) 0])) K R
theorem set_last2 {l : List Int} {a b c : Int} : (l ++ [a, b]).set (l.length + 1) c = l ++ [a, c] := by
  rw [List.set_append_right _ _ (by omega), show l.length + 1 - l.length = 1 by omega]; rfl
theorem l_wgroup (h : WT L J0 R t ty wo le sp so co ce) {D : Nat} (hD : D ≤ 2) (hs : WPD L d g t ty wo le sp so co ce J0 K R D) {i s0 : Nat} (hi0 : (i : Int) < J0 t 6) (hsp : J0 sp i = s0) (his : (i : Int) + s0 ≤ J0 t 6) : ∀ (F : List (Nd D)) (u : Nat) (lv : Int) (l : List Int), cF g (J0 co 1) (J0 ty) (J0 wo) (J0 le) (J0 sp) (J0 so) (J0 ce) (D + 1) lv F u → wF g (D + 1) F → u + fsz (D + 1) F = i + s0 → l.length + (wrF g (J0 57 1) (D + 1) F).length ≤ 239 →
    EE (d + 2 * D + 4) 37 11 [some (.ref 57), some (.ref t), some (vi i), some (vi (2 - (D : Int))), some (vi u)] [] (SH L) (apL 58 59 J0 l) K R = ok none (SH L) (apL 58 59 J0 (l ++ wrF g (J0 57 1) (D + 1) F)) K R := by
  have hR := h.1
  have h0 := h.2.2.2.1
  have st := h.2.1.1
  have ht6 := h.2.2.2.2.1
  have s57 : (SH L)[57]? = some (3, 2) := rfl; have r57_0 : R 57 0 = some 58 := rr_lk hR rfl; have s58 : (SH L)[58]? = some (0, 2) := rfl; have r58_0 : R 58 0 = some 59 := rr_lk hR rfl
  have hspi := fun d l => wt_sp (L := L) (d := d) (K := K) (l := l) h hi0
  rw [hsp] at hspi
  intro F
  induction F with
  | nil =>
    intro u lv l hc hw he hl
    rw [fsz_nil] at he
    simp (disch := first | assumption | omega | exact bi_lo | exact bi_hi | exact bi_01 | exact jcmp_lo | exact jcmp_hi | exact (jor_r _ _).1 | exact (jor_r _ _).2 | exact (jand_r _ _).1 | exact (jand_r _ _).2) only [x37_11, x37_13, x37_14, x37_14n, x37_15, x37_16, x37_19, x37_20, x37_83, kb_some, kb_none, clr_vi, clr_ref, clr_null, clr_none, va_rf_some, va_rf_none, ↓bi_ite_t, ↓bi_ite_f, ↓jc_lt_t, ↓jc_lt_f, ↓jc_gt_t, ↓jc_gt_f, ↓jc_le_t, ↓jc_le_f, ↓jc_ge_t, ↓jc_ge_f, ↓jc_eq_t, ↓jc_eq_f, ↓if_pos, ↓if_neg, hspi]
    rw [wrF_nil, List.append_nil]
  | cons x F ih =>
    intro u lv l hc hw he hl
    rw [cF_cons] at hc
    rw [wF_cons] at hw
    rw [fsz_cons] at he
    rw [wrF_len] at hl
    obtain ⟨u1, u2, u3⟩ := hc
    have hty := fun d l => wt_ty (L := L) (d := d) (K := K) (l := l) h (i := u) (by omega)
    rw [u1.1] at hty
    have hspu := fun d l => wt_sp (L := L) (d := d) (K := K) (l := l) h (i := u) (by omega)
    rw [u1.2.2.2.1] at hspu
    have ha1 := wo_append (L := L) (d := d + 2 * D + 3) (K := K) (y := x.1.1) hR h0 (l := l) (by omega)
    have ha2 := wo_append (L := L) (d := d + 2 * D + 3) (K := K) (y := 0) hR h0 (l := l ++ [x.1.1]) (by simp; omega)
    rw [List.append_assoc, show [x.1.1] ++ [(0 : Int)] = [x.1.1, 0] from rfl] at ha2
    have hsz := wo_size (L := L) (d := d + 2 * D + 3) (K := K) (l := l ++ [x.1.1, 0]) hR h0
    have elen : (l ++ [x.1.1, (0 : Int)]).length = l.length + 2 := by simp
    rw [elen, Int.natCast_add] at hsz
    have hwp := hs x u (l.length + 1) lv (l ++ [x.1.1, 0]) ⟨u1, u2, trivial⟩ ⟨hw.1, trivial⟩ (by omega) (by simp) (by simp; omega)
    rw [set_last2] at hwp
    rw [show (3 : Int) - (D : Int) = 2 - (D : Int) + 1 by omega, show ((l.length + 1 : Nat) : Int) = (l.length : Int) + ((2 : Nat) : Int) - 1 by omega] at hwp
    have ih' := ih (u + 1 + fsz D x.2) lv (l ++ [x.1.1, ((payT g (J0 57 1) D x).length : Int)] ++ payT g (J0 57 1) D x ++ [ckL (J0 57 1) (payT g (J0 57 1) D x) 0]) u3 hw.2 (by omega) (by simp; omega)
    rw [show ((u + 1 + fsz D x.2 : Nat) : Int) = (u : Int) + (1 + (fsz D x.2 : Nat)) by omega] at ih'
    have go : ∀ X, EE (d + 2 * D + 4) 37 11 [some (.ref 57), some (.ref t), some (vi i), some (vi (2 - (D : Int))), some (vi ((u : Int) + (1 + (fsz D x.2 : Nat))))] [] (SH L) (apL 58 59 J0 (l ++ [x.1.1, ((payT g (J0 57 1) D x).length : Int)] ++ payT g (J0 57 1) D x ++ [ckL (J0 57 1) (payT g (J0 57 1) D x) 0])) K R = X → EE (d + 2 * D + 4) 37 11 [some (.ref 57), some (.ref t), some (vi i), some (vi (2 - (D : Int))), some (vi u)] [] (SH L) (apL 58 59 J0 l) K R = X := by
      intro X hX
      simp (disch := first | assumption | omega | exact bi_lo | exact bi_hi | exact bi_01 | exact jcmp_lo | exact jcmp_hi | exact (jor_r _ _).1 | exact (jor_r _ _).2 | exact (jand_r _ _).1 | exact (jand_r _ _).2) only [x37_11, x37_13, x37_14, x37_14n, x37_15, x37_16, x37_19, x37_20, kb_some, kb_none, clr_vi, clr_ref, clr_null, clr_none, va_rf_some, va_rf_none, ↓bi_ite_t, ↓bi_ite_f, ↓jc_lt_t, ↓jc_lt_f, ↓jc_gt_t, ↓jc_gt_f, ↓jc_le_t, ↓jc_le_f, ↓jc_ge_t, ↓jc_ge_f, ↓jc_eq_t, ↓jc_eq_f, ↓if_pos, ↓if_neg, hspi]
      simp (disch := first | assumption | omega | exact bi_lo | exact bi_hi | exact bi_01 | exact jcmp_lo | exact jcmp_hi | exact (jor_r _ _).1 | exact (jor_r _ _).2 | exact (jand_r _ _).1 | exact (jand_r _ _).2) only [x37_23, x37_24, x37_27, x37_27n, x37_28, x37_30, x37_33, x37_36, x37_37, x37_38, x37_41, x37_42, x37_45, x37_46, x37_47, x37_47n, x37_48, x37_50, x37_51, x37_54, x37_57, x37_58, x37_59, x37_60, x37_61, x37_62, x37_65, x37_67, x37_67n, x37_68, x37_70, x37_73, x37_74, x37_77, x37_78, x37_80, kb_some, kb_none, clr_vi, clr_ref, clr_null, clr_none, va_rf_some, va_rf_none, ↓bi_ite_t, ↓bi_ite_f, ↓jc_lt_t, ↓jc_lt_f, ↓jc_gt_t, ↓jc_gt_f, ↓jc_le_t, ↓jc_le_f, ↓jc_ge_t, ↓jc_ge_f, ↓jc_eq_t, ↓jc_eq_f, ↓if_pos, ↓if_neg, hty, ha1, ha2, hsz, hwp, hspu]
      exact hX
    rw [go _ ih', wrF_cons]
    simp
theorem wp_D (h : WT L J0 R t ty wo le sp so co ce) (D : Nat) (hD : D ≤ 3) (hg : ∀ D', D = D' + 1 → WPD L d g t ty wo le sp so co ce J0 K R D') : WPD L d g t ty wo le sp so co ce J0 K R D := by
  intro x i lp lv l hc hw hi hlp hl
  have hR := h.1
  have h0 := h.2.2.2.1
  have st := h.2.1.1
  have ht6 := h.2.2.2.2.1
  have s57 : (SH L)[57]? = some (3, 2) := rfl; have r57_0 : R 57 0 = some 58 := rr_lk hR rfl; have s58 : (SH L)[58]? = some (0, 2) := rfl; have r58_0 : R 58 0 = some 59 := rr_lk hR rfl
  rw [cF_cons] at hc
  rw [wF_cons] at hw
  obtain ⟨u1, u2, -⟩ := hc
  obtain ⟨w1, w2, w3, w4⟩ := hw.1
  have hty := fun d l => wt_ty (L := L) (d := d) (K := K) (l := l) h (i := i) (by omega)
  rw [u1.1] at hty
  have hwo := fun d l => wt_wo (L := L) (d := d) (K := K) (l := l) h (i := i) (by omega)
  rw [u1.2.1] at hwo
  have hsz := fun d => wo_size (L := L) (d := d) (K := K) (l := l) hR h0
  by_cases c : x.1.1 = 103
  · have ep : payT g (J0 57 1) D x = wrF g (J0 57 1) D x.2 := if_pos c
    rw [ep] at hl ⊢
    obtain ⟨b1, b2, b3⟩ := w2 c
    rw [c] at hty
    cases D with
    | zero => omega
    | succ D' =>
      have hend := l_wend (L := L) (d := d + 2 * D' + 3) (K := K) h (i4 := 2 - (D' : Int)) (i := i) (lp := lp) (l := l) (P := wrF g (J0 57 1) (D' + 1) x.2) (l6 := none) hlp hl
      have hgr := l_wgroup h (by omega) (hg D' rfl) (i := i) (s0 := 1 + fsz (D' + 1) x.2) (by omega) (by rw [u1.2.2.2.1]; omega) (by omega) x.2 (i + 1) (lv + 1) l u2 w4 (by omega) (by omega)
      have go : EE (d + 2 * D' + 4) 37 0 [some (.ref 57), some (.ref t), some (vi i), some (vi (2 - (D' : Int))), none] [] (SH L) (apL 58 59 J0 l) K R = ok none (SH L) (apL 58 59 J0 (l ++ wrF g (J0 57 1) (D' + 1) x.2)) K R := by
        rw [Int.natCast_succ] at hgr
        simp (disch := first | assumption | omega | exact bi_lo | exact bi_hi | exact bi_01 | exact jcmp_lo | exact jcmp_hi | exact (jor_r _ _).1 | exact (jor_r _ _).2 | exact (jand_r _ _).1 | exact (jand_r _ _).2) only [x37_0, x37_1, x37_2, x37_5, x37_6, x37_7, x37_8, x37_9, kb_some, kb_none, clr_vi, clr_ref, clr_null, clr_none, va_rf_some, va_rf_none, ↓bi_ite_t, ↓bi_ite_f, ↓jc_lt_t, ↓jc_lt_f, ↓jc_gt_t, ↓jc_gt_f, ↓jc_le_t, ↓jc_le_f, ↓jc_ge_t, ↓jc_ge_f, ↓jc_eq_t, ↓jc_eq_f, ↓if_pos, ↓if_neg]
        exact hgr
      rw [show (3 : Int) - ((D' + 1 : Nat) : Int) = 2 - (D' : Int) by omega, show d + 2 * (D' + 1) + 3 = d + 2 * D' + 4 + 1 by omega]
      rw [show d + 2 * D' + 3 + 2 = d + 2 * D' + 4 + 1 by omega] at hend
      simp (disch := first | assumption | omega | exact bi_lo | exact bi_hi | exact bi_01 | exact jcmp_lo | exact jcmp_hi | exact (jor_r _ _).1 | exact (jor_r _ _).2 | exact (jand_r _ _).1 | exact (jand_r _ _).2) only [x36_0, x36_1, x36_4, x36_7, x36_9, x36_9n, x36_10, x36_11, x36_14, x36_16, x36_19, x36_20, x36_20n, x36_21, x36_22, x36_25, x36_28, x36_31, x36_31n, x36_32, x36_33, x36_36, x36_38, x36_41, x36_42, x36_42n, x36_43, x36_44, x36_46, x36_49, kb_some, kb_none, clr_vi, clr_ref, clr_null, clr_none, va_rf_some, va_rf_none, ↓bi_ite_t, ↓bi_ite_f, ↓jc_lt_t, ↓jc_lt_f, ↓jc_gt_t, ↓jc_gt_f, ↓jc_le_t, ↓jc_le_f, ↓jc_ge_t, ↓jc_ge_f, ↓jc_eq_t, ↓jc_eq_f, ↓if_pos, ↓if_neg, hsz, hty, go]
      exact hend
  · have ep : payT g (J0 57 1) D x = leafB g x.1 := if_neg c
    rw [ep] at hl ⊢
    rw [leafB_len] at hl
    have hend := fun P l6 hP => l_wend (L := L) (d := d + 2 * D + 1) (K := K) h (i4 := 3 - (D : Int)) (i := i) (lp := lp) (l := l) (P := P) (l6 := l6) hlp hP
    rw [show d + 2 * D + 1 + 2 = d + 2 * D + 3 by omega] at hend
    rcases w1 with ⟨w1, wa, wb⟩ | ⟨w1, wa, wb, wc, wd, we⟩ | w1
    · rw [if_pos w1] at hl
      rw [w1] at hty
      have hr := lenN_r (v := x.1.2.1)
      have hnu := w_number (L := L) (d := d + 2 * D + 1) (K := K) (w := x.1.2.1) hR h0 ⟨wa, wb⟩ (l := l) (by omega)
      have el : leafB g x.1 = nbL x.1.2.1 (lenN x.1.2.1) := if_pos w1
      rw [el]
      simp (disch := first | assumption | omega | exact bi_lo | exact bi_hi | exact bi_01 | exact jcmp_lo | exact jcmp_hi | exact (jor_r _ _).1 | exact (jor_r _ _).2 | exact (jand_r _ _).1 | exact (jand_r _ _).2) only [x36_0, x36_1, x36_4, x36_7, x36_9, x36_9n, x36_10, x36_11, x36_14, x36_16, x36_19, x36_20, x36_20n, x36_21, x36_22, x36_25, x36_28, kb_some, kb_none, clr_vi, clr_ref, clr_null, clr_none, va_rf_some, va_rf_none, ↓bi_ite_t, ↓bi_ite_f, ↓jc_lt_t, ↓jc_lt_f, ↓jc_gt_t, ↓jc_gt_f, ↓jc_le_t, ↓jc_le_f, ↓jc_ge_t, ↓jc_ge_f, ↓jc_eq_t, ↓jc_eq_f, ↓if_pos, ↓if_neg, hsz, hty, hwo, hnu]
      exact hend _ _ (by rw [nbL_len]; omega)
    · have hn : x.1.1 ≠ 110 := by omega
      rw [if_neg hn] at hl
      have hlp := l_wrow (L := L) (d := d + 2 * D + 1) (K := K) h (i := i) (by omega) u1 w1 wb (l3 := lp) (l4 := 3 - (D : Int)) (l5 := (l.length : Nat)) x.1.2.1.toNat 0 l (by omega) (by omega) (by omega)
      rw [show d + 2 * D + 1 + 2 = d + 2 * D + 3 by omega, Int.add_zero] at hlp
      have el : leafB g x.1 = rowL g x.1.2.1.toNat x.1.2.2 := if_neg hn
      rw [el]
      simp (disch := first | assumption | omega | exact bi_lo | exact bi_hi | exact bi_01 | exact jcmp_lo | exact jcmp_hi | exact (jor_r _ _).1 | exact (jor_r _ _).2 | exact (jand_r _ _).1 | exact (jand_r _ _).2) only [x36_0, x36_1, x36_4, x36_7, x36_9, x36_9n, x36_10, x36_11, x36_14, x36_16, x36_19, x36_20, x36_20n, x36_21, x36_22, x36_25, x36_28, x36_31, x36_31n, x36_32, x36_33, x36_36, x36_38, x36_41, x36_42, x36_42n, x36_43, x36_44, x36_46, x36_49, x36_52, x36_53, kb_some, kb_none, clr_vi, clr_ref, clr_null, clr_none, va_rf_some, va_rf_none, ↓bi_ite_t, ↓bi_ite_f, ↓jc_lt_t, ↓jc_lt_f, ↓jc_gt_t, ↓jc_gt_f, ↓jc_le_t, ↓jc_le_f, ↓jc_ge_t, ↓jc_ge_f, ↓jc_eq_t, ↓jc_eq_f, ↓if_pos, ↓if_neg, hsz, hty]
      rw [hlp]
      exact hend _ _ (by rw [rowL_len]; omega)
    · exact absurd w1 c
theorem wp_all (h : WT L J0 R t ty wo le sp so co ce) : ∀ (D : Nat), D ≤ 3 → WPD L d g t ty wo le sp so co ce J0 K R D := by
  intro D
  induction D with
  | zero => exact fun hd => wp_D h 0 hd (fun D' h => absurd h (by omega))
  | succ D ih =>
    intro hd
    refine wp_D h (D + 1) hd ?_
    intro D' h'
    have e : D = D' := by omega
    subst e
    exact ih (by omega)
end
