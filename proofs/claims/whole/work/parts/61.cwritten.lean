/-! the class writes a file -/
def zL : List (Nd 3) → List Int
  | [] => []
  | x :: F => [x.1.1, 0, 0] ++ zL F
theorem zL_cons {x : Nd 3} {F : List (Nd 3)} : zL (x :: F) = [x.1.1, 0, 0] ++ zL F := rfl
theorem zL_len : ∀ F : List (Nd 3), (zL F).length = 3 * F.length := by
  intro F
  induction F with
  | nil => rfl
  | cons x F ih => unfold zL; rw [List.length_append, ih, List.length_cons]; simp; omega
theorem set_1 {A X : List Int} {a b c v : Int} : (A ++ ([a, b, c] ++ X)).set (A.length + 1) v = A ++ ([a, v, c] ++ X) := by
  rw [List.set_append_right _ _ (by omega), show A.length + 1 - A.length = 1 by omega]; rfl
theorem set_2 {A X : List Int} {a b c v : Int} : (A ++ ([a, b, c] ++ X)).set (A.length + 2) v = A ++ ([a, b, v] ++ X) := by
  rw [List.set_append_right _ _ (by omega), show A.length + 2 - A.length = 2 by omega]; rfl
def wv (J : mJ) (v : Int) : mJ := if 0 < J 58 1 then mm_up (mm_up J 57 1 v) 58 1 0 else mm_up J 57 1 v
theorem wv_o {J : mJ} {v : Int} {a : Nat} (h : a ≠ 57 ∧ a ≠ 58) : wv J v a = J a := by
  unfold wv
  split
  · rw [up_ne h.2, up_ne h.1]
  · rw [up_ne h.1]
theorem wv_57 {J : mJ} {v : Int} : wv J v 57 1 = v := by
  unfold wv
  split
  · rw [up_ne (by decide), up_s]
  · rw [up_s]
theorem wv_58 {J : mJ} {v : Int} (h : 0 ≤ J 58 1) : wv J v 58 1 = 0 := by
  unfold wv
  split
  · rw [up_s]
  · rw [up_ne (by decide)]; omega
section
variable {L d t ty wo le sp so co ce : Nat} {J0 K : mJ} {R : mm_R} {l : List Int} {v w y : Int} {g : Int → Int}
theorem l_wents (h : WT L J0 R t ty wo le sp so co ce) {l2 : Int} {l4 : Option Value} : ∀ (F : List (Nd 3)) (u : Nat) (l : List Int), cF g (J0 co 1) (J0 ty) (J0 wo) (J0 le) (J0 sp) (J0 so) (J0 ce) 4 0 F u → (u + fsz 4 F : Nat) = J0 t 6 → l.length + 3 * F.length ≤ 239 →
    EE (d + 2) 35 59 [some (.ref 57), some (.ref t), some (vi l2), some (vi u), l4] [] (SH L) (apL 58 59 J0 l) K R = EE (d + 2) 35 113 [some (.ref 57), some (.ref t), some (vi l2), some (vi (J0 t 6)), l4] [] (SH L) (apL 58 59 J0 (l ++ zL F)) K R := by
  have hR := h.1
  have h0 := h.2.2.2.1
  have hT := h.2.1
  have st := hT.1
  have ht6 := h.2.2.2.2.1
  have s57 : (SH L)[57]? = some (3, 2) := rfl; have r57_0 : R 57 0 = some 58 := rr_lk hR rfl; have s58 : (SH L)[58]? = some (0, 2) := rfl; have r58_0 : R 58 0 = some 59 := rr_lk hR rfl
  have e6 : ∀ l, apL 58 59 J0 l t 6 = J0 t 6 := fun l => by rw [apL_o (by have := h.2.2.1; omega)]
  have hts := fun d l => t_size (d := d) (J := apL 58 59 J0 l) (K := K) hT
  simp only [e6] at hts
  intro F
  induction F with
  | nil =>
    intro u l hc he hl
    have he' : (u : Int) = J0 t 6 := by rw [← he]; rfl
    simp (disch := first | assumption | omega | exact bi_lo | exact bi_hi | exact bi_01 | exact jcmp_lo | exact jcmp_hi | exact (jor_r _ _).1 | exact (jor_r _ _).2 | exact (jand_r _ _).1 | exact (jand_r _ _).2) only [x35_59, x35_60, x35_60n, x35_61, x35_64, kb_some, kb_none, clr_vi, clr_ref, clr_null, clr_none, va_rf_some, va_rf_none, ↓bi_ite_t, ↓bi_ite_f, ↓jc_lt_t, ↓jc_lt_f, ↓jc_gt_t, ↓jc_gt_f, ↓jc_le_t, ↓jc_le_f, ↓jc_ge_t, ↓jc_ge_f, ↓jc_eq_t, ↓jc_eq_f, ↓if_pos, ↓if_neg, hts]
    rw [he']
    unfold zL; rw [List.append_nil]
  | cons x F ih =>
    intro u l hc he hl
    rw [fsz_c4] at he
    rw [List.length_cons] at hl
    rw [cF_cons] at hc
    obtain ⟨u1, u2, u3⟩ := hc
    have hty := fun d l => wt_ty (L := L) (d := d) (K := K) (l := l) h (i := u) (by omega)
    rw [u1.1] at hty
    have hspu := fun d l => wt_sp (L := L) (d := d) (K := K) (l := l) h (i := u) (by omega)
    rw [u1.2.2.2.1] at hspu
    have ha1 := wo_append (L := L) (d := d + 1) (K := K) (y := x.1.1) hR h0 (l := l) (by omega)
    have ha2 := wo_append (L := L) (d := d + 1) (K := K) (y := 0) hR h0 (l := l ++ [x.1.1]) (by simp; omega)
    have ha3 := wo_append (L := L) (d := d + 1) (K := K) (y := 0) hR h0 (l := l ++ [x.1.1] ++ [0]) (by simp; omega)
    have ih' := ih (u + 1 + fsz 3 x.2) (l ++ [x.1.1] ++ [0] ++ [0]) u3 (by omega) (by simp; omega)
    rw [show ((u + 1 + fsz 3 x.2 : Nat) : Int) = (u : Int) + (1 + (fsz 3 x.2 : Nat)) by omega] at ih'
    have go : ∀ X, EE (d + 2) 35 59 [some (.ref 57), some (.ref t), some (vi l2), some (vi ((u : Int) + (1 + (fsz 3 x.2 : Nat)))), l4] [] (SH L) (apL 58 59 J0 (l ++ [x.1.1] ++ [0] ++ [0])) K R = X → EE (d + 2) 35 59 [some (.ref 57), some (.ref t), some (vi l2), some (vi u), l4] [] (SH L) (apL 58 59 J0 l) K R = X := by
      intro X hX
      simp (disch := first | assumption | omega | exact bi_lo | exact bi_hi | exact bi_01 | exact jcmp_lo | exact jcmp_hi | exact (jor_r _ _).1 | exact (jor_r _ _).2 | exact (jand_r _ _).1 | exact (jand_r _ _).2) only [x35_59, x35_60, x35_60n, x35_61, x35_64, kb_some, kb_none, clr_vi, clr_ref, clr_null, clr_none, va_rf_some, va_rf_none, ↓bi_ite_t, ↓bi_ite_f, ↓jc_lt_t, ↓jc_lt_f, ↓jc_gt_t, ↓jc_gt_f, ↓jc_le_t, ↓jc_le_f, ↓jc_ge_t, ↓jc_ge_f, ↓jc_eq_t, ↓jc_eq_f, ↓if_pos, ↓if_neg, hts]
      simp (disch := first | assumption | omega | exact bi_lo | exact bi_hi | exact bi_01 | exact jcmp_lo | exact jcmp_hi | exact (jor_r _ _).1 | exact (jor_r _ _).2 | exact (jand_r _ _).1 | exact (jand_r _ _).2) only [x35_67, x35_68, x35_71, x35_71n, x35_72, x35_73, x35_76, x35_79, x35_80, x35_81, x35_84, x35_85, x35_88, x35_89, x35_90, x35_93, x35_94, x35_97, x35_98, x35_99, x35_99n, x35_100, x35_101, x35_104, x35_105, x35_108, x35_109, x35_110, kb_some, kb_none, clr_vi, clr_ref, clr_null, clr_none, va_rf_some, va_rf_none, ↓bi_ite_t, ↓bi_ite_f, ↓jc_lt_t, ↓jc_lt_f, ↓jc_gt_t, ↓jc_gt_f, ↓jc_le_t, ↓jc_le_f, ↓jc_ge_t, ↓jc_ge_f, ↓jc_eq_t, ↓jc_eq_f, ↓if_pos, ↓if_neg, hty, ha1, ha2, ha3, hspu]
      exact hX
    rw [go _ ih', zL_cons]
    simp
theorem l_wchunks (h : WT L J0 R t ty wo le sp so co ce) {l2 : Int} : ∀ (F : List (Nd 3)) (u : Nat) (A C : List Int), cF g (J0 co 1) (J0 ty) (J0 wo) (J0 le) (J0 sp) (J0 so) (J0 ce) 4 0 F u → wF g 4 F → (u + fsz 4 F : Nat) = J0 t 6 → (A ++ zL F ++ C).length + (chL g (J0 57 1) F).length ≤ 239 →
    EE (d + 10) 35 118 [some (.ref 57), some (.ref t), some (vi l2), some (vi (A.length : Nat)), some (vi u)] [] (SH L) (apL 58 59 J0 (A ++ zL F ++ C)) K R = ok (some (.ref 58)) (SH L) (apL 58 59 J0 (A ++ entL g (J0 57 1) F ((A ++ zL F ++ C).length : Nat) ++ C ++ chL g (J0 57 1) F)) K R := by
  have hR := h.1
  have h0 := h.2.2.2.1
  have hT := h.2.1
  have st := hT.1
  have ht6 := h.2.2.2.2.1
  have s57 : (SH L)[57]? = some (3, 2) := rfl; have r57_0 : R 57 0 = some 58 := rr_lk hR rfl; have s58 : (SH L)[58]? = some (0, 2) := rfl; have r58_0 : R 58 0 = some 59 := rr_lk hR rfl
  have e6 : ∀ l, apL 58 59 J0 l t 6 = J0 t 6 := fun l => by rw [apL_o (by have := h.2.2.1; omega)]
  have hts := fun d l => t_size (d := d) (J := apL 58 59 J0 l) (K := K) hT
  simp only [e6] at hts
  intro F
  induction F with
  | nil =>
    intro u A C hc hw he hl
    have he' : (u : Int) = J0 t 6 := by rw [← he]; rfl
    simp (disch := first | assumption | omega | exact bi_lo | exact bi_hi | exact bi_01 | exact jcmp_lo | exact jcmp_hi | exact (jor_r _ _).1 | exact (jor_r _ _).2 | exact (jand_r _ _).1 | exact (jand_r _ _).2) only [x35_118, x35_120, x35_120n, x35_121, x35_124, x35_176, x35_177, x35_180, x35_180n, kb_some, kb_none, clr_vi, clr_ref, clr_null, clr_none, va_rf_some, va_rf_none, ↓bi_ite_t, ↓bi_ite_f, ↓jc_lt_t, ↓jc_lt_f, ↓jc_gt_t, ↓jc_gt_f, ↓jc_le_t, ↓jc_le_f, ↓jc_ge_t, ↓jc_ge_f, ↓jc_eq_t, ↓jc_eq_f, ↓if_pos, ↓if_neg, hts]
    simp [zL, entL, chL]
  | cons x F ih =>
    intro u A C hc hw he hl
    rw [fsz_c4] at he
    rw [chL_len] at hl
    rw [cF_cons] at hc
    rw [wF_cons] at hw
    obtain ⟨u1, u2, u3⟩ := hc
    have hspu := fun d l => wt_sp (L := L) (d := d) (K := K) (l := l) h (i := u) (by omega)
    rw [u1.2.2.2.1] at hspu
    have eL : A ++ zL (x :: F) ++ C = A ++ ([x.1.1, 0, 0] ++ (zL F ++ C)) := by rw [zL_cons]; simp
    have eL0 : (A ++ zL (x :: F) ++ C).length = A.length + (3 + (zL F ++ C).length) := by rw [eL]; simp; omega
    rw [eL0] at hl ⊢
    rw [eL]
    have hlen : (A ++ ([x.1.1, (0 : Int), 0] ++ (zL F ++ C))).length = A.length + (3 + (zL F ++ C).length) := by rw [← eL, eL0]
    have hsz := wo_size (L := L) (d := d + 9) (K := K) (l := A ++ ([x.1.1, 0, 0] ++ (zL F ++ C))) hR h0
    rw [hlen] at hsz
    have hrp := wo_replace (L := L) (d := d + 8) (K := K) (l := A ++ ([x.1.1, 0, 0] ++ (zL F ++ C))) (y := ((A.length + (3 + (zL F ++ C).length) : Nat) : Int)) hR h0 (p := A.length + 1) (by omega) (by omega)
    rw [set_1, show ((A.length + 1 : Nat) : Int) = (A.length : Int) + 1 by omega] at hrp
    have hwp := wp_all (d := d) (g := g) (K := K) h 3 (by omega) x u (A.length + 2) 0 (A ++ ([x.1.1, ((A.length + (3 + (zL F ++ C).length) : Nat) : Int), 0] ++ (zL F ++ C))) ⟨u1, u2, trivial⟩ ⟨hw.1, trivial⟩ (by omega) (by simp) (by simp at hl ⊢; omega)
    rw [set_2, show ((A.length + 2 : Nat) : Int) = (A.length : Int) + 2 by omega, show (3 : Int) - ((3 : Nat) : Int) = 0 by omega, show d + 2 * 3 + 3 = d + 9 by omega] at hwp
    have ih' := ih (u + 1 + fsz 3 x.2) (A ++ [x.1.1, ((A.length + (3 + (zL F ++ C).length) : Nat) : Int), ((payT g (J0 57 1) 3 x).length : Int)]) (C ++ payT g (J0 57 1) 3 x ++ [ckL (J0 57 1) (payT g (J0 57 1) 3 x) 0]) u3 hw.2 (by omega) (by simp at hl ⊢; omega)
    rw [show ((u + 1 + fsz 3 x.2 : Nat) : Int) = (u : Int) + (1 + (fsz 3 x.2 : Nat)) by omega] at ih'
    have eA : (((A ++ [x.1.1, ((A.length + (3 + (zL F ++ C).length) : Nat) : Int), ((payT g (J0 57 1) 3 x).length : Int)]).length : Nat) : Int) = (A.length : Int) + 3 := by simp
    rw [eA] at ih'
    have eM : A ++ ([x.1.1, ((A.length + (3 + (zL F ++ C).length) : Nat) : Int), ((payT g (J0 57 1) 3 x).length : Int)] ++ (zL F ++ C)) ++ payT g (J0 57 1) 3 x ++ [ckL (J0 57 1) (payT g (J0 57 1) 3 x) 0] = A ++ [x.1.1, ((A.length + (3 + (zL F ++ C).length) : Nat) : Int), ((payT g (J0 57 1) 3 x).length : Int)] ++ zL F ++ (C ++ payT g (J0 57 1) 3 x ++ [ckL (J0 57 1) (payT g (J0 57 1) 3 x) 0]) := by simp
    rw [eM] at hwp
    have go : ∀ X, EE (d + 10) 35 118 [some (.ref 57), some (.ref t), some (vi l2), some (vi ((A.length : Int) + 3)), some (vi ((u : Int) + (1 + (fsz 3 x.2 : Nat))))] [] (SH L) (apL 58 59 J0 (A ++ [x.1.1, ((A.length + (3 + (zL F ++ C).length) : Nat) : Int), ((payT g (J0 57 1) 3 x).length : Int)] ++ zL F ++ (C ++ payT g (J0 57 1) 3 x ++ [ckL (J0 57 1) (payT g (J0 57 1) 3 x) 0]))) K R = X → EE (d + 10) 35 118 [some (.ref 57), some (.ref t), some (vi l2), some (vi (A.length : Nat)), some (vi u)] [] (SH L) (apL 58 59 J0 (A ++ ([x.1.1, 0, 0] ++ (zL F ++ C)))) K R = X := by
      intro X hX
      simp (disch := first | assumption | omega | exact bi_lo | exact bi_hi | exact bi_01 | exact jcmp_lo | exact jcmp_hi | exact (jor_r _ _).1 | exact (jor_r _ _).2 | exact (jand_r _ _).1 | exact (jand_r _ _).2) only [x35_118, x35_120, x35_120n, x35_121, x35_124, kb_some, kb_none, clr_vi, clr_ref, clr_null, clr_none, va_rf_some, va_rf_none, ↓bi_ite_t, ↓bi_ite_f, ↓jc_lt_t, ↓jc_lt_f, ↓jc_gt_t, ↓jc_gt_f, ↓jc_le_t, ↓jc_le_f, ↓jc_ge_t, ↓jc_ge_f, ↓jc_eq_t, ↓jc_eq_f, ↓if_pos, ↓if_neg, hts]
      simp (disch := first | assumption | omega | exact bi_lo | exact bi_hi | exact bi_01 | exact jcmp_lo | exact jcmp_hi | exact (jor_r _ _).1 | exact (jor_r _ _).2 | exact (jand_r _ _).1 | exact (jand_r _ _).2) only [x35_127, x35_128, x35_131, x35_132, x35_133, x35_134, x35_135, x35_138, x35_141, kb_some, kb_none, clr_vi, clr_ref, clr_null, clr_none, va_rf_some, va_rf_none, hsz, hrp]
      simp (disch := first | assumption | omega | exact bi_lo | exact bi_hi | exact bi_01 | exact jcmp_lo | exact jcmp_hi | exact (jor_r _ _).1 | exact (jor_r _ _).2 | exact (jand_r _ _).1 | exact (jand_r _ _).2) only [x35_144, x35_145, x35_145n, x35_146, x35_148, x35_149, x35_150, x35_151, x35_152, kb_some, kb_none, clr_vi, clr_ref, clr_null, clr_none, va_rf_some, va_rf_none, hwp]
      simp (disch := first | assumption | omega | exact bi_lo | exact bi_hi | exact bi_01 | exact jcmp_lo | exact jcmp_hi | exact (jor_r _ _).1 | exact (jor_r _ _).2 | exact (jand_r _ _).1 | exact (jand_r _ _).2) only [x35_155, x35_158, x35_160, x35_160n, x35_161, x35_163, x35_166, x35_167, x35_170, x35_171, x35_173, kb_some, kb_none, clr_vi, clr_ref, clr_null, clr_none, va_rf_some, va_rf_none, ↓bi_ite_t, ↓bi_ite_f, ↓jc_lt_t, ↓jc_lt_f, ↓jc_gt_t, ↓jc_gt_f, ↓jc_le_t, ↓jc_le_f, ↓jc_ge_t, ↓jc_ge_f, ↓jc_eq_t, ↓jc_eq_f, ↓if_pos, ↓if_neg, hspu]
      exact hX
    have el2 : ((A ++ [x.1.1, ((A.length + (3 + (zL F ++ C).length) : Nat) : Int), ((payT g (J0 57 1) 3 x).length : Int)] ++ zL F ++ (C ++ payT g (J0 57 1) 3 x ++ [ckL (J0 57 1) (payT g (J0 57 1) 3 x) 0])).length : Nat) = A.length + (3 + (zL F ++ C).length) + (payT g (J0 57 1) 3 x).length + 1 := by simp; omega
    rw [go _ ih', el2]
    rw [show entL g (J0 57 1) (x :: F) ((A.length + (3 + (zL F ++ C).length) : Nat) : Int) = [x.1.1, ((A.length + (3 + (zL F ++ C).length) : Nat) : Int), ((payT g (J0 57 1) 3 x).length : Int)] ++ entL g (J0 57 1) F (((A.length + (3 + (zL F ++ C).length) : Nat) : Int) + (payT g (J0 57 1) 3 x).length + 1) from rfl]
    rw [show chL g (J0 57 1) (x :: F) = payT g (J0 57 1) 3 x ++ [ckL (J0 57 1) (payT g (J0 57 1) 3 x) 0] ++ chL g (J0 57 1) F from rfl]
    rw [show ((A.length + (3 + (zL F ++ C).length) + (payT g (J0 57 1) 3 x).length + 1 : Nat) : Int) = ((A.length + (3 + (zL F ++ C).length) : Nat) : Int) + (payT g (J0 57 1) 3 x).length + 1 by omega]
    simp
theorem c_written {J : mJ} (h : WT L (wv J v) R t ty wo le sp so co ce) (h58 : 0 ≤ J 58 1 ∧ J 58 1 ≤ 240) {F : List (Nd 3)} (hc : cF g (J co 1) (J ty) (J wo) (J le) (J sp) (J so) (J ce) 4 0 F 0) (hw : wF g 4 F) (hs : J t 6 = (fsz 4 F : Nat)) (hl : (fileL g v F).length ≤ 239) :
    EE (d + 10) 35 0 [some (.ref 57), some (.ref t), some (vi v), none, none] [] (SH L) J K R = ok (some (.ref 58)) (SH L) (apL 58 59 (wv J v) (fileL g v F)) K R := by
  have hR := h.1
  have h0 := h.2.2.2.1
  have hT := h.2.1
  have hlt := h.2.2.1
  have st := hT.1
  have s57 : (SH L)[57]? = some (3, 2) := rfl; have r57_0 : R 57 0 = some 58 := rr_lk hR rfl; have s58 : (SH L)[58]? = some (0, 2) := rfl; have r58_0 : R 58 0 = some 59 := rr_lk hR rfl
  have hB : isB (SH L) R 58 59 240 := ⟨rfl, rr_lk hR rfl, rfl, by decide, by decide, by decide⟩
  have eo : ∀ a, a < 57 → wv J v a = J a := fun a ha => wv_o (by omega)
  have e57 : ∀ l, apL 58 59 (wv J v) l 57 1 = v := fun l => by rw [apL_o (by decide), wv_57]
  have hen := c_endBehind (d := d + 9) (J := mm_up J 57 1 v) (K := K) (x := 0) hB (by omega) (by rw [up_ne (by decide)]; omega)
  have ewv : (if (0 : Int) ≤ 0 ∧ 0 < mm_up J 57 1 v 58 1 then mm_up (mm_up J 57 1 v) 58 1 0 else mm_up J 57 1 v) = wv J v := by
    unfold wv
    rw [up_ne (show (58 : Nat) ≠ 57 by decide)]
    by_cases c : 0 < J 58 1
    · rw [if_pos c, if_pos ⟨by omega, c⟩]
    · rw [if_neg c, if_neg (fun q => c q.2)]
  rw [ewv] at hen
  have hc' : cF g (wv J v co 1) (wv J v ty) (wv J v wo) (wv J v le) (wv J v sp) (wv J v so) (wv J v ce) 4 0 F 0 := by
    rw [eo co (by omega), eo ty (by omega), eo wo (by omega), eo le (by omega), eo sp (by omega), eo so (by omega), eo ce (by omega)]; exact hc
  have hs' : wv J v t 6 = (fsz 4 F : Nat) := by rw [eo t (by omega)]; exact hs
  have ap := fun l y hl => wo_append (L := L) (d := d + 9) (K := K) (J0 := wv J v) (l := l) (y := y) hR h0 hl
  have a1 := ap [] 67 (by simp)
  have a2 := ap ([] ++ [67]) 70 (by simp)
  have a3 := ap ([] ++ [67] ++ [70]) v (by simp)
  have a4 := ap ([] ++ [67] ++ [70] ++ [v]) (F.length : Nat) (by simp)
  rw [fileL_len] at hl
  have htc := fun l => t_topCount (d := d + 9) (J := apL 58 59 (wv J v) l) (K := K) hT (F := F) (g := g) (q := wv J v co 1) (by
    rw [apL_o (by omega), apL_o (by omega), apL_o (by omega), apL_o (by omega), apL_o (by omega), apL_o (by omega)]; exact hc') (by rw [apL_o (by omega)]; exact hs') (by rw [apL_o (by omega)]; exact h.2.2.2.2.1.2)
  have hents := l_wents (L := L) (d := d + 8) (K := K) (g := g) h (l2 := v) (l4 := none) F 0 ([] ++ [67] ++ [70] ++ [v] ++ [(F.length : Int)]) hc' (by rw [hs']; omega) (by simp; omega)
  have hchs := l_wchunks (L := L) (d := d) (K := K) (g := g) h (l2 := v) F 0 ([] ++ [67] ++ [70] ++ [v] ++ [(F.length : Int)]) [] hc' hw (by rw [hs']; omega) (by rw [wv_57]; simp [zL_len]; omega)
  have e0 : (apL 58 59 (wv J v) []) = wv J v := rfl
  rw [e0] at a1
  have gow : EE (d + 10) 35 0 [some (.ref 57), some (.ref t), some (vi v), none, none] [] (SH L) J K R = EE (d + 10) 35 59 [some (.ref 57), some (.ref t), some (vi v), some (vi 0), none] [] (SH L) (apL 58 59 (wv J v) ([] ++ [67] ++ [70] ++ [v] ++ [(F.length : Int)])) K R := by
    simp (disch := first | assumption | omega | exact bi_lo | exact bi_hi | exact bi_01 | exact jcmp_lo | exact jcmp_hi | exact (jor_r _ _).1 | exact (jor_r _ _).2 | exact (jand_r _ _).1 | exact (jand_r _ _).2) only [x35_0, x35_1, x35_2, x35_5, x35_6, x35_9, x35_10, x35_13, x35_14, x35_17, x35_19, x35_22, x35_23, x35_24, x35_27, x35_29, x35_32, x35_33, x35_34, x35_37, x35_38, x35_41, x35_44, x35_45, x35_46, x35_49, x35_49n, x35_50, x35_53, x35_56, x35_57, x35_58, kb_some, kb_none, clr_vi, clr_ref, clr_null, clr_none, va_rf_some, va_rf_none, hen, a1, a2, e57, a3, htc, a4]
  rw [show ((0 : Nat) : Int) = 0 from rfl] at hents hchs
  rw [gow, hents]
  rw [wv_57, List.append_nil] at hchs
  have e4 : ((([] ++ [67] ++ [70] ++ [v] ++ [(F.length : Int)] : List Int).length : Nat) : Int) = 4 := rfl
  rw [e4] at hchs
  simp (disch := first | assumption | omega | exact bi_lo | exact bi_hi | exact bi_01 | exact jcmp_lo | exact jcmp_hi | exact (jor_r _ _).1 | exact (jor_r _ _).2 | exact (jand_r _ _).1 | exact (jand_r _ _).2) only [x35_113, x35_114, x35_115, x35_116, kb_some, kb_none, clr_vi, clr_ref, clr_null, clr_none, va_rf_some, va_rf_none]
  rw [hchs]
  unfold fileL
  have e5 : ((([] ++ [67] ++ [70] ++ [v] ++ [(F.length : Int)] ++ zL F : List Int).length : Nat) : Int) = 4 + 3 * (F.length : Int) := by simp [zL_len]; omega
  rw [e5]
  simp
end
