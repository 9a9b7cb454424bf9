/-! the reference shows a thing -/
theorem AFp_le {p : Nat → Int} {n r : Nat} : ∀ (b a k : Nat), AFp p n r b a k → a ≤ b := by
  intro b
  induction b with
  | zero => intro a k h; have := h.1; omega
  | succ b ih =>
    intro a k h
    obtain ⟨h1, h2, q, h3, h4⟩ := h
    rcases h4 with ⟨h4, a', h5, h6⟩ | ⟨h4, h5⟩
    · have := ih _ _ h6; omega
    · omega
section
variable {L d : Nat} {J0 K : mJ} {R : mm_R} {f : Int → Int} {n r s : Nat}
/-- what stands while a thing at r is shown -/
def ST (f : Int → Int) (J0 : mJ) (R : mm_R) (n r s : Nat) : Prop := MW f J0 R ∧ UN (J0 86) (J0 89) n r s ∧ J0 76 18 = n ∧ (∀ j : Nat, j < n → -1 ≤ J0 89 j ∧ J0 89 j ≤ 100) ∧ (∀ j : Nat, j < n → 0 ≤ J0 86 j ∧ J0 86 j ≤ 255) ∧ (∀ j : Nat, j < n → -2147483648 ≤ J0 87 j ∧ J0 87 j ≤ 2147483647)
theorem l_close (h : MW f J0 R) {t : Int} {r : Int} : ∀ (a : Nat) (l : List Int), l.length + a ≤ 5000 →
    EE (d + 1) 210 70 [some (.ref 76), some (vi r), some (vi t), some (vi a)] [] (SH L) (shL J0 l) K R = EE (d + 1) 210 86 [some (.ref 76), some (vi r), some (vi t), some (vi 0)] [] (SH L) (shL J0 (l ++ List.replicate a 41)) K R := by
  have s76 : (SH L)[76]? = some (11, 58) := rfl
  intro a
  induction a with
  | zero =>
    intro l hl
    rw [List.replicate_zero, List.append_nil, show ((0 : Nat) : Int) = 0 from rfl]
    simp (disch := first | assumption | omega | exact bi_lo | exact bi_hi | exact bi_01 | exact jcmp_lo | exact jcmp_hi | exact (jor_r _ _).1 | exact (jor_r _ _).2 | exact (jand_r _ _).1 | exact (jand_r _ _).2) only [x210_70, x210_71, kb_some, kb_none, clr_vi, clr_ref, clr_null, clr_none, va_rf_some, va_rf_none, ↓bi_ite_t, ↓bi_ite_f, ↓jc_lt_t, ↓jc_lt_f, ↓jc_gt_t, ↓jc_gt_f, ↓jc_le_t, ↓jc_le_f, ↓jc_ge_t, ↓jc_ge_f, ↓jc_eq_t, ↓jc_eq_f, ↓if_pos, ↓if_neg]
  | succ a ih =>
    intro l hl
    have hap := ms_shows (L := L) (d := d) (K := K) (y := 41) h (l := l) (by omega)
    have ih' := ih (l ++ [41]) (by simp; omega)
    have e : ((a + 1 : Nat) : Int) + -1 = a := by omega
    have go : ∀ X, EE (d + 1) 210 70 [some (.ref 76), some (vi r), some (vi t), some (vi a)] [] (SH L) (shL J0 (l ++ [41])) K R = X → EE (d + 1) 210 70 [some (.ref 76), some (vi r), some (vi t), some (vi (a + 1 : Nat))] [] (SH L) (shL J0 l) K R = X := by
      intro X hX
      simp (disch := first | assumption | omega | exact bi_lo | exact bi_hi | exact bi_01 | exact jcmp_lo | exact jcmp_hi | exact (jor_r _ _).1 | exact (jor_r _ _).2 | exact (jand_r _ _).1 | exact (jand_r _ _).2) only [x210_70, x210_71, kb_some, kb_none, clr_vi, clr_ref, clr_null, clr_none, va_rf_some, va_rf_none, ↓bi_ite_t, ↓bi_ite_f, ↓jc_lt_t, ↓jc_lt_f, ↓jc_gt_t, ↓jc_gt_f, ↓jc_le_t, ↓jc_le_f, ↓jc_ge_t, ↓jc_ge_f, ↓jc_eq_t, ↓jc_eq_f, ↓if_pos, ↓if_neg]
      simp (disch := first | assumption | omega | exact bi_lo | exact bi_hi | exact bi_01 | exact jcmp_lo | exact jcmp_hi | exact (jor_r _ _).1 | exact (jor_r _ _).2 | exact (jand_r _ _).1 | exact (jand_r _ _).2) only [x210_74, x210_75, x210_77, x210_80, x210_83, kb_some, kb_none, clr_vi, clr_ref, clr_null, clr_none, va_rf_some, va_rf_none, ↓bi_ite_t, ↓bi_ite_f, ↓jc_lt_t, ↓jc_lt_f, ↓jc_gt_t, ↓jc_gt_f, ↓jc_le_t, ↓jc_le_f, ↓jc_ge_t, ↓jc_ge_f, ↓jc_eq_t, ↓jc_eq_f, ↓if_pos, ↓if_neg, hap, e]
      exact hX
    rw [go _ ih', List.append_assoc]
    rfl
/-- one step of the loop: the thing at i, whose groups that end are a -/
theorem l_one (h : ST f J0 R n r s) {i a b : Nat} (hi : r ≤ i ∧ i < r + s) (hA : AFp (J0 89) n r b a i) (hb : b ≤ 10) {x : Da} (hx : mL J0 x i) (hw : wD f x) {l : List Int} {l3 : Option Value} (hl : l.length + 200 ≤ 4000) :
    EE (d + 4) 210 2 [some (.ref 76), some (vi r), some (vi i), l3] [] (SH L) (shL J0 l) K R = EE (d + 4) 210 2 [some (.ref 76), some (vi r), some (vi (i + 1)), some (vi 0)] [] (SH L) (shL J0 (l ++ (if i = r ∨ J0 89 i = (i : Int) - 1 then [] else [59]) ++ (if x.1 = 103 then [40] else leafL f x) ++ List.replicate (if x.1 = 103 then (if x.2.1 = 0 then 1 + a else 0) else a) 41)) K R := by
  obtain ⟨hM, hU, hn, hp, hty, hwo⟩ := h
  have hR := hM.1.1
  have s76 : (SH L)[76]? = some (11, 58) := rfl; have r76_0 : R 76 0 = some 77 := rr_lk hR rfl; have r76_3 : R 76 3 = some 78 := rr_lk hR rfl; have r76_4 : R 76 4 = some 79 := rr_lk hR rfl; have r76_6 : R 76 6 = some 80 := rr_lk hR rfl; have r76_7 : R 76 7 = some 81 := rr_lk hR rfl; have r76_9 : R 76 9 = some 82 := rr_lk hR rfl; have r76_10 : R 76 10 = some 83 := rr_lk hR rfl; have r76_12 : R 76 12 = some 84 := rr_lk hR rfl; have r76_13 : R 76 13 = some 85 := rr_lk hR rfl; have r76_19 : R 76 19 = some 86 := rr_lk hR rfl; have r76_20 : R 76 20 = some 87 := rr_lk hR rfl; have r76_21 : R 76 21 = some 88 := rr_lk hR rfl; have r76_22 : R 76 22 = some 89 := rr_lk hR rfl; have r76_24 : R 76 24 = some 90 := rr_lk hR rfl; have r76_25 : R 76 25 = some 91 := rr_lk hR rfl; have r76_26 : R 76 26 = some 92 := rr_lk hR rfl; have r76_28 : R 76 28 = some 93 := rr_lk hR rfl; have r76_29 : R 76 29 = some 94 := rr_lk hR rfl; have r76_30 : R 76 30 = some 95 := rr_lk hR rfl; have r76_31 : R 76 31 = some 96 := rr_lk hR rfl; have r76_32 : R 76 32 = some 97 := rr_lk hR rfl; have r76_36 : R 76 36 = some 98 := rr_lk hR rfl; have r76_38 : R 76 38 = some 99 := rr_lk hR rfl; have r76_39 : R 76 39 = some 100 := rr_lk hR rfl; have r76_40 : R 76 40 = some 101 := rr_lk hR rfl; have r76_41 : R 76 41 = some 102 := rr_lk hR rfl; have r76_42 : R 76 42 = some 103 := rr_lk hR rfl; have r76_47 : R 76 47 = some 104 := rr_lk hR rfl; have r76_53 : R 76 53 = some 105 := rr_lk hR rfl; have r76_54 : R 76 54 = some 106 := rr_lk hR rfl; have r76_55 : R 76 55 = some 107 := rr_lk hR rfl; have r76_56 : R 76 56 = some 108 := rr_lk hR rfl; have r76_57 : R 76 57 = some 109 := rr_lk hR rfl; have s86 : (SH L)[86]? = some (20, 60) := rfl
  have hU' := hU
  obtain ⟨u1, u2, u3, u4, u5⟩ := hU'
  have e86 : ∀ l, shL J0 l 86 = J0 86 := fun l => shL_a (by decide)
  have e87 : ∀ l, shL J0 l 87 = J0 87 := fun l => shL_a (by decide)
  have e89 : ∀ l, shL J0 l 89 = J0 89 := fun l => shL_a (by decide)
  have e18 : ∀ l, shL J0 l 76 18 = J0 76 18 := fun l => shL_o (by decide)
  have hu := fun d l => m_isUnder (L := L) (d := d) (J := shL J0 l) (K := K) hR (n := n) (r := r) (s := s) (j := i) (by rw [e86, e89]; exact hU) (by omega)
  rw [bi_t hi] at hu
  have hf := fun d l => m_isFirst (L := L) (d := d) (J := shL J0 l) (K := K) hR (k := i) (by omega) (by rw [e89]; exact hp i (by omega))
  have ha := AFp_le b a i hA
  have he := fun d l => m_endsBehind (L := L) (d := d) (J := shL J0 l) (K := K) hR (n := n) (r := r) (k := i) (b := b) (a := a) (by rw [e18]; exact hn) u1 (by rw [e89]; exact hp) (by omega) (by rw [e89]; exact hA) hb (by omega) (by rw [e86]; exact hty i (by omega)) (by rw [e87]; exact hwo i (by omega))
  simp only [e86, e87, e89, hx.1, hx.2.1] at he hf
  have hlf : x.1 ≠ 103 → (leafL f x).length ≤ 100 := fun c => by
    have := leafL_len hw c
    have hby : byN x ≤ 20 := by unfold wD at hw; unfold byN; split <;> omega
    omega
  have hlen : ∀ (c1 c2 : List Int), c1.length ≤ 1 → c2.length ≤ 100 → (l ++ c1 ++ c2).length ≤ 3950 := by
    intro c1 c2 q1 q2
    simp only [List.length_append]
    omega
  -- the ; ahead
  have stA : EE (d + 4) 210 2 [some (.ref 76), some (vi r), some (vi i), l3] [] (SH L) (shL J0 l) K R = EE (d + 4) 210 38 [some (.ref 76), some (vi r), some (vi i), l3] [] (SH L) (shL J0 (l ++ (if i = r ∨ J0 89 i = (i : Int) - 1 then [] else [59]))) K R := by
    have go : ∀ X, EE (d + 4) 210 19 [some (.ref 76), some (vi r), some (vi i), l3] [] (SH L) (shL J0 l) K R = X → EE (d + 4) 210 2 [some (.ref 76), some (vi r), some (vi i), l3] [] (SH L) (shL J0 l) K R = X := by
      intro X hX
      have hu1 := hu (d + 3) l
      simp (disch := first | assumption | omega | exact bi_lo | exact bi_hi | exact bi_01 | exact jcmp_lo | exact jcmp_hi | exact (jor_r _ _).1 | exact (jor_r _ _).2 | exact (jand_r _ _).1 | exact (jand_r _ _).2) only [x210_2, x210_3, x210_4, x210_7, kb_some, kb_none, clr_vi, clr_ref, clr_null, clr_none, va_rf_some, va_rf_none, ↓bi_ite_t, ↓bi_ite_f, ↓jc_lt_t, ↓jc_lt_f, ↓jc_gt_t, ↓jc_gt_f, ↓jc_le_t, ↓jc_le_f, ↓jc_ge_t, ↓jc_ge_f, ↓jc_eq_t, ↓jc_eq_f, ↓if_pos, ↓if_neg, e18]
      simp (disch := first | assumption | omega | exact bi_lo | exact bi_hi | exact bi_01 | exact jcmp_lo | exact jcmp_hi | exact (jor_r _ _).1 | exact (jor_r _ _).2 | exact (jand_r _ _).1 | exact (jand_r _ _).2) only [x210_10, x210_11, x210_12, x210_13, x210_16, kb_some, kb_none, clr_vi, clr_ref, clr_null, clr_none, va_rf_some, va_rf_none, ↓bi_ite_t, ↓bi_ite_f, ↓jc_lt_t, ↓jc_lt_f, ↓jc_gt_t, ↓jc_gt_f, ↓jc_le_t, ↓jc_le_f, ↓jc_ge_t, ↓jc_ge_f, ↓jc_eq_t, ↓jc_eq_f, ↓if_pos, ↓if_neg, hu1]
      exact hX
    rw [go _ rfl]
    by_cases c : i = r
    · rw [if_pos (Or.inl c), List.append_nil]
      simp (disch := first | assumption | omega | exact bi_lo | exact bi_hi | exact bi_01 | exact jcmp_lo | exact jcmp_hi | exact (jor_r _ _).1 | exact (jor_r _ _).2 | exact (jand_r _ _).1 | exact (jand_r _ _).2) only [x210_19, x210_20, x210_21, kb_some, kb_none, clr_vi, clr_ref, clr_null, clr_none, va_rf_some, va_rf_none, ↓bi_ite_t, ↓bi_ite_f, ↓jc_lt_t, ↓jc_lt_f, ↓jc_gt_t, ↓jc_gt_f, ↓jc_le_t, ↓jc_le_f, ↓jc_ge_t, ↓jc_ge_f, ↓jc_eq_t, ↓jc_eq_f, ↓if_pos, ↓if_neg]
    · by_cases c2 : J0 89 i = (i : Int) - 1
      · rw [if_pos (Or.inr c2), List.append_nil]
        have hf1 := hf (d + 3) l
        rw [bi_t c2] at hf1
        simp (disch := first | assumption | omega | exact bi_lo | exact bi_hi | exact bi_01 | exact jcmp_lo | exact jcmp_hi | exact (jor_r _ _).1 | exact (jor_r _ _).2 | exact (jand_r _ _).1 | exact (jand_r _ _).2) only [x210_19, x210_20, x210_21, x210_24, x210_25, x210_26, x210_29, kb_some, kb_none, clr_vi, clr_ref, clr_null, clr_none, va_rf_some, va_rf_none, ↓bi_ite_t, ↓bi_ite_f, ↓jc_lt_t, ↓jc_lt_f, ↓jc_gt_t, ↓jc_gt_f, ↓jc_le_t, ↓jc_le_f, ↓jc_ge_t, ↓jc_ge_f, ↓jc_eq_t, ↓jc_eq_f, ↓if_pos, ↓if_neg, hf1]
      · rw [if_neg (fun q => by rcases q with q | q; exact c q; exact c2 q)]
        have hf1 := hf (d + 3) l
        rw [bi_f c2] at hf1
        have hap := ms_shows (L := L) (d := d + 3) (K := K) (y := 59) hM (l := l) (by omega)
        simp (disch := first | assumption | omega | exact bi_lo | exact bi_hi | exact bi_01 | exact jcmp_lo | exact jcmp_hi | exact (jor_r _ _).1 | exact (jor_r _ _).2 | exact (jand_r _ _).1 | exact (jand_r _ _).2) only [x210_19, x210_20, x210_21, x210_24, x210_25, x210_26, x210_29, x210_32, x210_33, x210_35, kb_some, kb_none, clr_vi, clr_ref, clr_null, clr_none, va_rf_some, va_rf_none, ↓bi_ite_t, ↓bi_ite_f, ↓jc_lt_t, ↓jc_lt_f, ↓jc_gt_t, ↓jc_gt_f, ↓jc_le_t, ↓jc_le_f, ↓jc_ge_t, ↓jc_ge_f, ↓jc_eq_t, ↓jc_eq_f, ↓if_pos, ↓if_neg, hf1, hap]
  have hl1 : (if i = r ∨ J0 89 i = (i : Int) - 1 then ([] : List Int) else [59]).length ≤ 1 := by split <;> simp
  generalize (if i = r ∨ J0 89 i = (i : Int) - 1 then ([] : List Int) else [59]) = sep at stA hl1 ⊢
  have hl1' : (l ++ sep).length ≤ 3850 := by rw [List.length_append]; omega
  rw [stA]
  -- the thing
  have stB : EE (d + 4) 210 38 [some (.ref 76), some (vi r), some (vi i), l3] [] (SH L) (shL J0 (l ++ sep)) K R = EE (d + 4) 210 63 [some (.ref 76), some (vi r), some (vi i), l3] [] (SH L) (shL J0 (l ++ sep ++ (if x.1 = 103 then [40] else leafL f x))) K R := by
    by_cases c : x.1 = 103
    · rw [if_pos c]
      have hap := ms_shows (L := L) (d := d + 3) (K := K) (y := 40) hM (l := l ++ sep) (by omega)
      simp (disch := first | assumption | omega | exact bi_lo | exact bi_hi | exact bi_01 | exact jcmp_lo | exact jcmp_hi | exact (jor_r _ _).1 | exact (jor_r _ _).2 | exact (jand_r _ _).1 | exact (jand_r _ _).2) only [x210_38, x210_39, x210_42, x210_43, x210_44, x210_46, x210_49, x210_50, x210_52, x210_55, kb_some, kb_none, clr_vi, clr_ref, clr_null, clr_none, va_rf_some, va_rf_none, ↓bi_ite_t, ↓bi_ite_f, ↓jc_lt_t, ↓jc_lt_f, ↓jc_gt_t, ↓jc_gt_f, ↓jc_le_t, ↓jc_le_f, ↓jc_ge_t, ↓jc_ge_f, ↓jc_eq_t, ↓jc_eq_f, ↓if_pos, ↓if_neg, e86, Int.toNat_natCast, hx.1, c, hap]
    · rw [if_neg c]
      have hpl := ms_plain (L := L) (d := d) (K := K) hM (i := i) (by omega) hx hw c (l := l ++ sep) (by omega)
      have hxt := wD_ty hw
      simp (disch := first | assumption | omega | exact bi_lo | exact bi_hi | exact bi_01 | exact jcmp_lo | exact jcmp_hi | exact (jor_r _ _).1 | exact (jor_r _ _).2 | exact (jand_r _ _).1 | exact (jand_r _ _).2) only [x210_38, x210_39, x210_42, x210_43, x210_44, x210_46, x210_58, x210_59, x210_60, kb_some, kb_none, clr_vi, clr_ref, clr_null, clr_none, va_rf_some, va_rf_none, ↓bi_ite_t, ↓bi_ite_f, ↓jc_lt_t, ↓jc_lt_f, ↓jc_gt_t, ↓jc_gt_f, ↓jc_le_t, ↓jc_le_f, ↓jc_ge_t, ↓jc_ge_f, ↓jc_eq_t, ↓jc_eq_f, ↓if_pos, ↓if_neg, e86, Int.toNat_natCast, hx.1, hpl]
  rw [stB]
  have hl2 : (if x.1 = 103 then [40] else leafL f x).length ≤ 100 := by
    split
    · simp
    · exact hlf (by assumption)
  generalize (if x.1 = 103 then [40] else leafL f x) = nd at hl2 ⊢
  have hl3 := hlen sep nd hl1 hl2
  have he1 := he (d + 3) (l ++ sep ++ nd)
  have ec : (if x.1 = 103 then if x.2.1 = 0 then 1 + (a : Int) else 0 else (a : Int)) = ((if x.1 = 103 then if x.2.1 = 0 then 1 + a else 0 else a : Nat) : Int) := by
    repeat' split
    all_goals omega
  rw [ec] at he1
  have hcn : (if x.1 = 103 then if x.2.1 = 0 then 1 + a else 0 else a : Nat) ≤ 20 := by
    repeat' split
    all_goals omega
  generalize (if x.1 = 103 then if x.2.1 = 0 then 1 + a else 0 else a : Nat) = cn at he1 hcn ⊢
  have hcl := l_close (L := L) (d := d + 3) (K := K) hM (t := i) (r := r) cn (l ++ sep ++ nd) (by omega)
  have go : ∀ X, EE (d + 4) 210 86 [some (.ref 76), some (vi r), some (vi i), some (vi 0)] [] (SH L) (shL J0 (l ++ sep ++ nd ++ List.replicate cn 41)) K R = X → EE (d + 4) 210 63 [some (.ref 76), some (vi r), some (vi i), l3] [] (SH L) (shL J0 (l ++ sep ++ nd)) K R = X := by
    intro X hX
    rw [← hcl] at hX
    simp (disch := first | assumption | omega | exact bi_lo | exact bi_hi | exact bi_01 | exact jcmp_lo | exact jcmp_hi | exact (jor_r _ _).1 | exact (jor_r _ _).2 | exact (jand_r _ _).1 | exact (jand_r _ _).2) only [x210_63, x210_64, x210_65, x210_66, x210_69, kb_some, kb_none, clr_vi, clr_ref, clr_null, clr_none, va_rf_some, va_rf_none, he1]
    exact hX
  rw [go _ rfl]
  simp (disch := first | assumption | omega | exact bi_lo | exact bi_hi | exact bi_01 | exact jcmp_lo | exact jcmp_hi | exact (jor_r _ _).1 | exact (jor_r _ _).2 | exact (jand_r _ _).1 | exact (jand_r _ _).2) only [x210_86, x210_89, kb_some, kb_none, clr_vi, clr_ref, clr_null, clr_none, va_rf_some, va_rf_none]
/-- what is said of things of D levels -/
def MSD (L d : Nat) (f : Int → Int) (J0 K : mJ) (R : mm_R) (n r s D : Nat) : Prop := ∀ (x : Nd D) (i b a : Nat) (p : Int) (l : List Int) (l3 : Option Value), mF (J0 86) (J0 87) (J0 88) (J0 89) (D + 1) p ([x] : List (Nd D)) i → wF f (D + 1) ([x] : List (Nd D)) → AFp (J0 89) n r b a i → r ≤ i → i + (1 + fsz D x.2) ≤ r + s → (∀ o, i + (1 + fsz D x.2) ≤ o → o < n → ¬ ((i : Int) ≤ J0 89 o ∧ J0 89 o < (i + (1 + fsz D x.2) : Nat))) → b + D ≤ 6 → l.length + 20 * (1 + fsz D x.2) + 4 * (byN x.1 + fby D x.2) ≤ 3700 →
  ∃ l3', EE (d + 4) 210 2 [some (.ref 76), some (vi r), some (vi i), l3] [] (SH L) (shL J0 l) K R = EE (d + 4) 210 2 [some (.ref 76), some (vi r), some (vi (i + (1 + fsz D x.2) : Nat)), l3'] [] (SH L) (shL J0 (l ++ (if i = r ∨ J0 89 i = (i : Int) - 1 then [] else [59]) ++ shN f D x ++ List.replicate a 41)) K R
theorem l_msgroup (h : ST f J0 R n r s) {D : Nat} (hs : MSD L d f J0 K R n r s D) {q b a : Nat} (hq : AFp (J0 89) n r b a q) (hrq : r ≤ q) (hb : b + D + 1 ≤ 6) : ∀ (F : List (Nd D)) (i en : Nat) (l : List Int) (l3 : Option Value), F ≠ [] → mF (J0 86) (J0 87) (J0 88) (J0 89) (D + 1) q F i → wF f (D + 1) F → q < i → en = i + fsz (D + 1) F → en ≤ r + s → (∀ o, en ≤ o → o < n → ¬ ((q : Int) ≤ J0 89 o ∧ J0 89 o < (en : Nat))) → l.length + 20 * fsz (D + 1) F + 4 * fby (D + 1) F ≤ 3700 →
    ∃ l3', EE (d + 4) 210 2 [some (.ref 76), some (vi r), some (vi i), l3] [] (SH L) (shL J0 l) K R = EE (d + 4) 210 2 [some (.ref 76), some (vi r), some (vi en), l3'] [] (SH L) (shL J0 (l ++ (if i = q + 1 then (shF f (D + 1) F).drop 1 else shF f (D + 1) F) ++ List.replicate (a + 1) 41)) K R := by
  have hU := h.2.1
  have hle := AFp_le b a q hq
  intro F
  induction F with
  | nil => intro i en l l3 hne; exact absurd rfl hne
  | cons x F ih =>
    intro i en l l3 hne hm hw hqi he her hO hl
    have hm' := hm
    rw [mF_cons] at hm
    rw [wF_cons] at hw
    rw [fsz_cons] at he hl
    rw [fby_cons'] at hl
    obtain ⟨u1, u2, u3⟩ := hm
    have hx := hs x i
    have hin : i < n := by have := hU.2.1; omega
    have hsn := shN_len (g := f) (d := D) (x := x) ⟨hw.1, trivial⟩
    have esep : (if i = r ∨ J0 89 i = (i : Int) - 1 then ([] : List Int) else [59]) = if i = q + 1 then [] else [59] := by
      rw [u1.2.2.2]
      by_cases c : i = q + 1
      · rw [if_pos (Or.inr (by omega)), if_pos c]
      · rw [if_neg (by omega), if_neg c]
    have hsub : ∀ o, i < o → o < i + 1 + fsz D x.2 → (i : Int) ≤ J0 89 o := fun o o1 o2 => by
      rcases mF_chain _ _ _ _ u2 o (by omega) (by omega) with h | h <;> omega
    cases F with
    | nil =>
      rw [fsz_nil] at he hl
      have hA : AFp (J0 89) n r (b + 1) (a + 1) i := by
        refine ⟨by omega, hin, q, u1.2.2.2, Or.inl ⟨?_, a, rfl, hq⟩⟩
        intro o o1 o2
        rw [u1.2.2.2]
        by_cases c : o < i + 1 + fsz D x.2
        · have := hsub o o1 c; omega
        · have := hO o (by omega) o2; omega
      obtain ⟨l3', e⟩ := hx (b + 1) (a + 1) q l l3 ⟨u1, u2, trivial⟩ ⟨hw.1, trivial⟩ hA (by omega) (by omega) (fun o o1 o2 => by have := hO o (by omega) o2; omega) (by omega) (by omega)
      refine ⟨l3', ?_⟩
      rw [e, esep, show i + (1 + fsz D x.2) = en by omega, shF_cons, shF_nil]
      by_cases c : i = q + 1
      · rw [if_pos c, if_pos c]; simp
      · rw [if_neg c, if_neg c]; simp
    | cons y F' =>
      have hi' : i + 1 + fsz D x.2 < n := by rw [fsz_cons] at he; have := hU.2.1; omega
      have hy : J0 89 (i + 1 + fsz D x.2) = q := by rw [mF_cons] at u3; exact u3.1.2.2.2
      have hA : AFp (J0 89) n r (b + 1) 0 i := by
        refine ⟨by omega, hin, q, u1.2.2.2, Or.inr ⟨?_, rfl⟩⟩
        intro hL
        exact hL _ (by omega) hi' (hy.trans u1.2.2.2.symm)
      obtain ⟨l4, e⟩ := hx (b + 1) 0 q l l3 ⟨u1, u2, trivial⟩ ⟨hw.1, trivial⟩ hA (by omega) (by omega) (fun o o1 o2 => by
        by_cases c : o < en
        · rcases mF_chain _ _ _ _ u3 o (by omega) (by omega) with h | h <;> omega
        · have := hO o (by omega) o2; omega) (by omega) (by omega)
      obtain ⟨l3', e2⟩ := ih (i + 1 + fsz D x.2) en (l ++ (if i = q + 1 then [] else [59]) ++ shN f D x) l4 (by simp) u3 hw.2 (by omega) (by omega) her hO (by
        have : (if i = q + 1 then ([] : List Int) else [59]).length ≤ 1 := by split <;> simp
        simp only [List.length_append]
        omega)
      refine ⟨l3', ?_⟩
      rw [e, esep, show i + (1 + fsz D x.2) = i + 1 + fsz D x.2 by omega, List.replicate_zero, List.append_nil, e2, if_neg (show ¬ i + 1 + fsz D x.2 = q + 1 by omega), show shF f (D + 1) (x :: y :: F' : List (Nd D)) = 59 :: shN f D x ++ shF f (D + 1) (y :: F' : List (Nd D)) from rfl]
      by_cases c : i = q + 1
      · rw [if_pos c, if_pos c]; simp
      · rw [if_neg c, if_neg c]; simp
theorem msD (h : ST f J0 R n r s) (D : Nat) (hD : D ≤ 3) (hg : ∀ D', D = D' + 1 → MSD L d f J0 K R n r s D') : MSD L d f J0 K R n r s D := by
  intro x i b a p l l3 hm hw hA hri her hO hb hl
  have hm' := hm
  rw [mF_cons] at hm
  rw [wF_cons] at hw
  obtain ⟨u1, u2, -⟩ := hm
  obtain ⟨w1, w2, w3, w4⟩ := hw.1
  have ho := l_one (L := L) (d := d) (K := K) h (i := i) (a := a) (b := b) (by omega) hA (by omega) (x := x.1) ⟨u1.1, u1.2.1, u1.2.2.1⟩ w1 (l := l) (l3 := l3) (by omega)
  have hlsep : (if i = r ∨ J0 89 i = (i : Int) - 1 then ([] : List Int) else [59]).length ≤ 1 := by split <;> simp
  by_cases c : x.1.1 = 103
  · obtain ⟨b1, b2, b3⟩ := w2 c
    rw [if_pos c, if_pos c] at ho
    cases D with
    | zero => omega
    | succ D' =>
      have hfl : flen (D' + 1) x.2 = List.length (x.2 : List (Nd D')) := rfl
      by_cases c2 : (x.2 : List (Nd D')) = []
      · have ez : x.1.2.1 = 0 := by rw [b2, hfl, c2]; rfl
        have ef : fsz (D' + 1) x.2 = 0 := by rw [show x.2 = ([] : List (Nd D')) from c2]; rfl
        rw [if_pos ez] at ho
        refine ⟨some (vi 0), ?_⟩
        rw [ho, ef, show i + (1 + 0) = i + 1 by omega, Int.natCast_succ]
        unfold shN
        rw [if_pos c, show x.2 = ([] : List (Nd D')) from c2, shF_nil]
        rw [Nat.add_comm 1 a, List.replicate_succ]
        congr 2
        simp
      · have hne : x.1.2.1 ≠ 0 := by
          rw [b2, hfl]
          intro q
          exact c2 (List.length_eq_zero_iff.mp (by omega))
        rw [if_neg hne] at ho
        obtain ⟨l3', e⟩ := l_msgroup h (hg D' rfl) hA hri (by omega) x.2 (i + 1) (i + (1 + fsz (D' + 1) x.2)) (l ++ (if i = r ∨ J0 89 i = (i : Int) - 1 then [] else [59]) ++ [40]) (some (vi 0)) c2 u2 w4 (by omega) (by omega) her hO (by simp only [List.length_append, List.length_singleton]; omega)
        refine ⟨l3', ?_⟩
        rw [ho, List.replicate_zero, List.append_nil, ← Int.natCast_succ, e, if_pos rfl]
        unfold shN
        rw [if_pos c]
        congr 2
        simp [List.replicate_succ]
  · rw [if_neg c, if_neg c] at ho
    have ez := w3 c
    refine ⟨some (vi 0), ?_⟩
    have ef : fsz D x.2 = 0 := by rw [ez, fsz_0]
    rw [ho, ef, show i + (1 + 0) = i + 1 by omega, Int.natCast_succ]
    unfold shN
    rw [if_neg c]
theorem ms_all (h : ST f J0 R n r s) : ∀ (D : Nat), D ≤ 3 → MSD L d f J0 K R n r s D := by
  intro D
  induction D with
  | zero => exact fun hd => msD h 0 hd (fun D' h => absurd h (by omega))
  | succ D ih =>
    intro hd
    refine msD h (D + 1) hd ?_
    intro D' h'
    have e : D = D' := by omega
    subst e
    exact ih (by omega)
end
