/-! the class shows things -/
theorem jdiv64_nn {x y : Int} (h0 : 0 ≤ x) (h1 : x ≤ 9223372036854775807) (h2 : 0 < y) (h3 : y ≤ 9223372036854775807) : jdiv64 x y = x / y := by
  unfold jdiv64
  rw [Int64.toInt_div, lL_toInt (by omega) h1, lL_toInt (by omega) h3, Int.tdiv_eq_ediv_of_nonneg h0]
  have q1 : 0 ≤ x / y := Int.ediv_nonneg h0 (by omega)
  have q2 : x / y ≤ x := Int.ediv_le_self y h0
  exact Int.bmod_eq_of_le (by omega) (by omega)
theorem jrem64_nn {x y : Int} (h0 : 0 ≤ x) (h1 : x ≤ 9223372036854775807) (h2 : 0 < y) (h3 : y ≤ 9223372036854775807) : jrem64 x y = x % y := by
  have hd : (lL x / lL y) = lL (x / y) := by
    have e := jdiv64_nn h0 h1 h2 h3
    unfold jdiv64 at e
    rw [← lL_of (lL x / lL y), e]
  unfold jrem64
  rw [hd, lL_mul, lL_sub]
  have q : x - x / y * y = x % y := by rw [Int.mul_comm]; have := Int.emod_def x y; omega
  rw [q]
  have r1 := Int.emod_nonneg x (show y ≠ 0 by omega)
  have r2 := Int.emod_lt_of_pos x h2
  exact lL_toInt (by omega) (by omega)
theorem jl2i_s {x : Int} (h0 : -2147483648 ≤ x) (h1 : x ≤ 2147483647) : jl2i x = x := by
  unfold jl2i
  rw [Int64.toInt_toInt32, lL_toInt (by omega) (by omega)]
  exact Int.bmod_eq_of_le (by omega) (by omega)
theorem rawL_s {g : Int → Int} {m : Nat} {p : Int} : rawL g (m + 1) p = 44 :: numL (g p) ++ rawL g m (p + 1) := rfl
theorem rowL_s {g : Int → Int} {m : Nat} {p : Int} : rowL g (m + 1) p = g p :: rowL g m (p + 1) := rfl
section
variable {L d : Nat} {J0 K : mJ} {R : mm_R} {l : List Int} {v r p y : Int} {g : Int → Int}
theorem sg_append (hR : wfR R) (h0 : J0 61 1 = 0) (hl : l.length < 600) : EE d 4 0 [some (.ref 61), some (vi y)] [] (SH L) (apL 61 62 J0 l) K R = ok (some (vi 1)) (SH L) (apL 61 62 J0 (l ++ [y])) K R := by
  have hB : isB (SH L) R 61 62 600 := ⟨rfl, rr_lk hR rfl, rfl, by decide, by decide, by decide⟩
  have hz : apL 61 62 J0 l 61 1 = l.length := by rw [apL_sz (by decide), h0]; omega
  rw [c_append hB (by rw [hz]; omega)]
  rw [← apL_snoc]; rfl
theorem l_pow (hr : 0 ≤ r ∧ r ≤ 2147483648) {J : mJ} : ∀ (n : Nat) (p k : Int), (10 - k).toNat = n → 0 ≤ k ∧ k ≤ 10 → 1 ≤ p ∧ p ≤ 2147483648 →
    ∃ k', EE d 50 26 [some (.ref 60), some (vi v), some (vl r), none, some (vl p), none, some (vi k)] [] (SH L) J K R = EE d 50 58 [some (.ref 60), some (vi v), some (vl r), none, some (vl (pwF r n p)), none, some (vi k')] [] (SH L) J K R := by
  intro n
  induction n with
  | zero =>
    intro p k hn hk hp
    refine ⟨k, ?_⟩
    simp (disch := first | assumption | omega | exact bi_lo | exact bi_hi | exact bi_01 | exact jcmp_lo | exact jcmp_hi | exact (jor_r _ _).1 | exact (jor_r _ _).2 | exact (jand_r _ _).1 | exact (jand_r _ _).2) only [x50_26, x50_28, x50_30, kb_some, kb_none, clr_vi, clr_ref, clr_null, clr_none, va_rf_some, va_rf_none, ↓bi_ite_t, ↓bi_ite_f, ↓jc_lt_t, ↓jc_lt_f, ↓jc_gt_t, ↓jc_gt_f, ↓jc_le_t, ↓jc_le_f, ↓jc_ge_t, ↓jc_ge_f, ↓jc_eq_t, ↓jc_eq_f, ↓if_pos, ↓if_neg, pwF]
  | succ n ih =>
    intro p k hn hk hp
    unfold pwF
    by_cases c : p * 10 ≤ r
    · rw [if_pos c]
      obtain ⟨k', e⟩ := ih (p * 10) (k + 1) (by omega) (by omega) (by omega)
      refine ⟨k', ?_⟩
      rw [← e]
      have go : ∀ X, EE d 50 26 [some (.ref 60), some (vi v), some (vl r), none, some (vl (p * 10)), none, some (vi (k + 1))] [] (SH L) J K R = X → EE d 50 26 [some (.ref 60), some (vi v), some (vl r), none, some (vl p), none, some (vi k)] [] (SH L) J K R = X := by
        intro X hX
        simp (disch := first | assumption | omega | exact bi_lo | exact bi_hi | exact bi_01 | exact jcmp_lo | exact jcmp_hi | exact (jor_r _ _).1 | exact (jor_r _ _).2 | exact (jand_r _ _).1 | exact (jand_r _ _).2) only [x50_26, x50_28, x50_30, kb_some, kb_none, clr_vi, clr_ref, clr_null, clr_none, va_rf_some, va_rf_none, ↓bi_ite_t, ↓bi_ite_f, ↓jc_lt_t, ↓jc_lt_f, ↓jc_gt_t, ↓jc_gt_f, ↓jc_le_t, ↓jc_le_f, ↓jc_ge_t, ↓jc_ge_f, ↓jc_eq_t, ↓jc_eq_f, ↓if_pos, ↓if_neg]
        simp (disch := first | assumption | omega | exact bi_lo | exact bi_hi | exact bi_01 | exact jcmp_lo | exact jcmp_hi | exact (jor_r _ _).1 | exact (jor_r _ _).2 | exact (jand_r _ _).1 | exact (jand_r _ _).2) only [x50_33, x50_35, x50_38, x50_39, x50_40, x50_41, x50_44, x50_46, x50_49, x50_50, x50_52, x50_55, kb_some, kb_none, clr_vi, clr_ref, clr_null, clr_none, va_rf_some, va_rf_none, ↓bi_ite_t, ↓bi_ite_f, ↓jc_lt_t, ↓jc_lt_f, ↓jc_gt_t, ↓jc_gt_f, ↓jc_le_t, ↓jc_le_f, ↓jc_ge_t, ↓jc_ge_f, ↓jc_eq_t, ↓jc_eq_f, ↓if_pos, ↓if_neg]
        exact hX
      exact go _ rfl
    · rw [if_neg c]
      refine ⟨k, ?_⟩
      simp (disch := first | assumption | omega | exact bi_lo | exact bi_hi | exact bi_01 | exact jcmp_lo | exact jcmp_hi | exact (jor_r _ _).1 | exact (jor_r _ _).2 | exact (jand_r _ _).1 | exact (jand_r _ _).2) only [x50_26, x50_28, x50_30, x50_33, x50_35, x50_38, x50_39, x50_40, x50_41, kb_some, kb_none, clr_vi, clr_ref, clr_null, clr_none, va_rf_some, va_rf_none, ↓bi_ite_t, ↓bi_ite_f, ↓jc_lt_t, ↓jc_lt_f, ↓jc_gt_t, ↓jc_gt_f, ↓jc_le_t, ↓jc_le_f, ↓jc_ge_t, ↓jc_ge_f, ↓jc_eq_t, ↓jc_eq_f, ↓if_pos, ↓if_neg]
theorem l_dig (hR : wfR R) (h0 : J0 61 1 = 0) (hr : 0 ≤ r ∧ r ≤ 2147483648) {l6 : Option Value} : ∀ (n : Nat) (p : Int) (l : List Int), 0 ≤ p ∧ p ≤ 2147483648 → p < 10 ^ n → l.length + n ≤ 600 →
    EE (d + 1) 50 58 [some (.ref 60), some (vi v), some (vl r), none, some (vl p), none, l6] [] (SH L) (apL 61 62 J0 l) K R = ok none (SH L) (apL 61 62 J0 (l ++ dlF r n p)) K R := by
  have s60 : (SH L)[60]? = some (5, 1) := rfl; have r60_0 : R 60 0 = some 61 := rr_lk hR rfl; have s61 : (SH L)[61]? = some (0, 2) := rfl; have r61_0 : R 61 0 = some 62 := rr_lk hR rfl
  intro n
  induction n with
  | zero =>
    intro p l hp hn hl
    have hn' : p < 1 := hn
    simp (disch := first | assumption | omega | exact bi_lo | exact bi_hi | exact bi_01 | exact jcmp_lo | exact jcmp_hi | exact (jor_r _ _).1 | exact (jor_r _ _).2 | exact (jand_r _ _).1 | exact (jand_r _ _).2) only [x50_58, x50_60, x50_61, x50_62, x50_97, kb_some, kb_none, clr_vi, clr_ref, clr_null, clr_none, va_rf_some, va_rf_none, ↓bi_ite_t, ↓bi_ite_f, ↓jc_lt_t, ↓jc_lt_f, ↓jc_gt_t, ↓jc_gt_f, ↓jc_le_t, ↓jc_le_f, ↓jc_ge_t, ↓jc_ge_f, ↓jc_eq_t, ↓jc_eq_f, ↓if_pos, ↓if_neg]
    unfold dlF; rw [List.append_nil]
  | succ n ih =>
    intro p l hp hn hl
    unfold dlF
    by_cases c : 0 < p
    · rw [if_pos c]
      rw [Int.pow_succ] at hn
      have hq1 : 0 ≤ r / p := Int.ediv_nonneg hr.1 (by omega)
      have hq2 : r / p ≤ r := Int.ediv_le_self p hr.1
      have e1 := jdiv64_nn (x := r) (y := p) hr.1 (by omega) c (by omega)
      have e2 := jrem64_nn (x := r / p) (y := 10) hq1 (by omega) (by omega) (by omega)
      have e3 := jl2i_s (x := 48 + r / p % 10) (by omega) (by omega)
      have e4 := jdiv64_nn (x := p) (y := 10) (by omega) (by omega) (by omega) (by omega)
      have ha := sg_append (L := L) (d := d) (K := K) (y := 48 + r / p % 10) hR h0 (l := l) (by omega)
      have ih' := ih (p / 10) (l ++ [48 + r / p % 10]) (by omega) (by omega) (by simp; omega)
      simp (disch := first | assumption | omega | exact bi_lo | exact bi_hi | exact bi_01 | exact jcmp_lo | exact jcmp_hi | exact (jor_r _ _).1 | exact (jor_r _ _).2 | exact (jand_r _ _).1 | exact (jand_r _ _).2) only [x50_58, x50_60, x50_61, x50_62, kb_some, kb_none, clr_vi, clr_ref, clr_null, clr_none, va_rf_some, va_rf_none, ↓bi_ite_t, ↓bi_ite_f, ↓jc_lt_t, ↓jc_lt_f, ↓jc_gt_t, ↓jc_gt_f, ↓jc_le_t, ↓jc_le_f, ↓jc_ge_t, ↓jc_ge_f, ↓jc_eq_t, ↓jc_eq_f, ↓if_pos, ↓if_neg]
      simp (disch := first | assumption | omega | exact bi_lo | exact bi_hi | exact bi_01 | exact jcmp_lo | exact jcmp_hi | exact (jor_r _ _).1 | exact (jor_r _ _).2 | exact (jand_r _ _).1 | exact (jand_r _ _).2) only [x50_65, x50_66, x50_69, x50_72, x50_73, x50_75, x50_76, x50_79, x50_80, x50_81, x50_82, x50_85, x50_86, x50_88, x50_91, x50_92, x50_94, kb_some, kb_none, clr_vi, clr_ref, clr_null, clr_none, va_rf_some, va_rf_none, e1, e2, e3, e4, ha]
      rw [ih', List.append_assoc]; rfl
    · rw [if_neg c, List.append_nil]
      simp (disch := first | assumption | omega | exact bi_lo | exact bi_hi | exact bi_01 | exact jcmp_lo | exact jcmp_hi | exact (jor_r _ _).1 | exact (jor_r _ _).2 | exact (jand_r _ _).1 | exact (jand_r _ _).2) only [x50_58, x50_60, x50_61, x50_62, x50_97, kb_some, kb_none, clr_vi, clr_ref, clr_null, clr_none, va_rf_some, va_rf_none, ↓bi_ite_t, ↓bi_ite_f, ↓jc_lt_t, ↓jc_lt_f, ↓jc_gt_t, ↓jc_gt_f, ↓jc_le_t, ↓jc_le_f, ↓jc_ge_t, ↓jc_ge_f, ↓jc_eq_t, ↓jc_eq_f, ↓if_pos, ↓if_neg]
theorem sg_number (hR : wfR R) (h0 : J0 61 1 = 0) (hv : -2147483648 ≤ v ∧ v ≤ 2147483647) (hl : l.length + 11 ≤ 600) : EE (d + 1) 50 0 [some (.ref 60), some (vi v), none, none, none, none, none] [] (SH L) (apL 61 62 J0 l) K R = ok none (SH L) (apL 61 62 J0 (l ++ numL v)) K R := by
  have s60 : (SH L)[60]? = some (5, 1) := rfl; have r60_0 : R 60 0 = some 61 := rr_lk hR rfl; have s61 : (SH L)[61]? = some (0, 2) := rfl; have r61_0 : R 61 0 = some 62 := rr_lk hR rfl
  have ha := sg_append (L := L) (d := d) (K := K) (y := 45) hR h0 (l := l) (by omega)
  have hab : (if 0 < v then v else -v) = ab v := rfl
  have hr := ab_r hv
  have hw := pwF_le (r := ab v) 10 1 (by omega)
  unfold numL
  by_cases c : v < 0
  · rw [if_pos c, ← List.append_assoc]
    obtain ⟨k', e⟩ := l_pow (L := L) (d := d + 1) (K := K) (R := R) (v := v) (J := apL 61 62 J0 (l ++ [45])) hr 10 1 0 (by omega) (by omega) (by omega)
    have hd := l_dig (L := L) (d := d) (K := K) (v := v) hR h0 hr (l6 := some (vi k')) 10 (pwF (ab v) 10 1) (l ++ [45]) (by omega) (by show _ < (10000000000 : Int); omega) (by simp; omega)
    rw [← e] at hd
    simp (disch := first | assumption | omega | exact bi_lo | exact bi_hi | exact bi_01 | exact jcmp_lo | exact jcmp_hi | exact (jor_r _ _).1 | exact (jor_r _ _).2 | exact (jand_r _ _).1 | exact (jand_r _ _).2) only [x50_0, x50_1, x50_2, x50_5, kb_some, kb_none, clr_vi, clr_ref, clr_null, clr_none, va_rf_some, va_rf_none]
    rw [hab]
    simp (disch := first | assumption | omega | exact bi_lo | exact bi_hi | exact bi_01 | exact jcmp_lo | exact jcmp_hi | exact (jor_r _ _).1 | exact (jor_r _ _).2 | exact (jand_r _ _).1 | exact (jand_r _ _).2) only [x50_6, x50_7, x50_10, x50_11, x50_14, x50_16, x50_19, x50_20, x50_21, x50_23, x50_24, kb_some, kb_none, clr_vi, clr_ref, clr_null, clr_none, va_rf_some, va_rf_none, ↓bi_ite_t, ↓bi_ite_f, ↓jc_lt_t, ↓jc_lt_f, ↓jc_gt_t, ↓jc_gt_f, ↓jc_le_t, ↓jc_le_f, ↓jc_ge_t, ↓jc_ge_f, ↓jc_eq_t, ↓jc_eq_f, ↓if_pos, ↓if_neg, ha]
    exact hd
  · rw [if_neg c, List.nil_append]
    obtain ⟨k', e⟩ := l_pow (L := L) (d := d + 1) (K := K) (R := R) (v := v) (J := apL 61 62 J0 l) hr 10 1 0 (by omega) (by omega) (by omega)
    have hd := l_dig (L := L) (d := d) (K := K) (v := v) hR h0 hr (l6 := some (vi k')) 10 (pwF (ab v) 10 1) l (by omega) (by show _ < (10000000000 : Int); omega) (by omega)
    rw [← e] at hd
    simp (disch := first | assumption | omega | exact bi_lo | exact bi_hi | exact bi_01 | exact jcmp_lo | exact jcmp_hi | exact (jor_r _ _).1 | exact (jor_r _ _).2 | exact (jand_r _ _).1 | exact (jand_r _ _).2) only [x50_0, x50_1, x50_2, x50_5, kb_some, kb_none, clr_vi, clr_ref, clr_null, clr_none, va_rf_some, va_rf_none]
    rw [hab]
    simp (disch := first | assumption | omega | exact bi_lo | exact bi_hi | exact bi_01 | exact jcmp_lo | exact jcmp_hi | exact (jor_r _ _).1 | exact (jor_r _ _).2 | exact (jand_r _ _).1 | exact (jand_r _ _).2) only [x50_6, x50_7, x50_20, x50_21, x50_23, x50_24, kb_some, kb_none, clr_vi, clr_ref, clr_null, clr_none, va_rf_some, va_rf_none, ↓bi_ite_t, ↓bi_ite_f, ↓jc_lt_t, ↓jc_lt_f, ↓jc_gt_t, ↓jc_gt_f, ↓jc_le_t, ↓jc_le_f, ↓jc_ge_t, ↓jc_ge_f, ↓jc_eq_t, ↓jc_eq_f, ↓if_pos, ↓if_neg]
    exact hd
/-- what the shower needs of the reader's things -/
def SW (J0 : mJ) (R : mm_R) : Prop := wfR R ∧ J0 61 1 = 0 ∧ (0 ≤ J0 36 6 ∧ J0 36 6 ≤ 40) ∧ (0 ≤ J0 42 1 ∧ J0 42 1 ≤ 120)
theorem sw_ty (h : SW J0 R) {i : Nat} (hi : (i : Int) < J0 36 6) : EE (d + 1) 90 0 [some (.ref 36), some (vi i)] [] (SH L) (apL 61 62 J0 l) K R = ok (some (vi (J0 37 i))) (SH L) (apL 61 62 J0 l) K R := by
  have e : ∀ c j, c ≠ 61 ∧ c ≠ 62 → apL 61 62 J0 l c j = J0 c j := fun c j hc => by rw [apL_o hc]
  have := t_typeOf (d := d) (J := apL 61 62 J0 l) (K := K) (i := i) (isT_36 (L := L) h.1) (by rw [e _ _ (by decide)]; exact h.2.2.1) (by rw [e _ _ (by decide)]; omega)
  rw [this, Int.toNat_natCast, e _ _ (by decide)]
theorem sw_wo (h : SW J0 R) {i : Nat} (hi : (i : Int) < J0 36 6) : EE (d + 1) 91 0 [some (.ref 36), some (vi i)] [] (SH L) (apL 61 62 J0 l) K R = ok (some (vi (J0 38 i))) (SH L) (apL 61 62 J0 l) K R := by
  have e : ∀ c j, c ≠ 61 ∧ c ≠ 62 → apL 61 62 J0 l c j = J0 c j := fun c j hc => by rw [apL_o hc]
  have := t_worthOf (d := d) (J := apL 61 62 J0 l) (K := K) (i := i) (isT_36 (L := L) h.1) (by rw [e _ _ (by decide)]; exact h.2.2.1) (by rw [e _ _ (by decide)]; omega)
  rw [this, Int.toNat_natCast, e _ _ (by decide)]
theorem sw_sp (h : SW J0 R) {i : Nat} (hi : (i : Int) < J0 36 6) : EE (d + 1) 92 0 [some (.ref 36), some (vi i)] [] (SH L) (apL 61 62 J0 l) K R = ok (some (vi (J0 40 i))) (SH L) (apL 61 62 J0 l) K R := by
  have e : ∀ c j, c ≠ 61 ∧ c ≠ 62 → apL 61 62 J0 l c j = J0 c j := fun c j hc => by rw [apL_o hc]
  have := t_spanOf (d := d) (J := apL 61 62 J0 l) (K := K) (i := i) (isT_36 (L := L) h.1) (by rw [e _ _ (by decide)]; exact h.2.2.1) (by rw [e _ _ (by decide)]; omega)
  rw [this, Int.toNat_natCast, e _ _ (by decide)]
theorem sw_co (h : SW J0 R) {i : Nat} (hi : (i : Int) < J0 36 6) {a : Da} {lv : Int} {n : Nat} (hc : cN g (J0 42 1) (J0 37) (J0 38) (J0 39) (J0 40) (J0 41) (J0 43) lv a n i) (ha : a.1 = 115 ∨ a.1 = 114) {k : Int} (hk : 0 ≤ k ∧ k < a.2.1) : EE (d + 1) 93 0 [some (.ref 36), some (vi i), some (vi k)] [] (SH L) (apL 61 62 J0 l) K R = ok (some (vi (g (a.2.2 + k)))) (SH L) (apL 61 62 J0 l) K R := by
  have e : ∀ c j, c ≠ 61 ∧ c ≠ 62 → apL 61 62 J0 l c j = J0 c j := fun c j hc => by rw [apL_o hc]
  obtain ⟨q1, q2, q3, q4⟩ := hc.2.2.2.2 ha
  have h42 := h.2.2.2
  have := t_contentOf (d := d) (J := apL 61 62 J0 l) (K := K) (i := i) (k := k) (isT_36 (L := L) h.1) (by rw [e _ _ (by decide)]; exact h.2.2.1) (by rw [e _ _ (by decide)]; omega) (by rw [e _ _ (by decide)]; exact h42) (by rw [e _ _ (by decide), Int.toNat_natCast]; omega)
  rw [this]
  unfold bA
  rw [e _ _ (by decide), e _ _ (by decide), Int.toNat_natCast, e _ _ (by decide), if_pos (by omega)]
  have := q4 k.toNat (by omega)
  rw [show (J0 41 i + k).toNat = (J0 41 i).toNat + k.toNat by omega, this, Int.toNat_of_nonneg hk.1]
theorem l_swords (h : SW J0 R) {i : Nat} (hi : (i : Int) < J0 36 6) {a : Da} {lv : Int} {n : Nat} (hc : cN g (J0 42 1) (J0 37) (J0 38) (J0 39) (J0 40) (J0 41) (J0 43) lv a n i) (ha : a.1 = 115 ∨ a.1 = 114) (hw : a.2.1 ≤ 20) : ∀ (m : Nat) (k : Int) (l : List Int), (a.2.1 - k).toNat = m → 0 ≤ k ∧ k ≤ a.2.1 → l.length + m + 1 ≤ 600 →
    EE (d + 2) 51 12 [some (.ref 60), some (.ref 36), some (vi i), some (vi k)] [] (SH L) (apL 61 62 J0 l) K R = ok none (SH L) (apL 61 62 J0 (l ++ rowL g m (a.2.2 + k) ++ [34])) K R := by
  have hR := h.1
  have s36 : (SH L)[36]? = some (9, 7) := rfl; have r36_0 : R 36 0 = some 37 := rr_lk hR rfl; have r36_1 : R 36 1 = some 38 := rr_lk hR rfl; have r36_2 : R 36 2 = some 39 := rr_lk hR rfl; have r36_3 : R 36 3 = some 40 := rr_lk hR rfl; have r36_4 : R 36 4 = some 41 := rr_lk hR rfl; have r36_5 : R 36 5 = some 42 := rr_lk hR rfl; have s60 : (SH L)[60]? = some (5, 1) := rfl; have r60_0 : R 60 0 = some 61 := rr_lk hR rfl; have s61 : (SH L)[61]? = some (0, 2) := rfl; have r61_0 : R 61 0 = some 62 := rr_lk hR rfl
  have hwo := fun l => sw_wo (L := L) (d := d) (K := K) (l := l) h hi
  rw [hc.2.1] at hwo
  intro m
  induction m with
  | zero =>
    intro k l hm hk hl
    have hap := sg_append (L := L) (d := d + 1) (K := K) (y := 34) hR h.2.1 (l := l) (by omega)
    simp (disch := first | assumption | omega | exact bi_lo | exact bi_hi | exact bi_01 | exact jcmp_lo | exact jcmp_hi | exact (jor_r _ _).1 | exact (jor_r _ _).2 | exact (jand_r _ _).1 | exact (jand_r _ _).2) only [x51_12, x51_13, x51_13n, x51_14, x51_15, x51_18, x51_41, x51_42, x51_45, x51_47, x51_50, x51_51, kb_some, kb_none, clr_vi, clr_ref, clr_null, clr_none, va_rf_some, va_rf_none, ↓bi_ite_t, ↓bi_ite_f, ↓jc_lt_t, ↓jc_lt_f, ↓jc_gt_t, ↓jc_gt_f, ↓jc_le_t, ↓jc_le_f, ↓jc_ge_t, ↓jc_ge_f, ↓jc_eq_t, ↓jc_eq_f, ↓if_pos, ↓if_neg, hwo, hap]
    unfold rowL; rw [List.append_nil]
  | succ m ih =>
    intro k l hm hk hl
    have hco := sw_co (L := L) (d := d) (K := K) (l := l) h hi hc ha (k := k) (by omega)
    have hap := sg_append (L := L) (d := d + 1) (K := K) (y := g (a.2.2 + k)) hR h.2.1 (l := l) (by omega)
    have ih' := ih (k + 1) (l ++ [g (a.2.2 + k)]) (by omega) (by omega) (by simp; omega)
    simp (disch := first | assumption | omega | exact bi_lo | exact bi_hi | exact bi_01 | exact jcmp_lo | exact jcmp_hi | exact (jor_r _ _).1 | exact (jor_r _ _).2 | exact (jand_r _ _).1 | exact (jand_r _ _).2) only [x51_12, x51_13, x51_13n, x51_14, x51_15, x51_18, kb_some, kb_none, clr_vi, clr_ref, clr_null, clr_none, va_rf_some, va_rf_none, ↓bi_ite_t, ↓bi_ite_f, ↓jc_lt_t, ↓jc_lt_f, ↓jc_gt_t, ↓jc_gt_f, ↓jc_le_t, ↓jc_le_f, ↓jc_ge_t, ↓jc_ge_f, ↓jc_eq_t, ↓jc_eq_f, ↓if_pos, ↓if_neg, hwo]
    simp (disch := first | assumption | omega | exact bi_lo | exact bi_hi | exact bi_01 | exact jcmp_lo | exact jcmp_hi | exact (jor_r _ _).1 | exact (jor_r _ _).2 | exact (jand_r _ _).1 | exact (jand_r _ _).2) only [x51_21, x51_22, x51_25, x51_25n, x51_26, x51_27, x51_28, x51_31, x51_34, x51_35, x51_38, kb_some, kb_none, clr_vi, clr_ref, clr_null, clr_none, va_rf_some, va_rf_none, hco, hap]
    rw [ih', show a.2.2 + (k + 1) = a.2.2 + k + 1 by omega]
    rw [rowL_s]
    simp
theorem l_sraw (h : SW J0 R) {i : Nat} (hi : (i : Int) < J0 36 6) {a : Da} {lv : Int} {n : Nat} (hc : cN g (J0 42 1) (J0 37) (J0 38) (J0 39) (J0 40) (J0 41) (J0 43) lv a n i) (ha : a.1 = 115 ∨ a.1 = 114) (hw : a.2.1 ≤ 20) (hb : ∀ k, 0 ≤ k → k < a.2.1 → 0 ≤ g (a.2.2 + k) ∧ g (a.2.2 + k) ≤ 255) : ∀ (m : Nat) (k : Int) (l : List Int), (a.2.1 - k).toNat = m → 0 ≤ k ∧ k ≤ a.2.1 → l.length + 4 * m + 20 ≤ 600 →
    EE (d + 2) 52 12 [some (.ref 60), some (.ref 36), some (vi i), some (vi k)] [] (SH L) (apL 61 62 J0 l) K R = ok none (SH L) (apL 61 62 J0 (l ++ (if k = 0 then (rawL g m (a.2.2 + k)).drop 1 else rawL g m (a.2.2 + k)) ++ [62])) K R := by
  have hR := h.1
  have s36 : (SH L)[36]? = some (9, 7) := rfl; have r36_0 : R 36 0 = some 37 := rr_lk hR rfl; have r36_1 : R 36 1 = some 38 := rr_lk hR rfl; have r36_2 : R 36 2 = some 39 := rr_lk hR rfl; have r36_3 : R 36 3 = some 40 := rr_lk hR rfl; have r36_4 : R 36 4 = some 41 := rr_lk hR rfl; have r36_5 : R 36 5 = some 42 := rr_lk hR rfl; have s60 : (SH L)[60]? = some (5, 1) := rfl; have r60_0 : R 60 0 = some 61 := rr_lk hR rfl; have s61 : (SH L)[61]? = some (0, 2) := rfl; have r61_0 : R 61 0 = some 62 := rr_lk hR rfl
  have hwo := fun l => sw_wo (L := L) (d := d) (K := K) (l := l) h hi
  rw [hc.2.1] at hwo
  intro m
  induction m with
  | zero =>
    intro k l hm hk hl
    have hap := sg_append (L := L) (d := d + 1) (K := K) (y := 62) hR h.2.1 (l := l) (by omega)
    simp (disch := first | assumption | omega | exact bi_lo | exact bi_hi | exact bi_01 | exact jcmp_lo | exact jcmp_hi | exact (jor_r _ _).1 | exact (jor_r _ _).2 | exact (jand_r _ _).1 | exact (jand_r _ _).2) only [x52_12, x52_13, x52_13n, x52_14, x52_15, x52_18, x52_51, x52_52, x52_55, x52_57, x52_60, x52_61, kb_some, kb_none, clr_vi, clr_ref, clr_null, clr_none, va_rf_some, va_rf_none, ↓bi_ite_t, ↓bi_ite_f, ↓jc_lt_t, ↓jc_lt_f, ↓jc_gt_t, ↓jc_gt_f, ↓jc_le_t, ↓jc_le_f, ↓jc_ge_t, ↓jc_ge_f, ↓jc_eq_t, ↓jc_eq_f, ↓if_pos, ↓if_neg, hwo, hap]
    unfold rawL
    simp
  | succ m ih =>
    intro k l hm hk hl
    have hbk := hb k (by omega) (by omega)
    have hlen := numL_len3 hbk
    by_cases c : k = 0
    · have hco := sw_co (L := L) (d := d) (K := K) (l := l) h hi hc ha (k := k) (by omega)
      have hnu := sg_number (L := L) (d := d) (K := K) (v := g (a.2.2 + k)) hR h.2.1 (l := l) (by omega) (by omega)
      have ih' := ih (k + 1) (l ++ numL (g (a.2.2 + k))) (by omega) (by omega) (by simp; omega)
      rw [if_neg (by omega)] at ih'
      rw [if_pos c]
      simp (disch := first | assumption | omega | exact bi_lo | exact bi_hi | exact bi_01 | exact jcmp_lo | exact jcmp_hi | exact (jor_r _ _).1 | exact (jor_r _ _).2 | exact (jand_r _ _).1 | exact (jand_r _ _).2) only [x52_12, x52_13, x52_13n, x52_14, x52_15, x52_18, kb_some, kb_none, clr_vi, clr_ref, clr_null, clr_none, va_rf_some, va_rf_none, ↓bi_ite_t, ↓bi_ite_f, ↓jc_lt_t, ↓jc_lt_f, ↓jc_gt_t, ↓jc_gt_f, ↓jc_le_t, ↓jc_le_f, ↓jc_ge_t, ↓jc_ge_f, ↓jc_eq_t, ↓jc_eq_f, ↓if_pos, ↓if_neg, hwo]
      simp (disch := first | assumption | omega | exact bi_lo | exact bi_hi | exact bi_01 | exact jcmp_lo | exact jcmp_hi | exact (jor_r _ _).1 | exact (jor_r _ _).2 | exact (jand_r _ _).1 | exact (jand_r _ _).2) only [x52_21, x52_22, x52_35, x52_36, x52_36n, x52_37, x52_38, x52_39, x52_42, x52_45, x52_48, kb_some, kb_none, clr_vi, clr_ref, clr_null, clr_none, va_rf_some, va_rf_none, ↓bi_ite_t, ↓bi_ite_f, ↓jc_lt_t, ↓jc_lt_f, ↓jc_gt_t, ↓jc_gt_f, ↓jc_le_t, ↓jc_le_f, ↓jc_ge_t, ↓jc_ge_f, ↓jc_eq_t, ↓jc_eq_f, ↓if_pos, ↓if_neg, hco, hnu]
      rw [ih', show a.2.2 + (k + 1) = a.2.2 + k + 1 by omega]
      rw [rawL_s]
      simp
    · have hap := sg_append (L := L) (d := d + 1) (K := K) (y := 44) hR h.2.1 (l := l) (by omega)
      have hco := sw_co (L := L) (d := d) (K := K) (l := l ++ [44]) h hi hc ha (k := k) (by omega)
      have hnu := sg_number (L := L) (d := d) (K := K) (v := g (a.2.2 + k)) hR h.2.1 (l := l ++ [44]) (by omega) (by simp; omega)
      have ih' := ih (k + 1) (l ++ [44] ++ numL (g (a.2.2 + k))) (by omega) (by omega) (by simp; omega)
      rw [if_neg (by omega)] at ih'
      rw [if_neg c]
      simp (disch := first | assumption | omega | exact bi_lo | exact bi_hi | exact bi_01 | exact jcmp_lo | exact jcmp_hi | exact (jor_r _ _).1 | exact (jor_r _ _).2 | exact (jand_r _ _).1 | exact (jand_r _ _).2) only [x52_12, x52_13, x52_13n, x52_14, x52_15, x52_18, kb_some, kb_none, clr_vi, clr_ref, clr_null, clr_none, va_rf_some, va_rf_none, ↓bi_ite_t, ↓bi_ite_f, ↓jc_lt_t, ↓jc_lt_f, ↓jc_gt_t, ↓jc_gt_f, ↓jc_le_t, ↓jc_le_f, ↓jc_ge_t, ↓jc_ge_f, ↓jc_eq_t, ↓jc_eq_f, ↓if_pos, ↓if_neg, hwo]
      simp (disch := first | assumption | omega | exact bi_lo | exact bi_hi | exact bi_01 | exact jcmp_lo | exact jcmp_hi | exact (jor_r _ _).1 | exact (jor_r _ _).2 | exact (jand_r _ _).1 | exact (jand_r _ _).2) only [x52_21, x52_22, x52_25, x52_26, x52_29, x52_31, x52_34, x52_35, x52_36, x52_36n, x52_37, x52_38, x52_39, x52_42, x52_45, x52_48, kb_some, kb_none, clr_vi, clr_ref, clr_null, clr_none, va_rf_some, va_rf_none, ↓bi_ite_t, ↓bi_ite_f, ↓jc_lt_t, ↓jc_lt_f, ↓jc_gt_t, ↓jc_gt_f, ↓jc_le_t, ↓jc_le_f, ↓jc_ge_t, ↓jc_ge_f, ↓jc_eq_t, ↓jc_eq_f, ↓if_pos, ↓if_neg, hco, hnu, hap]
      rw [ih', show a.2.2 + (k + 1) = a.2.2 + k + 1 by omega]
      rw [rawL_s]
      simp
theorem sw_leaf (h : SW J0 R) {i : Nat} (hi : (i : Int) < J0 36 6) {a : Da} {lv : Int} {n : Nat} (hc : cN g (J0 42 1) (J0 37) (J0 38) (J0 39) (J0 40) (J0 41) (J0 43) lv a n i) (hw : wD g a) (h3 : a.1 ≠ 103) {x3 : Int} (hl : l.length + 12 + 4 * byN a ≤ 590) :
    EE (d + 3) 49 0 [some (.ref 60), some (.ref 36), some (vi i), some (vi x3)] [] (SH L) (apL 61 62 J0 l) K R = ok none (SH L) (apL 61 62 J0 (l ++ leafL g a)) K R := by
  have hR := h.1
  have s36 : (SH L)[36]? = some (9, 7) := rfl; have r36_0 : R 36 0 = some 37 := rr_lk hR rfl; have r36_1 : R 36 1 = some 38 := rr_lk hR rfl; have r36_2 : R 36 2 = some 39 := rr_lk hR rfl; have r36_3 : R 36 3 = some 40 := rr_lk hR rfl; have r36_4 : R 36 4 = some 41 := rr_lk hR rfl; have r36_5 : R 36 5 = some 42 := rr_lk hR rfl; have s60 : (SH L)[60]? = some (5, 1) := rfl; have r60_0 : R 60 0 = some 61 := rr_lk hR rfl; have s61 : (SH L)[61]? = some (0, 2) := rfl; have r61_0 : R 61 0 = some 62 := rr_lk hR rfl
  have hty := fun d l => sw_ty (L := L) (d := d) (K := K) (l := l) h hi
  rw [hc.1] at hty
  have hwo := fun d l => sw_wo (L := L) (d := d) (K := K) (l := l) h hi
  rw [hc.2.1] at hwo
  unfold leafL
  unfold byN at hl
  rcases hw with ⟨w1, w2, w3⟩ | ⟨w1, w2, w3, w4, w5, w6⟩ | w1
  · rw [if_pos w1]
    rw [w1] at hty
    have hnu := sg_number (L := L) (d := d + 1) (K := K) (v := a.2.1) hR h.2.1 (l := l) ⟨w2, w3⟩ (by omega)
    simp (disch := first | assumption | omega | exact bi_lo | exact bi_hi | exact bi_01 | exact jcmp_lo | exact jcmp_hi | exact (jor_r _ _).1 | exact (jor_r _ _).2 | exact (jand_r _ _).1 | exact (jand_r _ _).2) only [x49_0, x49_0n, x49_1, x49_2, x49_5_110, x49_5_114, x49_5_115, x49_5o, x49_40, x49_41, x49_41n, x49_42, x49_43, x49_46, x49_49, x49_52, x49_53, x49_53n, x49_54, x49_55, x49_58, x49_61, x49_62, x49_62n, x49_63, x49_64, x49_67, x49_70, x49_71, x49_71n, x49_72, x49_73, x49_74, x49_77, kb_some, kb_none, clr_vi, clr_ref, clr_null, clr_none, va_rf_some, va_rf_none, ↓bi_ite_t, ↓bi_ite_f, ↓jc_lt_t, ↓jc_lt_f, ↓jc_gt_t, ↓jc_gt_f, ↓jc_le_t, ↓jc_le_f, ↓jc_ge_t, ↓jc_ge_f, ↓jc_eq_t, ↓jc_eq_f, ↓if_pos, ↓if_neg, hty, hwo, hnu]
  · rw [if_neg (by omega)]
    rw [if_pos w1] at hl
    rcases w1 with w1' | w1'
    · rw [if_pos w1']
      rw [w1'] at hty
      have hap := fun l hl => sg_append (L := L) (d := d + 1) (K := K) (y := 34) hR h.2.1 (l := l) hl
      have hlp := l_swords (L := L) (d := d) (K := K) h hi hc (Or.inl w1') w3 a.2.1.toNat 0 (l ++ [34]) (by omega) (by omega) (by simp; omega)
      have go : EE (d + 2) 51 0 [some (.ref 60), some (.ref 36), some (vi i), none] [] (SH L) (apL 61 62 J0 l) K R = ok none (SH L) (apL 61 62 J0 (l ++ (34 :: rowL g a.2.1.toNat a.2.2 ++ [34]))) K R := by
        have ha := hap l (by omega)
        simp (disch := first | assumption | omega | exact bi_lo | exact bi_hi | exact bi_01 | exact jcmp_lo | exact jcmp_hi | exact (jor_r _ _).1 | exact (jor_r _ _).2 | exact (jand_r _ _).1 | exact (jand_r _ _).2) only [x51_0, x51_1, x51_4, x51_6, x51_9, x51_10, x51_11, kb_some, kb_none, clr_vi, clr_ref, clr_null, clr_none, va_rf_some, va_rf_none, ha]
        rw [hlp, Int.add_zero]
        simp
      simp (disch := first | assumption | omega | exact bi_lo | exact bi_hi | exact bi_01 | exact jcmp_lo | exact jcmp_hi | exact (jor_r _ _).1 | exact (jor_r _ _).2 | exact (jand_r _ _).1 | exact (jand_r _ _).2) only [x49_0, x49_0n, x49_1, x49_2, x49_5_110, x49_5_114, x49_5_115, x49_5o, x49_40, x49_41, x49_41n, x49_42, x49_43, x49_46, x49_49, x49_52, x49_53, x49_53n, x49_54, x49_55, x49_58, x49_61, x49_62, x49_62n, x49_63, x49_64, x49_67, x49_70, x49_71, x49_71n, x49_72, x49_73, x49_74, x49_77, kb_some, kb_none, clr_vi, clr_ref, clr_null, clr_none, va_rf_some, va_rf_none, ↓bi_ite_t, ↓bi_ite_f, ↓jc_lt_t, ↓jc_lt_f, ↓jc_gt_t, ↓jc_gt_f, ↓jc_le_t, ↓jc_le_f, ↓jc_ge_t, ↓jc_ge_f, ↓jc_eq_t, ↓jc_eq_f, ↓if_pos, ↓if_neg, hty, go]
    · rw [if_neg (by omega)]
      rw [w1'] at hty
      have hap := fun l hl => sg_append (L := L) (d := d + 1) (K := K) (y := 60) hR h.2.1 (l := l) hl
      have hlp := l_sraw (L := L) (d := d) (K := K) h hi hc (Or.inr w1') w3 w6 a.2.1.toNat 0 (l ++ [60]) (by omega) (by omega) (by simp; omega)
      have go : EE (d + 2) 52 0 [some (.ref 60), some (.ref 36), some (vi i), none] [] (SH L) (apL 61 62 J0 l) K R = ok none (SH L) (apL 61 62 J0 (l ++ (60 :: (rawL g a.2.1.toNat a.2.2).drop 1 ++ [62]))) K R := by
        have ha := hap l (by omega)
        simp (disch := first | assumption | omega | exact bi_lo | exact bi_hi | exact bi_01 | exact jcmp_lo | exact jcmp_hi | exact (jor_r _ _).1 | exact (jor_r _ _).2 | exact (jand_r _ _).1 | exact (jand_r _ _).2) only [x52_0, x52_1, x52_4, x52_6, x52_9, x52_10, x52_11, kb_some, kb_none, clr_vi, clr_ref, clr_null, clr_none, va_rf_some, va_rf_none, ha]
        rw [hlp, Int.add_zero, if_pos rfl]
        simp
      simp (disch := first | assumption | omega | exact bi_lo | exact bi_hi | exact bi_01 | exact jcmp_lo | exact jcmp_hi | exact (jor_r _ _).1 | exact (jor_r _ _).2 | exact (jand_r _ _).1 | exact (jand_r _ _).2) only [x49_0, x49_0n, x49_1, x49_2, x49_5_110, x49_5_114, x49_5_115, x49_5o, x49_40, x49_41, x49_41n, x49_42, x49_43, x49_46, x49_49, x49_52, x49_53, x49_53n, x49_54, x49_55, x49_58, x49_61, x49_62, x49_62n, x49_63, x49_64, x49_67, x49_70, x49_71, x49_71n, x49_72, x49_73, x49_74, x49_77, kb_some, kb_none, clr_vi, clr_ref, clr_null, clr_none, va_rf_some, va_rf_none, ↓bi_ite_t, ↓bi_ite_f, ↓jc_lt_t, ↓jc_lt_f, ↓jc_gt_t, ↓jc_gt_f, ↓jc_le_t, ↓jc_le_f, ↓jc_ge_t, ↓jc_ge_f, ↓jc_eq_t, ↓jc_eq_f, ↓if_pos, ↓if_neg, hty, go]
  · exact absurd w1 h3
/-- what is said of things of D levels -/
def SHD (L d : Nat) (g : Int → Int) (J0 K : mJ) (R : mm_R) (D : Nat) : Prop := ∀ (x : Nd D) (i : Nat) (lv : Int) (l : List Int), cF g (J0 42 1) (J0 37) (J0 38) (J0 39) (J0 40) (J0 41) (J0 43) (D + 1) lv ([x] : List (Nd D)) i → wF g (D + 1) ([x] : List (Nd D)) → (i : Int) + (1 + fsz D x.2 : Nat) ≤ J0 36 6 → l.length + 12 * (1 + fsz D x.2) + 4 * (byN x.1 + fby D x.2) ≤ 590 →
  EE (d + 2 * D + 3) 49 0 [some (.ref 60), some (.ref 36), some (vi i), some (vi (3 - (D : Int)))] [] (SH L) (apL 61 62 J0 l) K R = ok none (SH L) (apL 61 62 J0 (l ++ shN g D x)) K R
theorem l_sgroup (h : SW J0 R) {D : Nat} (hD : D ≤ 2) (hs : SHD L d g J0 K R D) {i : Nat} {en : Int} : ∀ (F : List (Nd D)) (u : Nat) (lv : Int) (l : List Int), cF g (J0 42 1) (J0 37) (J0 38) (J0 39) (J0 40) (J0 41) (J0 43) (D + 1) lv F u → wF g (D + 1) F → en = (u + fsz (D + 1) F : Nat) → en ≤ J0 36 6 → l.length + 12 * fsz (D + 1) F + 4 * fby (D + 1) F + 1 ≤ 590 → i + 1 ≤ u →
    EE (d + 2 * D + 4) 53 33 [some (.ref 60), some (.ref 36), some (vi i), some (vi (2 - (D : Int))), some (vi en), some (vi u)] [] (SH L) (apL 61 62 J0 l) K R = ok none (SH L) (apL 61 62 J0 (l ++ (if u = i + 1 then (shF g (D + 1) F).drop 1 else shF g (D + 1) F) ++ [41])) K R := by
  have hR := h.1
  have h36 := h.2.2.1
  have s36 : (SH L)[36]? = some (9, 7) := rfl; have r36_0 : R 36 0 = some 37 := rr_lk hR rfl; have r36_1 : R 36 1 = some 38 := rr_lk hR rfl; have r36_2 : R 36 2 = some 39 := rr_lk hR rfl; have r36_3 : R 36 3 = some 40 := rr_lk hR rfl; have r36_4 : R 36 4 = some 41 := rr_lk hR rfl; have r36_5 : R 36 5 = some 42 := rr_lk hR rfl; have s60 : (SH L)[60]? = some (5, 1) := rfl; have r60_0 : R 60 0 = some 61 := rr_lk hR rfl; have s61 : (SH L)[61]? = some (0, 2) := rfl; have r61_0 : R 61 0 = some 62 := rr_lk hR rfl
  intro F
  induction F with
  | nil =>
    intro u lv l hc hw he hen hl hu
    rw [fsz_nil] at he
    have hap := sg_append (L := L) (d := d + 2 * D + 3) (K := K) (y := 41) hR h.2.1 (l := l) (by omega)
    simp (disch := first | assumption | omega | exact bi_lo | exact bi_hi | exact bi_01 | exact jcmp_lo | exact jcmp_hi | exact (jor_r _ _).1 | exact (jor_r _ _).2 | exact (jand_r _ _).1 | exact (jand_r _ _).2) only [x53_33, x53_35, x53_37, x53_86, x53_87, x53_90, x53_92, x53_95, x53_96, kb_some, kb_none, clr_vi, clr_ref, clr_null, clr_none, va_rf_some, va_rf_none, ↓bi_ite_t, ↓bi_ite_f, ↓jc_lt_t, ↓jc_lt_f, ↓jc_gt_t, ↓jc_gt_f, ↓jc_le_t, ↓jc_le_f, ↓jc_ge_t, ↓jc_ge_f, ↓jc_eq_t, ↓jc_eq_f, ↓if_pos, ↓if_neg, hap]
    rw [shF_nil]; simp
  | cons x F ih =>
    intro u lv l hc hw he hen hl hu
    have hc' := hc
    have hw' := hw
    rw [cF_cons] at hc
    rw [wF_cons] at hw
    rw [fsz_cons] at he hl
    rw [fby_cons'] at hl
    obtain ⟨u1, u2, u3⟩ := hc
    have hsn := shN_len (g := g) (d := D) (x := x) ⟨hw.1, trivial⟩
    have hspn := fun d l => sw_sp (L := L) (d := d) (K := K) (l := l) h (i := u) (by omega)
    rw [u1.2.2.2.1] at hspn
    by_cases c : u = i + 1
    · have hx := hs x u lv l ⟨u1, u2, trivial⟩ ⟨hw.1, trivial⟩ (by omega) (by omega)
      have ih' := ih (u + 1 + fsz D x.2) lv (l ++ shN g D x) u3 hw.2 (by omega) hen (by simp; omega) (by omega)
      rw [if_neg (by omega), show ((u + 1 + fsz D x.2 : Nat) : Int) = (u : Int) + (1 + (fsz D x.2 : Nat)) by omega] at ih'
      rw [show (3 : Int) - (D : Int) = 2 - (D : Int) + 1 by omega] at hx
      rw [if_pos c, shF_cons]
      simp (disch := first | assumption | omega | exact bi_lo | exact bi_hi | exact bi_01 | exact jcmp_lo | exact jcmp_hi | exact (jor_r _ _).1 | exact (jor_r _ _).2 | exact (jand_r _ _).1 | exact (jand_r _ _).2) only [x53_33, x53_35, x53_37, kb_some, kb_none, clr_vi, clr_ref, clr_null, clr_none, va_rf_some, va_rf_none, ↓bi_ite_t, ↓bi_ite_f, ↓jc_lt_t, ↓jc_lt_f, ↓jc_gt_t, ↓jc_gt_f, ↓jc_le_t, ↓jc_le_f, ↓jc_ge_t, ↓jc_ge_f, ↓jc_eq_t, ↓jc_eq_f, ↓if_pos, ↓if_neg]
      simp (disch := first | assumption | omega | exact bi_lo | exact bi_hi | exact bi_01 | exact jcmp_lo | exact jcmp_hi | exact (jor_r _ _).1 | exact (jor_r _ _).2 | exact (jand_r _ _).1 | exact (jand_r _ _).2) only [x53_40, x53_42, x53_43, x53_44, x53_45, x53_58, x53_59, x53_59n, x53_60, x53_62, x53_63, x53_64, x53_65, x53_68, x53_70, x53_70n, x53_71, x53_73, x53_76, x53_77, x53_80, x53_81, x53_83, kb_some, kb_none, clr_vi, clr_ref, clr_null, clr_none, va_rf_some, va_rf_none, ↓bi_ite_t, ↓bi_ite_f, ↓jc_lt_t, ↓jc_lt_f, ↓jc_gt_t, ↓jc_gt_f, ↓jc_le_t, ↓jc_le_f, ↓jc_ge_t, ↓jc_ge_f, ↓jc_eq_t, ↓jc_eq_f, ↓if_pos, ↓if_neg, hx, hspn]
      rw [ih']
      simp
    · have hap := sg_append (L := L) (d := d + 2 * D + 3) (K := K) (y := 59) hR h.2.1 (l := l) (by omega)
      have hx := hs x u lv (l ++ [59]) ⟨u1, u2, trivial⟩ ⟨hw.1, trivial⟩ (by omega) (by simp; omega)
      have ih' := ih (u + 1 + fsz D x.2) lv (l ++ [59] ++ shN g D x) u3 hw.2 (by omega) hen (by simp; omega) (by omega)
      rw [if_neg (by omega), show ((u + 1 + fsz D x.2 : Nat) : Int) = (u : Int) + (1 + (fsz D x.2 : Nat)) by omega] at ih'
      rw [show (3 : Int) - (D : Int) = 2 - (D : Int) + 1 by omega] at hx
      rw [if_neg c, shF_cons]
      simp (disch := first | assumption | omega | exact bi_lo | exact bi_hi | exact bi_01 | exact jcmp_lo | exact jcmp_hi | exact (jor_r _ _).1 | exact (jor_r _ _).2 | exact (jand_r _ _).1 | exact (jand_r _ _).2) only [x53_33, x53_35, x53_37, kb_some, kb_none, clr_vi, clr_ref, clr_null, clr_none, va_rf_some, va_rf_none, ↓bi_ite_t, ↓bi_ite_f, ↓jc_lt_t, ↓jc_lt_f, ↓jc_gt_t, ↓jc_gt_f, ↓jc_le_t, ↓jc_le_f, ↓jc_ge_t, ↓jc_ge_f, ↓jc_eq_t, ↓jc_eq_f, ↓if_pos, ↓if_neg]
      simp (disch := first | assumption | omega | exact bi_lo | exact bi_hi | exact bi_01 | exact jcmp_lo | exact jcmp_hi | exact (jor_r _ _).1 | exact (jor_r _ _).2 | exact (jand_r _ _).1 | exact (jand_r _ _).2) only [x53_40, x53_42, x53_43, x53_44, x53_45, x53_48, x53_49, x53_52, x53_54, x53_57, x53_58, x53_59, x53_59n, x53_60, x53_62, x53_63, x53_64, x53_65, x53_68, x53_70, x53_70n, x53_71, x53_73, x53_76, x53_77, x53_80, x53_81, x53_83, kb_some, kb_none, clr_vi, clr_ref, clr_null, clr_none, va_rf_some, va_rf_none, ↓bi_ite_t, ↓bi_ite_f, ↓jc_lt_t, ↓jc_lt_f, ↓jc_gt_t, ↓jc_gt_f, ↓jc_le_t, ↓jc_le_f, ↓jc_ge_t, ↓jc_ge_f, ↓jc_eq_t, ↓jc_eq_f, ↓if_pos, ↓if_neg, hx, hspn, hap]
      rw [ih']
      simp
theorem sh_D (h : SW J0 R) (D : Nat) (hD : D ≤ 3) (hg : ∀ D', D = D' + 1 → SHD L d g J0 K R D') : SHD L d g J0 K R D := by
  intro x i lv l hc hw hi hl
  have hR := h.1
  have h36 := h.2.2.1
  have s36 : (SH L)[36]? = some (9, 7) := rfl; have r36_0 : R 36 0 = some 37 := rr_lk hR rfl; have r36_1 : R 36 1 = some 38 := rr_lk hR rfl; have r36_2 : R 36 2 = some 39 := rr_lk hR rfl; have r36_3 : R 36 3 = some 40 := rr_lk hR rfl; have r36_4 : R 36 4 = some 41 := rr_lk hR rfl; have r36_5 : R 36 5 = some 42 := rr_lk hR rfl; have s60 : (SH L)[60]? = some (5, 1) := rfl; have r60_0 : R 60 0 = some 61 := rr_lk hR rfl; have s61 : (SH L)[61]? = some (0, 2) := rfl; have r61_0 : R 61 0 = some 62 := rr_lk hR rfl
  rw [cF_cons] at hc
  rw [wF_cons] at hw
  obtain ⟨u1, u2, -⟩ := hc
  obtain ⟨w1, w2, w3, w4⟩ := hw.1
  unfold shN
  by_cases c : x.1.1 = 103
  · rw [if_pos c]
    obtain ⟨b1, b2, b3⟩ := w2 c
    cases D with
    | zero => omega
    | succ D' =>
      have hty := fun d l => sw_ty (L := L) (d := d) (K := K) (l := l) h (i := i) (by omega)
      rw [u1.1, c] at hty
      have hspn := fun d l => sw_sp (L := L) (d := d) (K := K) (l := l) h (i := i) (by omega)
      rw [u1.2.2.2.1] at hspn
      have hap := sg_append (L := L) (d := d + 2 * D' + 3) (K := K) (y := 40) hR h.2.1 (l := l) (by omega)
      have hgr := l_sgroup h (by omega) (hg D' rfl) (i := i) (en := ((i + 1 + fsz (D' + 1) x.2 : Nat) : Int)) x.2 (i + 1) (lv + 1) (l ++ [40]) u2 w4 rfl (by omega) (by simp; omega) (by omega)
      rw [if_pos rfl] at hgr
      have go : EE (d + 2 * D' + 4) 53 0 [some (.ref 60), some (.ref 36), some (vi i), some (vi (2 - (D' : Int))), none, none] [] (SH L) (apL 61 62 J0 l) K R = ok none (SH L) (apL 61 62 J0 (l ++ (40 :: (shF g (D' + 1) x.2).drop 1 ++ [41]))) K R := by
        rw [Int.natCast_succ, show ((i + 1 + fsz (D' + 1) x.2 : Nat) : Int) = (i : Int) + (1 + (fsz (D' + 1) x.2 : Nat)) by omega] at hgr
        simp (disch := first | assumption | omega | exact bi_lo | exact bi_hi | exact bi_01 | exact jcmp_lo | exact jcmp_hi | exact (jor_r _ _).1 | exact (jor_r _ _).2 | exact (jand_r _ _).1 | exact (jand_r _ _).2) only [x53_0, x53_1, x53_4, x53_6, x53_9, x53_10, x53_11, x53_12, x53_15, x53_16, x53_16n, x53_17, x53_18, x53_21, x53_22, x53_25, x53_26, x53_28, x53_29, x53_30, x53_31, kb_some, kb_none, clr_vi, clr_ref, clr_null, clr_none, va_rf_some, va_rf_none, ↓bi_ite_t, ↓bi_ite_f, ↓jc_lt_t, ↓jc_lt_f, ↓jc_gt_t, ↓jc_gt_f, ↓jc_le_t, ↓jc_le_f, ↓jc_ge_t, ↓jc_ge_f, ↓jc_eq_t, ↓jc_eq_f, ↓if_pos, ↓if_neg, hap, hspn]
        rw [hgr]
        simp
      rw [show (3 : Int) - ((D' + 1 : Nat) : Int) = 2 - (D' : Int) by omega, show d + 2 * (D' + 1) + 3 = d + 2 * D' + 4 + 1 by omega]
      simp (disch := first | assumption | omega | exact bi_lo | exact bi_hi | exact bi_01 | exact jcmp_lo | exact jcmp_hi | exact (jor_r _ _).1 | exact (jor_r _ _).2 | exact (jand_r _ _).1 | exact (jand_r _ _).2) only [x49_0, x49_0n, x49_1, x49_2, x49_5_110, x49_5_114, x49_5_115, x49_5o, x49_40, x49_41, x49_41n, x49_42, x49_43, x49_46, x49_49, x49_52, x49_53, x49_53n, x49_54, x49_55, x49_58, x49_61, x49_62, x49_62n, x49_63, x49_64, x49_67, x49_70, x49_71, x49_71n, x49_72, x49_73, x49_74, x49_77, kb_some, kb_none, clr_vi, clr_ref, clr_null, clr_none, va_rf_some, va_rf_none, ↓bi_ite_t, ↓bi_ite_f, ↓jc_lt_t, ↓jc_lt_f, ↓jc_gt_t, ↓jc_gt_f, ↓jc_le_t, ↓jc_le_f, ↓jc_ge_t, ↓jc_ge_f, ↓jc_eq_t, ↓jc_eq_f, ↓if_pos, ↓if_neg, hty, go]
  · rw [if_neg c]
    exact sw_leaf (d := d + 2 * D) h (by omega) u1 w1 c (by omega)
theorem sh_all (h : SW J0 R) : ∀ (D : Nat), D ≤ 3 → SHD L d g J0 K R D := by
  intro D
  induction D with
  | zero => exact fun hd => sh_D h 0 hd (fun D' h => absurd h (by omega))
  | succ D ih =>
    intro hd
    refine sh_D h (D + 1) hd ?_
    intro D' h'
    have e : D = D' := by omega
    subst e
    exact ih (by omega)
end
