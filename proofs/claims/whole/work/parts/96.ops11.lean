/-! the calls, one by one: tape -/
def zK (K : mJ) (t k : Nat) : mJ := fun a j => if a = 107 ∧ 60 * t + k ≤ j ∧ j < 60 * t + 60 then 0 else K a j
section
variable {L d : Nat} {J J' J1 J2 K K' : mJ} {R R1 R' : mm_R} {x y z v : Int} {f : Int → Int}
theorem l_zero (hR : wfR R) (hx : 0 ≤ x ∧ x < 6) : ∀ (i k : Nat) (K : mJ), 60 - k = i → k ≤ 60 → EE d 231 93 [some (.ref 76), some (vi x), some (vi y), some (vi z), some (vi k)] [] (SH L) J K R = ok (some (vi 1)) (SH L) J (zK K x.toNat k) R := by
  have s76 : (SH L)[76]? = some (11, 58) := rfl; have r76_0 : R 76 0 = some 77 := rr_lk hR rfl; have r76_3 : R 76 3 = some 78 := rr_lk hR rfl; have r76_4 : R 76 4 = some 79 := rr_lk hR rfl; have r76_6 : R 76 6 = some 80 := rr_lk hR rfl; have r76_7 : R 76 7 = some 81 := rr_lk hR rfl; have r76_9 : R 76 9 = some 82 := rr_lk hR rfl; have r76_10 : R 76 10 = some 83 := rr_lk hR rfl; have r76_12 : R 76 12 = some 84 := rr_lk hR rfl; have r76_13 : R 76 13 = some 85 := rr_lk hR rfl; have r76_19 : R 76 19 = some 86 := rr_lk hR rfl; have r76_20 : R 76 20 = some 87 := rr_lk hR rfl; have r76_21 : R 76 21 = some 88 := rr_lk hR rfl; have r76_22 : R 76 22 = some 89 := rr_lk hR rfl; have r76_24 : R 76 24 = some 90 := rr_lk hR rfl; have r76_25 : R 76 25 = some 91 := rr_lk hR rfl; have r76_26 : R 76 26 = some 92 := rr_lk hR rfl; have r76_28 : R 76 28 = some 93 := rr_lk hR rfl; have r76_29 : R 76 29 = some 94 := rr_lk hR rfl; have r76_30 : R 76 30 = some 95 := rr_lk hR rfl; have r76_31 : R 76 31 = some 96 := rr_lk hR rfl; have r76_32 : R 76 32 = some 97 := rr_lk hR rfl; have r76_36 : R 76 36 = some 98 := rr_lk hR rfl; have r76_38 : R 76 38 = some 99 := rr_lk hR rfl; have r76_39 : R 76 39 = some 100 := rr_lk hR rfl; have r76_40 : R 76 40 = some 101 := rr_lk hR rfl; have r76_41 : R 76 41 = some 102 := rr_lk hR rfl; have r76_42 : R 76 42 = some 103 := rr_lk hR rfl; have r76_47 : R 76 47 = some 104 := rr_lk hR rfl; have r76_53 : R 76 53 = some 105 := rr_lk hR rfl; have r76_54 : R 76 54 = some 106 := rr_lk hR rfl; have r76_55 : R 76 55 = some 107 := rr_lk hR rfl; have r76_56 : R 76 56 = some 108 := rr_lk hR rfl; have r76_57 : R 76 57 = some 109 := rr_lk hR rfl; have s107 : (SH L)[107]? = some (21, 360) := rfl
  intro i
  induction i with
  | zero =>
    intro k K hi hk
    have e : zK K x.toNat k = K := by
      funext a j; unfold zK; rw [if_neg (by omega)]
    rw [e]
    simp (disch := first | assumption | omega | exact bi_lo | exact bi_hi | exact bi_01 | exact jcmp_lo | exact jcmp_hi | exact (jor_r _ _).1 | exact (jor_r _ _).2 | exact (jand_r _ _).1 | exact (jand_r _ _).2) only [x231_93, x231_95, x231_97, x231_119, x231_120, kb_some, kb_none, clr_vi, clr_ref, clr_null, clr_none, va_rf_some, va_rf_none, ↓bi_ite_t, ↓bi_ite_f, ↓jc_lt_t, ↓jc_lt_f, ↓jc_gt_t, ↓jc_gt_f, ↓jc_le_t, ↓jc_le_f, ↓jc_ge_t, ↓jc_ge_f, ↓jc_eq_t, ↓jc_eq_f, ↓if_pos, ↓if_neg]
  | succ i ih =>
    intro k K hi hk
    have ih' := ih (k + 1) (mm_up K 107 (60 * x.toNat + k) 0) (by omega) (by omega)
    have e : zK (mm_up K 107 (60 * x.toNat + k) 0) x.toNat (k + 1) = zK K x.toNat k := by
      funext a j; unfold zK mm_up
      repeat' split
      all_goals first | rfl | omega
    rw [e, Int.natCast_succ] at ih'
    have e61 : (60 * x + (k : Int)).toNat = 60 * x.toNat + k := by omega
    have go : ∀ X, EE d 231 93 [some (.ref 76), some (vi x), some (vi y), some (vi z), some (vi ((k : Int) + 1))] [] (SH L) J (mm_up K 107 (60 * x.toNat + k) 0) R = X → EE d 231 93 [some (.ref 76), some (vi x), some (vi y), some (vi z), some (vi k)] [] (SH L) J K R = X := by
      intro X hX
      simp (disch := first | assumption | omega | exact bi_lo | exact bi_hi | exact bi_01 | exact jcmp_lo | exact jcmp_hi | exact (jor_r _ _).1 | exact (jor_r _ _).2 | exact (jand_r _ _).1 | exact (jand_r _ _).2) only [x231_93, x231_95, x231_97, kb_some, kb_none, clr_vi, clr_ref, clr_null, clr_none, va_rf_some, va_rf_none, ↓bi_ite_t, ↓bi_ite_f, ↓jc_lt_t, ↓jc_lt_f, ↓jc_gt_t, ↓jc_gt_f, ↓jc_le_t, ↓jc_le_f, ↓jc_ge_t, ↓jc_ge_f, ↓jc_eq_t, ↓jc_eq_f, ↓if_pos, ↓if_neg]
      simp (disch := first | assumption | omega | exact bi_lo | exact bi_hi | exact bi_01 | exact jcmp_lo | exact jcmp_hi | exact (jor_r _ _).1 | exact (jor_r _ _).2 | exact (jand_r _ _).1 | exact (jand_r _ _).2) only [x231_100, x231_101, x231_104, x231_106, x231_107, x231_108, x231_110, x231_111, x231_112, x231_113, x231_116, kb_some, kb_none, clr_vi, clr_ref, clr_null, clr_none, va_rf_some, va_rf_none, ↓bi_ite_t, ↓bi_ite_f, ↓jc_lt_t, ↓jc_lt_f, ↓jc_gt_t, ↓jc_gt_f, ↓jc_le_t, ↓jc_le_f, ↓jc_ge_t, ↓jc_ge_f, ↓jc_eq_t, ↓jc_eq_f, ↓if_pos, ↓if_neg, e61]
      exact hX
    exact go _ ih'
/-- a tape is made anew in both -/
theorem INV_P {t : Nat} {s n : Int} (h : INV J K R) (ht : t < 6) (hs : s = -1 ∧ n = 0 ∨ (0 ≤ s ∧ s ≤ 4) ∧ 0 ≤ n ∧ n ≤ 60) : INV (mm_up (mm_up (mm_up (mm_up (mm_up (mm_up J (64 + 2 * t) 1 s) (64 + 2 * t) 2 n) 76 11 0) 109 t (if s < 0 then 0 else 1)) 105 t s) 106 t n) (zK (mm_rw K (65 + 2 * t) (zf 0 (K (65 + 2 * t)))) t 0) R := by
  generalize hJ' : mm_up (mm_up (mm_up (mm_up (mm_up (mm_up J (64 + 2 * t) 1 s) (64 + 2 * t) 2 n) 76 11 0) 109 t (if s < 0 then 0 else 1)) 105 t s) 106 t n = J'
  obtain ⟨h1, h2, h3, ⟨h4, h5, h6⟩, h7, h8, h9⟩ := h
  have k : ∀ j, j ≠ 11 → J' 76 j = J 76 j := fun j hj => by
    rw [← hJ', up_ne (by decide), up_ne (by decide), up_ne (by decide), up_j hj, up_ne (by omega), up_ne (by omega)]
  have kk : ∀ a, ¬ (64 ≤ a ∧ a ≤ 76) ∧ a ≠ 109 ∧ a ≠ 105 ∧ a ≠ 106 → J' a = J a := fun a ha => by
    rw [← hJ', up_ne (by omega), up_ne (by omega), up_ne (by omega), up_ne (by omega), up_ne (by omega), up_ne (by omega)]
  refine ⟨h1, IF_o h2 (by rw [kk 4 (by decide)]) (kk _ (by decide)) (k _ (by decide)) (kk _ (by decide)), IT_o h3 (by rw [kk 27 (by decide)]) (kk _ (by decide)) (k _ (by decide)) (kk _ (by decide)), ⟨IW_o h4 (by rw [kk 6 (by decide)]) (kk _ (by decide)) (kk _ (by decide)) (k _ (by decide)) (kk _ (by decide)) (kk _ (by decide)), IW_o h5 (by rw [kk 9 (by decide)]) (kk _ (by decide)) (kk _ (by decide)) (k _ (by decide)) (kk _ (by decide)) (kk _ (by decide)), IW_o h6 (by rw [kk 12 (by decide)]) (kk _ (by decide)) (kk _ (by decide)) (k _ (by decide)) (kk _ (by decide)) (kk _ (by decide))⟩, IG_o h7 ⟨kk 1 (by decide), by rw [kk 2 (by decide)]⟩ (k _ (by decide)) (kk _ (by decide)) (fun a p q => kk _ (by omega)), IX_o h8 (fun a p q => kk _ (by omega)), fun u hu => ?_⟩
  have b := h9 u hu
  by_cases c : u = t
  · subst c
    have f1 : J' (64 + 2 * u) 1 = s := by
      rw [← hJ', up_ne (by omega), up_ne (by omega), up_ne (by omega), up_ne (by omega), up_j (by decide), up_s]
    have f2 : J' (64 + 2 * u) 2 = n := by
      rw [← hJ', up_ne (by omega), up_ne (by omega), up_ne (by omega), up_ne (by omega), up_s]
    have f3 : J' 109 u = if s < 0 then 0 else 1 := by
      rw [← hJ', up_ne (by decide), up_ne (by decide), up_s]
    have f4 : J' 105 u = s := by rw [← hJ', up_ne (by decide), up_s]
    have f5 : J' 106 u = n := by rw [← hJ', up_s]
    rw [f1, f2, f3, f4, f5]
    refine ⟨?_, fun q hq => ?_⟩
    · rcases hs with ⟨e1, e2⟩ | ⟨e1, e2⟩
      · left; rw [if_pos (by omega)]; exact ⟨e1, rfl, e2, e2⟩
      · right; rw [if_neg (by omega)]; exact ⟨e1, rfl, rfl, rfl, e2⟩
    · have g1 : zK (mm_rw K (65 + 2 * u) (zf 0 (K (65 + 2 * u)))) u 0 107 (60 * u + q) = 0 := by
        unfold zK; rw [if_pos (by omega)]
      have g2 : zK (mm_rw K (65 + 2 * u) (zf 0 (K (65 + 2 * u)))) u 0 (65 + 2 * u) q = 0 := by
        unfold zK
        rw [if_neg (by omega), rw_s]
        unfold zf; rw [if_pos (by omega)]
      rw [g1, g2]
      exact ⟨rfl, by omega, by omega⟩
  · have f1 : ∀ j, J' (64 + 2 * u) j = J (64 + 2 * u) j := fun j => by
      rw [← hJ', up_ne (by omega), up_ne (by omega), up_ne (by omega), up_ne (by omega), up_ne (by omega), up_ne (by omega)]
    have f3 : J' 109 u = J 109 u := by
      rw [← hJ', up_ne (by decide), up_ne (by decide), up_j c, up_ne (by decide), up_ne (by omega), up_ne (by omega)]
    have f4 : J' 105 u = J 105 u := by
      rw [← hJ', up_ne (by decide), up_j c, up_ne (by decide), up_ne (by decide), up_ne (by omega), up_ne (by omega)]
    have f5 : J' 106 u = J 106 u := by
      rw [← hJ', up_j c, up_ne (by decide), up_ne (by decide), up_ne (by decide), up_ne (by omega), up_ne (by omega)]
    rw [f1, f1, f3, f4, f5]
    refine ⟨b.1, fun q hq => ?_⟩
    have g1 : zK (mm_rw K (65 + 2 * t) (zf 0 (K (65 + 2 * t)))) t 0 107 (60 * u + q) = K 107 (60 * u + q) := by
      have : q < 60 := by omega
      unfold zK; rw [if_neg (by omega), rw_a (by omega)]
    have g2 : zK (mm_rw K (65 + 2 * t) (zf 0 (K (65 + 2 * t)))) t 0 (65 + 2 * u) q = K (65 + 2 * u) q := by
      unfold zK; rw [if_neg (by omega), rw_a (by omega)]
    rw [g1, g2]
    exact b.2 q hq
end
