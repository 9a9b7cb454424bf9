/-! the reference shows things: groups -/
/-- none behind k stands in the same group -/
def LAST (p : Nat → Int) (n k : Nat) : Prop := ∀ o, k < o → o < n → p o ≠ p k
def lastB (p : Nat → Int) (v : Int) : Nat → Nat → Bool
  | 0, _ => true
  | m + 1, o => decide (p o ≠ v) && lastB p v m (o + 1)
theorem lastB_t {p : Nat → Int} {v : Int} : ∀ (m o : Nat), lastB p v m o = true ↔ ∀ j, o ≤ j → j < o + m → p j ≠ v := by
  intro m
  induction m with
  | zero => intro o; exact ⟨fun _ j j1 j2 => by omega, fun _ => rfl⟩
  | succ m ih =>
    intro o
    unfold lastB
    rw [Bool.and_eq_true, decide_eq_true_eq, ih]
    constructor
    · intro h j j1 j2
      by_cases c : j = o
      · subst c; exact h.1
      · exact h.2 j (by omega) (by omega)
    · intro h
      exact ⟨h o (by omega) (by omega), fun j j1 j2 => h j (by omega) (by omega)⟩
/-- so many groups end behind k, up to r's -/
def AFp (p : Nat → Int) (n r : Nat) : Nat → Nat → Nat → Prop
  | 0, a, k => a = 0 ∧ k = r
  | b + 1, a, k => k ≠ r ∧ k < n ∧ ∃ q : Nat, p k = q ∧ ((LAST p n k ∧ ∃ a', a = a' + 1 ∧ AFp p n r b a' q) ∨ (¬ LAST p n k ∧ a = 0))
section
variable {L d : Nat} {J K : mJ} {R : mm_R} {f : Int → Int}
theorem l_last (hR : wfR R) {n : Nat} (hn : J 76 18 = n) (h60 : n ≤ 60) {p : Int} (hp : -1 ≤ p ∧ p ≤ 100) (hpr : ∀ j : Nat, j < n → -1 ≤ J 89 j ∧ J 89 j ≤ 100) {l1 l2 l3 l4 l5 : Int} : ∀ (m o : Nat) (s : Int), o + m = n → (s = 0 ∨ s = 1) →
    EE d 209 88 [some (.ref 76), some (vi l1), some (vi l2), some (vi l3), some (vi l4), some (vi l5), some (vi p), some (vi s), some (vi o)] [] (SH L) J K R = EE d 209 127 [some (.ref 76), some (vi l1), some (vi l2), some (vi l3), some (vi l4), some (vi l5), some (vi p), some (vi (bi (s = 1 ∧ lastB (J 89) p m o = true))), some (vi n)] [] (SH L) J K R := by
  have s76 : (SH L)[76]? = some (11, 58) := rfl; have r76_0 : R 76 0 = some 77 := rr_lk hR rfl; have r76_3 : R 76 3 = some 78 := rr_lk hR rfl; have r76_4 : R 76 4 = some 79 := rr_lk hR rfl; have r76_6 : R 76 6 = some 80 := rr_lk hR rfl; have r76_7 : R 76 7 = some 81 := rr_lk hR rfl; have r76_9 : R 76 9 = some 82 := rr_lk hR rfl; have r76_10 : R 76 10 = some 83 := rr_lk hR rfl; have r76_12 : R 76 12 = some 84 := rr_lk hR rfl; have r76_13 : R 76 13 = some 85 := rr_lk hR rfl; have r76_19 : R 76 19 = some 86 := rr_lk hR rfl; have r76_20 : R 76 20 = some 87 := rr_lk hR rfl; have r76_21 : R 76 21 = some 88 := rr_lk hR rfl; have r76_22 : R 76 22 = some 89 := rr_lk hR rfl; have r76_24 : R 76 24 = some 90 := rr_lk hR rfl; have r76_25 : R 76 25 = some 91 := rr_lk hR rfl; have r76_26 : R 76 26 = some 92 := rr_lk hR rfl; have r76_28 : R 76 28 = some 93 := rr_lk hR rfl; have r76_29 : R 76 29 = some 94 := rr_lk hR rfl; have r76_30 : R 76 30 = some 95 := rr_lk hR rfl; have r76_31 : R 76 31 = some 96 := rr_lk hR rfl; have r76_32 : R 76 32 = some 97 := rr_lk hR rfl; have r76_36 : R 76 36 = some 98 := rr_lk hR rfl; have r76_38 : R 76 38 = some 99 := rr_lk hR rfl; have r76_39 : R 76 39 = some 100 := rr_lk hR rfl; have r76_40 : R 76 40 = some 101 := rr_lk hR rfl; have r76_41 : R 76 41 = some 102 := rr_lk hR rfl; have r76_42 : R 76 42 = some 103 := rr_lk hR rfl; have r76_47 : R 76 47 = some 104 := rr_lk hR rfl; have r76_53 : R 76 53 = some 105 := rr_lk hR rfl; have r76_54 : R 76 54 = some 106 := rr_lk hR rfl; have r76_55 : R 76 55 = some 107 := rr_lk hR rfl; have r76_56 : R 76 56 = some 108 := rr_lk hR rfl; have r76_57 : R 76 57 = some 109 := rr_lk hR rfl; have s89 : (SH L)[89]? = some (20, 60) := rfl
  intro m
  induction m with
  | zero =>
    intro o s ho hs
    have e : bi (s = 1 ∧ lastB (J 89) p 0 o = true) = s := by
      rcases hs with rfl | rfl
      · exact bi_f (fun q => by omega)
      · exact bi_t ⟨rfl, rfl⟩
    rw [e]
    have e2 : o = n := by omega
    subst e2
    simp (disch := first | assumption | omega | exact bi_lo | exact bi_hi | exact bi_01 | exact jcmp_lo | exact jcmp_hi | exact (jor_r _ _).1 | exact (jor_r _ _).2 | exact (jand_r _ _).1 | exact (jand_r _ _).2) only [x209_88, x209_90, x209_91, x209_94, kb_some, kb_none, clr_vi, clr_ref, clr_null, clr_none, va_rf_some, va_rf_none, ↓bi_ite_t, ↓bi_ite_f, ↓jc_lt_t, ↓jc_lt_f, ↓jc_gt_t, ↓jc_gt_f, ↓jc_le_t, ↓jc_le_f, ↓jc_ge_t, ↓jc_ge_f, ↓jc_eq_t, ↓jc_eq_f, ↓if_pos, ↓if_neg]
  | succ m ih =>
    intro o s ho hs
    have hpo := hpr o (by omega)
    have step : ∀ s', (s' = if s = 1 ∧ J 89 o ≠ p then 1 else 0) → EE d 209 88 [some (.ref 76), some (vi l1), some (vi l2), some (vi l3), some (vi l4), some (vi l5), some (vi p), some (vi s), some (vi o)] [] (SH L) J K R = EE d 209 88 [some (.ref 76), some (vi l1), some (vi l2), some (vi l3), some (vi l4), some (vi l5), some (vi p), some (vi s'), some (vi (o + 1 : Nat))] [] (SH L) J K R := by
      intro s' hs'
      rw [Int.natCast_succ]
      have go : ∀ X, EE d 209 88 [some (.ref 76), some (vi l1), some (vi l2), some (vi l3), some (vi l4), some (vi l5), some (vi p), some (vi s'), some (vi ((o : Int) + 1))] [] (SH L) J K R = X → EE d 209 88 [some (.ref 76), some (vi l1), some (vi l2), some (vi l3), some (vi l4), some (vi l5), some (vi p), some (vi s), some (vi o)] [] (SH L) J K R = X := by
        intro X hX
        rcases hs with rfl | rfl
        · rw [if_neg (by omega)] at hs'
          subst hs'
          simp (disch := first | assumption | omega | exact bi_lo | exact bi_hi | exact bi_01 | exact jcmp_lo | exact jcmp_hi | exact (jor_r _ _).1 | exact (jor_r _ _).2 | exact (jand_r _ _).1 | exact (jand_r _ _).2) only [x209_88, x209_90, x209_91, x209_94, kb_some, kb_none, clr_vi, clr_ref, clr_null, clr_none, va_rf_some, va_rf_none, ↓bi_ite_t, ↓bi_ite_f, ↓jc_lt_t, ↓jc_lt_f, ↓jc_gt_t, ↓jc_gt_f, ↓jc_le_t, ↓jc_le_f, ↓jc_ge_t, ↓jc_ge_f, ↓jc_eq_t, ↓jc_eq_f, ↓if_pos, ↓if_neg]
          simp (disch := first | assumption | omega | exact bi_lo | exact bi_hi | exact bi_01 | exact jcmp_lo | exact jcmp_hi | exact (jor_r _ _).1 | exact (jor_r _ _).2 | exact (jand_r _ _).1 | exact (jand_r _ _).2) only [x209_97, x209_99, x209_102, x209_103, x209_106, x209_108, x209_109, x209_111, x209_114, x209_115, x209_118, x209_119, x209_121, x209_124, kb_some, kb_none, clr_vi, clr_ref, clr_null, clr_none, va_rf_some, va_rf_none, ↓bi_ite_t, ↓bi_ite_f, ↓jc_lt_t, ↓jc_lt_f, ↓jc_gt_t, ↓jc_gt_f, ↓jc_le_t, ↓jc_le_f, ↓jc_ge_t, ↓jc_ge_f, ↓jc_eq_t, ↓jc_eq_f, ↓if_pos, ↓if_neg]
          exact hX
        · by_cases c : J 89 o = p
          · rw [if_neg (by omega)] at hs'
            subst hs'
            simp (disch := first | assumption | omega | exact bi_lo | exact bi_hi | exact bi_01 | exact jcmp_lo | exact jcmp_hi | exact (jor_r _ _).1 | exact (jor_r _ _).2 | exact (jand_r _ _).1 | exact (jand_r _ _).2) only [x209_88, x209_90, x209_91, x209_94, kb_some, kb_none, clr_vi, clr_ref, clr_null, clr_none, va_rf_some, va_rf_none, ↓bi_ite_t, ↓bi_ite_f, ↓jc_lt_t, ↓jc_lt_f, ↓jc_gt_t, ↓jc_gt_f, ↓jc_le_t, ↓jc_le_f, ↓jc_ge_t, ↓jc_ge_f, ↓jc_eq_t, ↓jc_eq_f, ↓if_pos, ↓if_neg]
            simp (disch := first | assumption | omega | exact bi_lo | exact bi_hi | exact bi_01 | exact jcmp_lo | exact jcmp_hi | exact (jor_r _ _).1 | exact (jor_r _ _).2 | exact (jand_r _ _).1 | exact (jand_r _ _).2) only [x209_97, x209_99, x209_102, x209_103, x209_106, x209_108, x209_109, x209_111, x209_114, x209_115, x209_118, x209_119, x209_121, x209_124, kb_some, kb_none, clr_vi, clr_ref, clr_null, clr_none, va_rf_some, va_rf_none, ↓bi_ite_t, ↓bi_ite_f, ↓jc_lt_t, ↓jc_lt_f, ↓jc_gt_t, ↓jc_gt_f, ↓jc_le_t, ↓jc_le_f, ↓jc_ge_t, ↓jc_ge_f, ↓jc_eq_t, ↓jc_eq_f, ↓if_pos, ↓if_neg, Int.toNat_natCast]
            exact hX
          · rw [if_pos ⟨rfl, c⟩] at hs'
            subst hs'
            simp (disch := first | assumption | omega | exact bi_lo | exact bi_hi | exact bi_01 | exact jcmp_lo | exact jcmp_hi | exact (jor_r _ _).1 | exact (jor_r _ _).2 | exact (jand_r _ _).1 | exact (jand_r _ _).2) only [x209_88, x209_90, x209_91, x209_94, kb_some, kb_none, clr_vi, clr_ref, clr_null, clr_none, va_rf_some, va_rf_none, ↓bi_ite_t, ↓bi_ite_f, ↓jc_lt_t, ↓jc_lt_f, ↓jc_gt_t, ↓jc_gt_f, ↓jc_le_t, ↓jc_le_f, ↓jc_ge_t, ↓jc_ge_f, ↓jc_eq_t, ↓jc_eq_f, ↓if_pos, ↓if_neg]
            simp (disch := first | assumption | omega | exact bi_lo | exact bi_hi | exact bi_01 | exact jcmp_lo | exact jcmp_hi | exact (jor_r _ _).1 | exact (jor_r _ _).2 | exact (jand_r _ _).1 | exact (jand_r _ _).2) only [x209_97, x209_99, x209_102, x209_103, x209_106, x209_108, x209_109, x209_111, x209_114, x209_115, x209_118, x209_119, x209_121, x209_124, kb_some, kb_none, clr_vi, clr_ref, clr_null, clr_none, va_rf_some, va_rf_none, ↓bi_ite_t, ↓bi_ite_f, ↓jc_lt_t, ↓jc_lt_f, ↓jc_gt_t, ↓jc_gt_f, ↓jc_le_t, ↓jc_le_f, ↓jc_ge_t, ↓jc_ge_f, ↓jc_eq_t, ↓jc_eq_f, ↓if_pos, ↓if_neg, Int.toNat_natCast]
            exact hX
      exact go _ rfl
    rw [step _ rfl, ih (o + 1) _ (by omega) (by split <;> omega)]
    have e : bi ((if s = 1 ∧ J 89 o ≠ p then (1 : Int) else 0) = 1 ∧ lastB (J 89) p m (o + 1) = true) = bi (s = 1 ∧ lastB (J 89) p (m + 1) o = true) := by
      have e0 : (lastB (J 89) p (m + 1) o = true) = (J 89 o ≠ p ∧ lastB (J 89) p m (o + 1) = true) := by
        rw [show lastB (J 89) p (m + 1) o = (decide (J 89 o ≠ p) && lastB (J 89) p m (o + 1)) from rfl, Bool.and_eq_true, decide_eq_true_eq]
      by_cases c : s = 1 ∧ J 89 o ≠ p
      · by_cases c2 : lastB (J 89) p m (o + 1) = true
        · rw [bi_t ⟨by rw [if_pos c], c2⟩, bi_t ⟨c.1, by rw [e0]; exact ⟨c.2, c2⟩⟩]
        · rw [bi_f (fun q => c2 q.2), bi_f (fun q => c2 (by have := q.2; rw [e0] at this; exact this.2))]
      · rw [bi_f (fun q => by have := q.1; rw [if_neg c] at this; omega), bi_f (fun q => c ⟨q.1, by have := q.2; rw [e0] at this; exact this.1⟩)]
    rw [e]
theorem l_after (hR : wfR R) {n : Nat} (hn : J 76 18 = n) (h60 : n ≤ 60) (hpr : ∀ j : Nat, j < n → -1 ≤ J 89 j ∧ J 89 j ≤ 100) {r : Nat} (hr : r < 60) {t : Int} : ∀ (b a k : Nat) (m : Int) (l6 l7 l8 : Option Value), AFp (J 89) n r b a k → k < 60 → 0 ≤ m ∧ m + b ≤ 1000 →
    EE d 209 59 [some (.ref 76), some (vi t), some (vi r), some (vi m), some (vi k), some (vi 1), l6, l7, l8] [] (SH L) J K R = ok (some (vi (m + a))) (SH L) J K R := by
  have s76 : (SH L)[76]? = some (11, 58) := rfl; have r76_0 : R 76 0 = some 77 := rr_lk hR rfl; have r76_3 : R 76 3 = some 78 := rr_lk hR rfl; have r76_4 : R 76 4 = some 79 := rr_lk hR rfl; have r76_6 : R 76 6 = some 80 := rr_lk hR rfl; have r76_7 : R 76 7 = some 81 := rr_lk hR rfl; have r76_9 : R 76 9 = some 82 := rr_lk hR rfl; have r76_10 : R 76 10 = some 83 := rr_lk hR rfl; have r76_12 : R 76 12 = some 84 := rr_lk hR rfl; have r76_13 : R 76 13 = some 85 := rr_lk hR rfl; have r76_19 : R 76 19 = some 86 := rr_lk hR rfl; have r76_20 : R 76 20 = some 87 := rr_lk hR rfl; have r76_21 : R 76 21 = some 88 := rr_lk hR rfl; have r76_22 : R 76 22 = some 89 := rr_lk hR rfl; have r76_24 : R 76 24 = some 90 := rr_lk hR rfl; have r76_25 : R 76 25 = some 91 := rr_lk hR rfl; have r76_26 : R 76 26 = some 92 := rr_lk hR rfl; have r76_28 : R 76 28 = some 93 := rr_lk hR rfl; have r76_29 : R 76 29 = some 94 := rr_lk hR rfl; have r76_30 : R 76 30 = some 95 := rr_lk hR rfl; have r76_31 : R 76 31 = some 96 := rr_lk hR rfl; have r76_32 : R 76 32 = some 97 := rr_lk hR rfl; have r76_36 : R 76 36 = some 98 := rr_lk hR rfl; have r76_38 : R 76 38 = some 99 := rr_lk hR rfl; have r76_39 : R 76 39 = some 100 := rr_lk hR rfl; have r76_40 : R 76 40 = some 101 := rr_lk hR rfl; have r76_41 : R 76 41 = some 102 := rr_lk hR rfl; have r76_42 : R 76 42 = some 103 := rr_lk hR rfl; have r76_47 : R 76 47 = some 104 := rr_lk hR rfl; have r76_53 : R 76 53 = some 105 := rr_lk hR rfl; have r76_54 : R 76 54 = some 106 := rr_lk hR rfl; have r76_55 : R 76 55 = some 107 := rr_lk hR rfl; have r76_56 : R 76 56 = some 108 := rr_lk hR rfl; have r76_57 : R 76 57 = some 109 := rr_lk hR rfl; have s89 : (SH L)[89]? = some (20, 60) := rfl
  intro b
  induction b with
  | zero =>
    intro a k m l6 l7 l8 h hk hm
    obtain ⟨rfl, rfl⟩ := h
    simp (disch := first | assumption | omega | exact bi_lo | exact bi_hi | exact bi_01 | exact jcmp_lo | exact jcmp_hi | exact (jor_r _ _).1 | exact (jor_r _ _).2 | exact (jand_r _ _).1 | exact (jand_r _ _).2) only [x209_59, x209_61, x209_64, x209_66, x209_67, x209_151, x209_152, kb_some, kb_none, clr_vi, clr_ref, clr_null, clr_none, va_rf_some, va_rf_none, ↓bi_ite_t, ↓bi_ite_f, ↓jc_lt_t, ↓jc_lt_f, ↓jc_gt_t, ↓jc_gt_f, ↓jc_le_t, ↓jc_le_f, ↓jc_ge_t, ↓jc_ge_f, ↓jc_eq_t, ↓jc_eq_f, ↓if_pos, ↓if_neg]
    rw [show m + ((0 : Nat) : Int) = m by omega]
  | succ b ih =>
    intro a k m l6 l7 l8 h hk hm
    obtain ⟨h1, h2, q, h3, h4⟩ := h
    have hpk := hpr k h2
    rw [h3] at hpk
    have hla := l_last (L := L) (d := d) (K := K) hR hn h60 (p := q) hpk hpr (l1 := t) (l2 := r) (l3 := m) (l4 := k) (l5 := 1) (n - (k + 1)) (k + 1) 1 (by omega) (Or.inr rfl)
    have eP : (lastB (J 89) q (n - (k + 1)) (k + 1) = true) ↔ LAST (J 89) n k := by
      rw [lastB_t]
      unfold LAST; rw [h3]
      exact ⟨fun hh o o1 o2 => hh o (by omega) (by omega), fun hh o o1 o2 => hh o (by omega) (by omega)⟩
    rw [Int.natCast_succ] at hla
    rcases h4 with ⟨h4, a', h5, h6⟩ | ⟨h4, h5⟩
    · rw [bi_t ⟨rfl, eP.mpr h4⟩] at hla
      have hq : q < 60 := by
        cases b with
        | zero => have := h6.2; omega
        | succ b => have := h6.2.1; omega
      have ih' := ih a' q (m + 1) (some (vi q)) (some (vi 1)) (some (vi n)) h6 hq (by omega)
      simp (disch := first | assumption | omega | exact bi_lo | exact bi_hi | exact bi_01 | exact jcmp_lo | exact jcmp_hi | exact (jor_r _ _).1 | exact (jor_r _ _).2 | exact (jand_r _ _).1 | exact (jand_r _ _).2) only [x209_59, x209_61, x209_64, x209_66, x209_67, kb_some, kb_none, clr_vi, clr_ref, clr_null, clr_none, va_rf_some, va_rf_none, ↓bi_ite_t, ↓bi_ite_f, ↓jc_lt_t, ↓jc_lt_f, ↓jc_gt_t, ↓jc_gt_f, ↓jc_le_t, ↓jc_le_f, ↓jc_ge_t, ↓jc_ge_f, ↓jc_eq_t, ↓jc_eq_f, ↓if_pos, ↓if_neg]
      simp (disch := first | assumption | omega | exact bi_lo | exact bi_hi | exact bi_01 | exact jcmp_lo | exact jcmp_hi | exact (jor_r _ _).1 | exact (jor_r _ _).2 | exact (jand_r _ _).1 | exact (jand_r _ _).2) only [x209_70, x209_71, x209_74, x209_76, x209_77, x209_79, x209_80, x209_82, x209_84, x209_85, x209_86, kb_some, kb_none, clr_vi, clr_ref, clr_null, clr_none, va_rf_some, va_rf_none, ↓bi_ite_t, ↓bi_ite_f, ↓jc_lt_t, ↓jc_lt_f, ↓jc_gt_t, ↓jc_gt_f, ↓jc_le_t, ↓jc_le_f, ↓jc_ge_t, ↓jc_ge_f, ↓jc_eq_t, ↓jc_eq_f, ↓if_pos, ↓if_neg, Int.toNat_natCast, h3]
      rw [hla]
      simp (disch := first | assumption | omega | exact bi_lo | exact bi_hi | exact bi_01 | exact jcmp_lo | exact jcmp_hi | exact (jor_r _ _).1 | exact (jor_r _ _).2 | exact (jand_r _ _).1 | exact (jand_r _ _).2) only [x209_127, x209_128, x209_130, x209_133, x209_134, x209_137, x209_138, x209_139, x209_140, x209_142, x209_144, x209_146, x209_148, kb_some, kb_none, clr_vi, clr_ref, clr_null, clr_none, va_rf_some, va_rf_none, ↓bi_ite_t, ↓bi_ite_f, ↓jc_lt_t, ↓jc_lt_f, ↓jc_gt_t, ↓jc_gt_f, ↓jc_le_t, ↓jc_le_f, ↓jc_ge_t, ↓jc_ge_f, ↓jc_eq_t, ↓jc_eq_f, ↓if_pos, ↓if_neg]
      rw [ih', h5, show m + 1 + (a' : Int) = m + ((a' + 1 : Nat) : Int) by omega]
    · rw [bi_f (by intro q; exact h4 (eP.mp q.2))] at hla
      simp (disch := first | assumption | omega | exact bi_lo | exact bi_hi | exact bi_01 | exact jcmp_lo | exact jcmp_hi | exact (jor_r _ _).1 | exact (jor_r _ _).2 | exact (jand_r _ _).1 | exact (jand_r _ _).2) only [x209_59, x209_61, x209_64, x209_66, x209_67, kb_some, kb_none, clr_vi, clr_ref, clr_null, clr_none, va_rf_some, va_rf_none, ↓bi_ite_t, ↓bi_ite_f, ↓jc_lt_t, ↓jc_lt_f, ↓jc_gt_t, ↓jc_gt_f, ↓jc_le_t, ↓jc_le_f, ↓jc_ge_t, ↓jc_ge_f, ↓jc_eq_t, ↓jc_eq_f, ↓if_pos, ↓if_neg]
      simp (disch := first | assumption | omega | exact bi_lo | exact bi_hi | exact bi_01 | exact jcmp_lo | exact jcmp_hi | exact (jor_r _ _).1 | exact (jor_r _ _).2 | exact (jand_r _ _).1 | exact (jand_r _ _).2) only [x209_70, x209_71, x209_74, x209_76, x209_77, x209_79, x209_80, x209_82, x209_84, x209_85, x209_86, kb_some, kb_none, clr_vi, clr_ref, clr_null, clr_none, va_rf_some, va_rf_none, ↓bi_ite_t, ↓bi_ite_f, ↓jc_lt_t, ↓jc_lt_f, ↓jc_gt_t, ↓jc_gt_f, ↓jc_le_t, ↓jc_le_f, ↓jc_ge_t, ↓jc_ge_f, ↓jc_eq_t, ↓jc_eq_f, ↓if_pos, ↓if_neg, Int.toNat_natCast, h3]
      rw [hla]
      simp (disch := first | assumption | omega | exact bi_lo | exact bi_hi | exact bi_01 | exact jcmp_lo | exact jcmp_hi | exact (jor_r _ _).1 | exact (jor_r _ _).2 | exact (jand_r _ _).1 | exact (jand_r _ _).2) only [x209_127, x209_128, x209_130, x209_133, x209_134, x209_137, x209_138, x209_139, x209_140, x209_142, x209_144, x209_146, x209_148, kb_some, kb_none, clr_vi, clr_ref, clr_null, clr_none, va_rf_some, va_rf_none, ↓bi_ite_t, ↓bi_ite_f, ↓jc_lt_t, ↓jc_lt_f, ↓jc_gt_t, ↓jc_gt_f, ↓jc_le_t, ↓jc_le_f, ↓jc_ge_t, ↓jc_ge_f, ↓jc_eq_t, ↓jc_eq_f, ↓if_pos, ↓if_neg]
      simp (disch := first | assumption | omega | exact bi_lo | exact bi_hi | exact bi_01 | exact jcmp_lo | exact jcmp_hi | exact (jor_r _ _).1 | exact (jor_r _ _).2 | exact (jand_r _ _).1 | exact (jand_r _ _).2) only [x209_59, x209_61, x209_151, x209_152, kb_some, kb_none, clr_vi, clr_ref, clr_null, clr_none, va_rf_some, va_rf_none, ↓bi_ite_t, ↓bi_ite_f, ↓jc_lt_t, ↓jc_lt_f, ↓jc_gt_t, ↓jc_gt_f, ↓jc_le_t, ↓jc_le_f, ↓jc_ge_t, ↓jc_ge_f, ↓jc_eq_t, ↓jc_eq_f, ↓if_pos, ↓if_neg]
      rw [h5]; rfl
theorem m_endsBehind (hR : wfR R) {n : Nat} (hn : J 76 18 = n) (h60 : n ≤ 60) (hpr : ∀ j : Nat, j < n → -1 ≤ J 89 j ∧ J 89 j ≤ 100) {r k b a : Nat} (hr : r < 60) (h : AFp (J 89) n r b a k) (hb : b ≤ 10) (hk : k < n) (hty : 0 ≤ J 86 k ∧ J 86 k ≤ 255) (hwo : -2147483648 ≤ J 87 k ∧ J 87 k ≤ 2147483647) :
    EE d 209 0 [some (.ref 76), some (vi k), some (vi r), none, none, none, none, none, none] [] (SH L) J K R = ok (some (vi (if J 86 k = 103 then (if J 87 k = 0 then 1 + (a : Int) else 0) else a))) (SH L) J K R := by
  have s76 : (SH L)[76]? = some (11, 58) := rfl; have r76_0 : R 76 0 = some 77 := rr_lk hR rfl; have r76_3 : R 76 3 = some 78 := rr_lk hR rfl; have r76_4 : R 76 4 = some 79 := rr_lk hR rfl; have r76_6 : R 76 6 = some 80 := rr_lk hR rfl; have r76_7 : R 76 7 = some 81 := rr_lk hR rfl; have r76_9 : R 76 9 = some 82 := rr_lk hR rfl; have r76_10 : R 76 10 = some 83 := rr_lk hR rfl; have r76_12 : R 76 12 = some 84 := rr_lk hR rfl; have r76_13 : R 76 13 = some 85 := rr_lk hR rfl; have r76_19 : R 76 19 = some 86 := rr_lk hR rfl; have r76_20 : R 76 20 = some 87 := rr_lk hR rfl; have r76_21 : R 76 21 = some 88 := rr_lk hR rfl; have r76_22 : R 76 22 = some 89 := rr_lk hR rfl; have r76_24 : R 76 24 = some 90 := rr_lk hR rfl; have r76_25 : R 76 25 = some 91 := rr_lk hR rfl; have r76_26 : R 76 26 = some 92 := rr_lk hR rfl; have r76_28 : R 76 28 = some 93 := rr_lk hR rfl; have r76_29 : R 76 29 = some 94 := rr_lk hR rfl; have r76_30 : R 76 30 = some 95 := rr_lk hR rfl; have r76_31 : R 76 31 = some 96 := rr_lk hR rfl; have r76_32 : R 76 32 = some 97 := rr_lk hR rfl; have r76_36 : R 76 36 = some 98 := rr_lk hR rfl; have r76_38 : R 76 38 = some 99 := rr_lk hR rfl; have r76_39 : R 76 39 = some 100 := rr_lk hR rfl; have r76_40 : R 76 40 = some 101 := rr_lk hR rfl; have r76_41 : R 76 41 = some 102 := rr_lk hR rfl; have r76_42 : R 76 42 = some 103 := rr_lk hR rfl; have r76_47 : R 76 47 = some 104 := rr_lk hR rfl; have r76_53 : R 76 53 = some 105 := rr_lk hR rfl; have r76_54 : R 76 54 = some 106 := rr_lk hR rfl; have r76_55 : R 76 55 = some 107 := rr_lk hR rfl; have r76_56 : R 76 56 = some 108 := rr_lk hR rfl; have r76_57 : R 76 57 = some 109 := rr_lk hR rfl; have s86 : (SH L)[86]? = some (20, 60) := rfl; have s87 : (SH L)[87]? = some (20, 60) := rfl; have s89 : (SH L)[89]? = some (20, 60) := rfl
  by_cases c : J 86 k = 103
  · rw [if_pos c]
    by_cases c2 : J 87 k = 0
    · rw [if_pos c2]
      have hl := l_after (L := L) (d := d) (K := K) hR hn h60 hpr hr (t := k) b a k 1 none none none h (by omega) (by omega)
      simp (disch := first | assumption | omega | exact bi_lo | exact bi_hi | exact bi_01 | exact jcmp_lo | exact jcmp_hi | exact (jor_r _ _).1 | exact (jor_r _ _).2 | exact (jand_r _ _).1 | exact (jand_r _ _).2) only [x209_0, x209_1, x209_2, x209_3, x209_5, x209_6, x209_9, x209_11, x209_12, x209_14, x209_17, x209_18, x209_21, x209_23, x209_24, x209_27, x209_30, x209_31, x209_34, x209_36, x209_37, x209_39, x209_42, x209_43, x209_46, x209_48, x209_49, x209_52, x209_53, x209_56, x209_57, kb_some, kb_none, clr_vi, clr_ref, clr_null, clr_none, va_rf_some, va_rf_none, ↓bi_ite_t, ↓bi_ite_f, ↓jc_lt_t, ↓jc_lt_f, ↓jc_gt_t, ↓jc_gt_f, ↓jc_le_t, ↓jc_le_f, ↓jc_ge_t, ↓jc_ge_f, ↓jc_eq_t, ↓jc_eq_f, ↓if_pos, ↓if_neg, Int.toNat_natCast, c, c2, Int.zero_add]
      exact hl
    · rw [if_neg c2]
      simp (disch := first | assumption | omega | exact bi_lo | exact bi_hi | exact bi_01 | exact jcmp_lo | exact jcmp_hi | exact (jor_r _ _).1 | exact (jor_r _ _).2 | exact (jand_r _ _).1 | exact (jand_r _ _).2) only [x209_0, x209_1, x209_2, x209_3, x209_5, x209_6, x209_9, x209_11, x209_12, x209_14, x209_17, x209_18, x209_21, x209_23, x209_24, x209_27, x209_30, x209_31, x209_34, x209_36, x209_37, x209_39, x209_42, x209_43, x209_46, x209_48, x209_49, x209_52, x209_53, x209_56, x209_57, x209_59, x209_61, x209_151, x209_152, kb_some, kb_none, clr_vi, clr_ref, clr_null, clr_none, va_rf_some, va_rf_none, ↓bi_ite_t, ↓bi_ite_f, ↓jc_lt_t, ↓jc_lt_f, ↓jc_gt_t, ↓jc_gt_f, ↓jc_le_t, ↓jc_le_f, ↓jc_ge_t, ↓jc_ge_f, ↓jc_eq_t, ↓jc_eq_f, ↓if_pos, ↓if_neg, Int.toNat_natCast, c]
  · rw [if_neg c]
    have hl := l_after (L := L) (d := d) (K := K) hR hn h60 hpr hr (t := k) b a k 0 none none none h (by omega) (by omega)
    rw [Int.zero_add] at hl
    simp (disch := first | assumption | omega | exact bi_lo | exact bi_hi | exact bi_01 | exact jcmp_lo | exact jcmp_hi | exact (jor_r _ _).1 | exact (jor_r _ _).2 | exact (jand_r _ _).1 | exact (jand_r _ _).2) only [x209_0, x209_1, x209_2, x209_3, x209_5, x209_6, x209_9, x209_11, x209_12, x209_14, x209_17, x209_18, x209_21, x209_23, x209_24, x209_27, x209_30, x209_31, x209_34, x209_36, x209_37, x209_39, x209_42, x209_43, x209_46, x209_48, x209_49, x209_52, x209_53, x209_56, x209_57, kb_some, kb_none, clr_vi, clr_ref, clr_null, clr_none, va_rf_some, va_rf_none, ↓bi_ite_t, ↓bi_ite_f, ↓jc_lt_t, ↓jc_lt_f, ↓jc_gt_t, ↓jc_gt_f, ↓jc_le_t, ↓jc_le_f, ↓jc_ge_t, ↓jc_ge_f, ↓jc_eq_t, ↓jc_eq_f, ↓if_pos, ↓if_neg, Int.toNat_natCast]
    exact hl
theorem m_isFirst (hR : wfR R) {k : Nat} (hk : k < 60) (hp : -1 ≤ J 89 k ∧ J 89 k ≤ 100) : EE d 208 0 [some (.ref 76), some (vi k)] [] (SH L) J K R = ok (some (vi (bi (J 89 k = (k : Int) - 1)))) (SH L) J K R := by
  have s76 : (SH L)[76]? = some (11, 58) := rfl; have r76_0 : R 76 0 = some 77 := rr_lk hR rfl; have r76_3 : R 76 3 = some 78 := rr_lk hR rfl; have r76_4 : R 76 4 = some 79 := rr_lk hR rfl; have r76_6 : R 76 6 = some 80 := rr_lk hR rfl; have r76_7 : R 76 7 = some 81 := rr_lk hR rfl; have r76_9 : R 76 9 = some 82 := rr_lk hR rfl; have r76_10 : R 76 10 = some 83 := rr_lk hR rfl; have r76_12 : R 76 12 = some 84 := rr_lk hR rfl; have r76_13 : R 76 13 = some 85 := rr_lk hR rfl; have r76_19 : R 76 19 = some 86 := rr_lk hR rfl; have r76_20 : R 76 20 = some 87 := rr_lk hR rfl; have r76_21 : R 76 21 = some 88 := rr_lk hR rfl; have r76_22 : R 76 22 = some 89 := rr_lk hR rfl; have r76_24 : R 76 24 = some 90 := rr_lk hR rfl; have r76_25 : R 76 25 = some 91 := rr_lk hR rfl; have r76_26 : R 76 26 = some 92 := rr_lk hR rfl; have r76_28 : R 76 28 = some 93 := rr_lk hR rfl; have r76_29 : R 76 29 = some 94 := rr_lk hR rfl; have r76_30 : R 76 30 = some 95 := rr_lk hR rfl; have r76_31 : R 76 31 = some 96 := rr_lk hR rfl; have r76_32 : R 76 32 = some 97 := rr_lk hR rfl; have r76_36 : R 76 36 = some 98 := rr_lk hR rfl; have r76_38 : R 76 38 = some 99 := rr_lk hR rfl; have r76_39 : R 76 39 = some 100 := rr_lk hR rfl; have r76_40 : R 76 40 = some 101 := rr_lk hR rfl; have r76_41 : R 76 41 = some 102 := rr_lk hR rfl; have r76_42 : R 76 42 = some 103 := rr_lk hR rfl; have r76_47 : R 76 47 = some 104 := rr_lk hR rfl; have r76_53 : R 76 53 = some 105 := rr_lk hR rfl; have r76_54 : R 76 54 = some 106 := rr_lk hR rfl; have r76_55 : R 76 55 = some 107 := rr_lk hR rfl; have r76_56 : R 76 56 = some 108 := rr_lk hR rfl; have r76_57 : R 76 57 = some 109 := rr_lk hR rfl; have s89 : (SH L)[89]? = some (20, 60) := rfl
  by_cases c : J 89 k = (k : Int) - 1
  · rw [bi_t c]
    simp (disch := first | assumption | omega | exact bi_lo | exact bi_hi | exact bi_01 | exact jcmp_lo | exact jcmp_hi | exact (jor_r _ _).1 | exact (jor_r _ _).2 | exact (jand_r _ _).1 | exact (jand_r _ _).2) only [x208_0, x208_1, x208_4, x208_5, x208_6, x208_7, x208_8, x208_9, x208_12, x208_13, x208_16, x208_17, kb_some, kb_none, clr_vi, clr_ref, clr_null, clr_none, va_rf_some, va_rf_none, ↓bi_ite_t, ↓bi_ite_f, ↓jc_lt_t, ↓jc_lt_f, ↓jc_gt_t, ↓jc_gt_f, ↓jc_le_t, ↓jc_le_f, ↓jc_ge_t, ↓jc_ge_f, ↓jc_eq_t, ↓jc_eq_f, ↓if_pos, ↓if_neg, Int.toNat_natCast]
  · rw [bi_f c]
    simp (disch := first | assumption | omega | exact bi_lo | exact bi_hi | exact bi_01 | exact jcmp_lo | exact jcmp_hi | exact (jor_r _ _).1 | exact (jor_r _ _).2 | exact (jand_r _ _).1 | exact (jand_r _ _).2) only [x208_0, x208_1, x208_4, x208_5, x208_6, x208_7, x208_8, x208_9, x208_12, x208_13, x208_16, x208_17, kb_some, kb_none, clr_vi, clr_ref, clr_null, clr_none, va_rf_some, va_rf_none, ↓bi_ite_t, ↓bi_ite_f, ↓jc_lt_t, ↓jc_lt_f, ↓jc_gt_t, ↓jc_gt_f, ↓jc_le_t, ↓jc_le_f, ↓jc_ge_t, ↓jc_ge_f, ↓jc_eq_t, ↓jc_eq_f, ↓if_pos, ↓if_neg, Int.toNat_natCast]
end
