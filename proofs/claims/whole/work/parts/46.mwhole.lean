/-! the reference reads a file whole -/
def pb (e : Int) : Int := 2 ^ e.toNat - 1
theorem pb_next {e : Int} (h : 0 ≤ e ∧ e ≤ 5) : jor (pb e) (jshl 1 e) = pb (e + 1) := by
  have key : ∀ q : Fin 6, jor (pb (q.val : Int)) (jshl 1 (q.val : Int)) = pb ((q.val : Int) + 1) := by decide +kernel
  have := key ⟨e.toNat, by omega⟩
  simp only [Int.toNat_of_nonneg h.1] at this
  exact this
theorem counts_pb {e o : Int} (h : 0 ≤ e ∧ e ≤ 6) (ho : 0 ≤ o ∧ o < e) : counts (pb e) o = true := by
  have key : ∀ q r : Fin 7, r.val < q.val → counts (pb (q.val : Int)) (r.val : Int) = true := by decide +kernel
  have := key ⟨e.toNat, by omega⟩ ⟨o.toNat, by omega⟩ (by simp only; omega)
  simp only [Int.toNat_of_nonneg h.1, Int.toNat_of_nonneg ho.1] at this
  exact this
theorem allB_congr {f : Int → Int} {m m' x : Int} : ∀ (i : Nat) (o : Int), (∀ q, o ≤ q → q < o + i → counts m q = counts m' q) → allB f m x i o = allB f m' x i o := by
  intro i
  induction i with
  | zero => intro o h; rfl
  | succ i ih =>
    intro o h
    unfold allB
    rw [h o (by omega) (by omega), ih (o + 1) (fun q q1 q2 => h q (by omega) (by omega))]
theorem sound_pb {f : Int → Int} {n E e : Int} (h : 0 ≤ e ∧ e ≤ 6) : sound f n E (pb e) e = sound f n E (-1) e := by
  unfold sound
  rw [allB_congr (m' := -1) e.toNat 0 (fun q q1 q2 => by rw [counts_pb h (by omega), counts_all (by omega)])]
theorem up_up {α : Type} {f : Nat → Nat → α} {a j : Nat} {v w : α} : mm_up (mm_up f a j v) a j w = mm_up f a j w := by
  funext b i
  unfold mm_up
  split <;> rfl
def faL (J : mJ) : Fl → mJ
  | [] => J
  | q :: r => faL (fa J q.1 q.2.1 q.2.2) r
theorem faL_app {q r : Fl} : ∀ {J : mJ}, faL J (q ++ r) = faL (faL J q) r := by
  induction q with
  | nil => intro J; rfl
  | cons a q ih => intro J; exact ih
theorem fa_frm {J : mJ} {w l p : Int} : frm AR J (fa J w l p) := frm_up (frm_up (frm_up (frm_up frm_refl (by unfold AR; omega)) (by unfold AR; omega)) (by unfold AR; omega)) (by unfold AR; omega)
theorem fa_23 {J : mJ} {w l p : Int} : fa J w l p 76 23 = J 76 23 + 1 := up_s
theorem fa_o {J : mJ} {w l p : Int} {j : Nat} (h : j ≠ 23) : fa J w l p 76 j = J 76 j := by simp [fa, mm_up, h]
theorem fa_a {J : mJ} {w l p : Int} {a j : Nat} (h : a ≠ 76 ∧ a ≠ 90 ∧ a ≠ 91 ∧ a ≠ 92) : fa J w l p a j = J a j := by simp [fa, mm_up, h]
theorem faL_frm {q : Fl} : ∀ {J : mJ}, frm AR J (faL J q) := by
  induction q with
  | nil => intro J; exact frm_refl
  | cons a q ih => intro J; exact frm_trans fa_frm ih
theorem faL_23 {q : Fl} : ∀ {J : mJ}, faL J q 76 23 = J 76 23 + q.length := by
  induction q with
  | nil => intro J; simp [faL]
  | cons a q ih => intro J; show faL (fa J a.1 a.2.1 a.2.2) q 76 23 = _; rw [ih, fa_23, List.length_cons]; omega
theorem faL_o {q : Fl} {j : Nat} (h : j ≠ 23) : ∀ {J : mJ}, faL J q 76 j = J 76 j := by
  induction q with
  | nil => intro J; rfl
  | cons a q ih => intro J; show faL (fa J a.1 a.2.1 a.2.2) q 76 j = _; rw [ih, fa_o h]
theorem faL_a {q : Fl} {a j : Nat} (h : a ≠ 76 ∧ a ≠ 90 ∧ a ≠ 91 ∧ a ≠ 92) : ∀ {J : mJ}, faL J q a j = J a j := by
  induction q with
  | nil => intro J; rfl
  | cons b q ih => intro J; show faL (fa J b.1 b.2.1 b.2.2) q a j = _; rw [ih, fa_a h]
theorem faL_lo {q : Fl} : ∀ {J : mJ}, 0 ≤ J 76 23 → ∀ j : Nat, (j : Int) < J 76 23 → faL J q 90 j = J 90 j ∧ faL J q 91 j = J 91 j ∧ faL J q 92 j = J 92 j := by
  induction q with
  | nil => intro J h j hj; exact ⟨rfl, rfl, rfl⟩
  | cons b q ih =>
    intro J h j hj
    obtain ⟨h1, h2, h3⟩ := ih (J := fa J b.1 b.2.1 b.2.2) (by rw [fa_23]; omega) j (by rw [fa_23]; omega)
    have hj' : j ≠ (J 76 23).toNat := by omega
    refine ⟨?_, ?_, ?_⟩
    · show faL (fa J b.1 b.2.1 b.2.2) q 90 j = _; rw [h1]; simp [fa, mm_up, hj']
    · show faL (fa J b.1 b.2.1 b.2.2) q 91 j = _; rw [h2]; simp [fa, mm_up, hj']
    · show faL (fa J b.1 b.2.1 b.2.2) q 92 j = _; rw [h3]; simp [fa, mm_up, hj']
theorem faL_hF {q : Fl} : ∀ {J : mJ}, 0 ≤ J 76 23 → hF (faL J q 90) (faL J q 91) (faL J q 92) (J 76 23).toNat q := by
  induction q with
  | nil => intro J h; trivial
  | cons b q ih =>
    intro J h
    have ih' := ih (J := fa J b.1 b.2.1 b.2.2) (by rw [fa_23]; omega)
    obtain ⟨h1, h2, h3⟩ := faL_lo (q := q) (J := fa J b.1 b.2.1 b.2.2) (by rw [fa_23]; omega) (J 76 23).toNat (by rw [fa_23]; omega)
    rw [fa_23, show (J 76 23 + 1).toNat = (J 76 23).toNat + 1 by omega] at ih'
    refine ⟨⟨?_, ?_, ?_⟩, ih'⟩
    · show faL (fa J b.1 b.2.1 b.2.2) q 90 _ = _; rw [h1]; simp [fa, mm_up]
    · show faL (fa J b.1 b.2.1 b.2.2) q 91 _ = _; rw [h2]; simp [fa, mm_up]
    · show faL (fa J b.1 b.2.1 b.2.2) q 92 _ = _; rw [h3]; simp [fa, mm_up]
def fwL (o : Nat → Int) : Nat → Int → Fl
  | 0, _ => []
  | i + 1, s => (9, 2 + s, o s.toNat) :: fwL o i (s + 1)
theorem fwL_app {o : Nat → Int} : ∀ (i : Nat) (s : Int), fwL o (i + 1) s = fwL o i s ++ [(9, 2 + (s + i), o (s + i).toNat)] := by
  intro i
  induction i with
  | zero => intro s; simp [fwL]
  | succ i ih =>
    intro s
    have := ih (s + 1)
    rw [show fwL o (i + 1 + 1) s = (9, 2 + s, o s.toNat) :: fwL o (i + 1) (s + 1) from rfl, this]
    rw [show s + 1 + (i : Int) = s + ((i + 1 : Nat) : Int) by omega]
    rfl
theorem WL_rev {o : Nat → Int} : ∀ (ws : Fl) (m : Int), WL o m ws → ws.reverse = fwL o ws.length (m + 1 - ws.length) := by
  intro ws
  induction ws with
  | nil => intro m h; rfl
  | cons q r ih =>
    intro m h
    obtain ⟨h1, h2⟩ := h
    have := ih (m - 1) h2
    rw [List.reverse_cons, this, List.length_cons, fwL_app, h1]
    rw [show m + 1 - ((r.length + 1 : Nat) : Int) = m - 1 + 1 - (r.length : Int) by omega, show m - 1 + 1 - (r.length : Int) + (r.length : Int) = m by omega]
/-- a fault as the reference keeps it: that of LAYER 0 first -/
def FMo (J : mJ) (e : Fl) : Prop := J 76 23 = (e.length : Nat) ∧ hF (J 90) (J 91) (J 92) 0 e.reverse
theorem FMo_of {J : mJ} {e : Fl} (h : J 76 23 = 0) : FMo (faL J e.reverse) e := by
  have := faL_hF (q := e.reverse) (J := J) (by omega)
  rw [h] at this
  exact ⟨by rw [faL_23, h, List.length_reverse]; omega, this⟩
def MF (J : mJ) (F : Fo 4) : Prop := mF (J 86) (J 87) (J 88) (J 89) 4 (-1) F 0 ∧ J 76 18 = (fsz 4 F : Nat)
section
variable {L d : Nat} {f : Int → Int} {K : mJ} {R : mm_R} {x : Int} {J : mJ}
theorem l_mtab : ∀ (i : Nat) (x : Int) (J : mJ), MR f J R → 3 < J 76 1 → f 3 ≤ 6 → 3 + 3 * f 3 < J 76 1 → J 76 23 = 0 → J 76 35 = pb x → (f 3 - x).toNat = i → 0 ≤ x → x ≤ f 3 →
    match tabE f (J 76 1) (f 3) i x with
    | none => ∃ c, EE (d + 3) 161 7 [some (.ref 76), some (vi x)] [] (SH L) J K R = ok (some (vi 0)) (SH L) (mm_up J 76 35 c) K R
    | some y => ∃ c, EE (d + 3) 161 7 [some (.ref 76), some (vi x)] [] (SH L) J K R = ok (some (vi 1)) (SH L) (fa (fa (mm_up J 76 35 c) 9 0 0) 5 1 (4 + 3 * y + 1)) K R := by
  intro i
  induction i with
  | zero =>
    intro x J h h3 h6 hn h23 h35 hi h0 h1
    have hR := h.1
    have hn1 := h.2.1
    have s76 : (SH L)[76]? = some (11, 58) := rfl; have r76_0 : R 76 0 = some 77 := rr_lk hR rfl; have r76_3 : R 76 3 = some 78 := rr_lk hR rfl; have r76_4 : R 76 4 = some 79 := rr_lk hR rfl; have r76_6 : R 76 6 = some 80 := rr_lk hR rfl; have r76_7 : R 76 7 = some 81 := rr_lk hR rfl; have r76_9 : R 76 9 = some 82 := rr_lk hR rfl; have r76_10 : R 76 10 = some 83 := rr_lk hR rfl; have r76_12 : R 76 12 = some 84 := rr_lk hR rfl; have r76_13 : R 76 13 = some 85 := rr_lk hR rfl; have r76_19 : R 76 19 = some 86 := rr_lk hR rfl; have r76_20 : R 76 20 = some 87 := rr_lk hR rfl; have r76_21 : R 76 21 = some 88 := rr_lk hR rfl; have r76_22 : R 76 22 = some 89 := rr_lk hR rfl; have r76_24 : R 76 24 = some 90 := rr_lk hR rfl; have r76_25 : R 76 25 = some 91 := rr_lk hR rfl; have r76_26 : R 76 26 = some 92 := rr_lk hR rfl; have r76_28 : R 76 28 = some 93 := rr_lk hR rfl; have r76_29 : R 76 29 = some 94 := rr_lk hR rfl; have r76_30 : R 76 30 = some 95 := rr_lk hR rfl; have r76_31 : R 76 31 = some 96 := rr_lk hR rfl; have r76_32 : R 76 32 = some 97 := rr_lk hR rfl; have r76_36 : R 76 36 = some 98 := rr_lk hR rfl; have r76_38 : R 76 38 = some 99 := rr_lk hR rfl; have r76_39 : R 76 39 = some 100 := rr_lk hR rfl; have r76_40 : R 76 40 = some 101 := rr_lk hR rfl; have r76_41 : R 76 41 = some 102 := rr_lk hR rfl; have r76_42 : R 76 42 = some 103 := rr_lk hR rfl; have r76_47 : R 76 47 = some 104 := rr_lk hR rfl; have r76_53 : R 76 53 = some 105 := rr_lk hR rfl; have r76_54 : R 76 54 = some 106 := rr_lk hR rfl; have r76_55 : R 76 55 = some 107 := rr_lk hR rfl; have r76_56 : R 76 56 = some 108 := rr_lk hR rfl; have r76_57 : R 76 57 = some 109 := rr_lk hR rfl; have s77 : (SH L)[77]? = some (20, 120) := rfl
    have z3 : J 77 3 = f 3 := (MR_at h (p := 3) (by omega) (by omega)).1
    unfold tabE
    refine ⟨J 76 35, ?_⟩
    have e : mm_up J 76 35 (J 76 35) = J := by funext a j; unfold mm_up; split; (rename_i q; rw [q.1, q.2]); rfl
    rw [e]
    simp (disch := first | assumption | omega | exact bi_lo | exact bi_hi | exact bi_01 | exact jcmp_lo | exact jcmp_hi | exact (jor_r _ _).1 | exact (jor_r _ _).2 | exact (jand_r _ _).1 | exact (jand_r _ _).2) only [x161_7, x161_8, x161_9, x161_12, x161_13, x161_14, x161_69, x161_70, kb_some, kb_none, clr_vi, clr_ref, clr_null, clr_none, va_rf_some, va_rf_none, ↓bi_ite_t, ↓bi_ite_f, ↓jc_lt_t, ↓jc_lt_f, ↓jc_gt_t, ↓jc_gt_f, ↓jc_le_t, ↓jc_le_f, ↓jc_ge_t, ↓jc_ge_f, ↓jc_eq_t, ↓jc_eq_f, ↓if_pos, ↓if_neg, z3, Int.reduceToNat]
  | succ i ih =>
    intro x J h h3 h6 hn h23 h35 hi h0 h1
    have hR := h.1
    have hn1 := h.2.1
    have s76 : (SH L)[76]? = some (11, 58) := rfl; have r76_0 : R 76 0 = some 77 := rr_lk hR rfl; have r76_3 : R 76 3 = some 78 := rr_lk hR rfl; have r76_4 : R 76 4 = some 79 := rr_lk hR rfl; have r76_6 : R 76 6 = some 80 := rr_lk hR rfl; have r76_7 : R 76 7 = some 81 := rr_lk hR rfl; have r76_9 : R 76 9 = some 82 := rr_lk hR rfl; have r76_10 : R 76 10 = some 83 := rr_lk hR rfl; have r76_12 : R 76 12 = some 84 := rr_lk hR rfl; have r76_13 : R 76 13 = some 85 := rr_lk hR rfl; have r76_19 : R 76 19 = some 86 := rr_lk hR rfl; have r76_20 : R 76 20 = some 87 := rr_lk hR rfl; have r76_21 : R 76 21 = some 88 := rr_lk hR rfl; have r76_22 : R 76 22 = some 89 := rr_lk hR rfl; have r76_24 : R 76 24 = some 90 := rr_lk hR rfl; have r76_25 : R 76 25 = some 91 := rr_lk hR rfl; have r76_26 : R 76 26 = some 92 := rr_lk hR rfl; have r76_28 : R 76 28 = some 93 := rr_lk hR rfl; have r76_29 : R 76 29 = some 94 := rr_lk hR rfl; have r76_30 : R 76 30 = some 95 := rr_lk hR rfl; have r76_31 : R 76 31 = some 96 := rr_lk hR rfl; have r76_32 : R 76 32 = some 97 := rr_lk hR rfl; have r76_36 : R 76 36 = some 98 := rr_lk hR rfl; have r76_38 : R 76 38 = some 99 := rr_lk hR rfl; have r76_39 : R 76 39 = some 100 := rr_lk hR rfl; have r76_40 : R 76 40 = some 101 := rr_lk hR rfl; have r76_41 : R 76 41 = some 102 := rr_lk hR rfl; have r76_42 : R 76 42 = some 103 := rr_lk hR rfl; have r76_47 : R 76 47 = some 104 := rr_lk hR rfl; have r76_53 : R 76 53 = some 105 := rr_lk hR rfl; have r76_54 : R 76 54 = some 106 := rr_lk hR rfl; have r76_55 : R 76 55 = some 107 := rr_lk hR rfl; have r76_56 : R 76 56 = some 108 := rr_lk hR rfl; have r76_57 : R 76 57 = some 109 := rr_lk hR rfl; have s77 : (SH L)[77]? = some (20, 120) := rfl
    obtain ⟨z3', y3⟩ := MR_at h (p := 3) (by omega) (by omega)
    have z3 : J 77 3 = f 3 := z3'
    have hpl := m_isPlaced (L := L) (d := d) (K := K) h (m := pb x) h3 (x := x) (by omega)
    rw [sound_pb (by omega)] at hpl
    unfold tabE
    by_cases c1 : sound f (J 76 1) (f 3) (-1) x = true
    · rw [if_pos c1]
      rw [bi_t c1] at hpl
      have hb := pb_next (e := x) (by omega)
      have go : ∀ X, EE (d + 3) 161 7 [some (.ref 76), some (vi (x + 1))] [] (SH L) (mm_up J 76 35 (pb (x + 1))) K R = X → EE (d + 3) 161 7 [some (.ref 76), some (vi x)] [] (SH L) J K R = X := by
        intro X hX
        simp (disch := first | assumption | omega | exact bi_lo | exact bi_hi | exact bi_01 | exact jcmp_lo | exact jcmp_hi | exact (jor_r _ _).1 | exact (jor_r _ _).2 | exact (jand_r _ _).1 | exact (jand_r _ _).2) only [x161_7, x161_8, x161_9, x161_12, x161_13, x161_14, kb_some, kb_none, clr_vi, clr_ref, clr_null, clr_none, va_rf_some, va_rf_none, ↓bi_ite_t, ↓bi_ite_f, ↓jc_lt_t, ↓jc_lt_f, ↓jc_gt_t, ↓jc_gt_f, ↓jc_le_t, ↓jc_le_f, ↓jc_ge_t, ↓jc_ge_f, ↓jc_eq_t, ↓jc_eq_f, ↓if_pos, ↓if_neg, z3, Int.reduceToNat]
        simp (disch := first | assumption | omega | exact bi_lo | exact bi_hi | exact bi_01 | exact jcmp_lo | exact jcmp_hi | exact (jor_r _ _).1 | exact (jor_r _ _).2 | exact (jand_r _ _).1 | exact (jand_r _ _).2) only [x161_17, x161_18, x161_19, x161_20, x161_23, x161_26, x161_51, x161_52, x161_53, x161_56, x161_57, x161_58, x161_59, x161_60, x161_63, x161_66, kb_some, kb_none, clr_vi, clr_ref, clr_null, clr_none, va_rf_some, va_rf_none, ↓bi_ite_t, ↓bi_ite_f, ↓jc_lt_t, ↓jc_lt_f, ↓jc_gt_t, ↓jc_gt_f, ↓jc_le_t, ↓jc_le_f, ↓jc_ge_t, ↓jc_ge_f, ↓jc_eq_t, ↓jc_eq_f, ↓if_pos, ↓if_neg, h35, hpl, hb]
        exact hX
      have ih' := ih (x + 1) (mm_up J 76 35 (pb (x + 1))) (MR_frm h (frm_up frm_refl (by unfold AR; omega))) (by simp [mm_up]; omega) h6 (by simp [mm_up]; omega) (by simp [mm_up]; omega) up_s (by omega) (by omega) (by omega)
      have e1 : mm_up J 76 35 (pb (x + 1)) 76 1 = J 76 1 := by simp [mm_up]
      rw [e1] at ih'
      simp only [up_up] at ih'
      rw [go _ rfl]
      exact ih'
    · rw [if_neg c1]
      rw [bi_f c1] at hpl
      refine ⟨J 76 35, ?_⟩
      have e : mm_up J 76 35 (J 76 35) = J := by funext a j; unfold mm_up; split; (rename_i q; rw [q.1, q.2]); rfl
      rw [e]
      have hf1 := m_faults (L := L) (d := d + 2) (J := J) (K := K) (R := R) (w := 9) (l := 0) (p := 0) hR (by omega)
      have hf2 := m_faults (L := L) (d := d + 2) (J := fa J 9 0 0) (K := K) (R := R) (w := 5) (l := 1) (p := 4 + 3 * x + 1) hR (by rw [fa_23]; omega)
      have he := fun J => m_entryAt (S := SH L) (d := d + 2) (J := J) (K := K) (R := R) (x := x)
      simp (disch := first | assumption | omega | exact bi_lo | exact bi_hi | exact bi_01 | exact jcmp_lo | exact jcmp_hi | exact (jor_r _ _).1 | exact (jor_r _ _).2 | exact (jand_r _ _).1 | exact (jand_r _ _).2) only [x161_7, x161_8, x161_9, x161_12, x161_13, x161_14, kb_some, kb_none, clr_vi, clr_ref, clr_null, clr_none, va_rf_some, va_rf_none, ↓bi_ite_t, ↓bi_ite_f, ↓jc_lt_t, ↓jc_lt_f, ↓jc_gt_t, ↓jc_gt_f, ↓jc_le_t, ↓jc_le_f, ↓jc_ge_t, ↓jc_ge_f, ↓jc_eq_t, ↓jc_eq_f, ↓if_pos, ↓if_neg, z3, Int.reduceToNat]
      simp (disch := first | assumption | omega | exact bi_lo | exact bi_hi | exact bi_01 | exact jcmp_lo | exact jcmp_hi | exact (jor_r _ _).1 | exact (jor_r _ _).2 | exact (jand_r _ _).1 | exact (jand_r _ _).2) only [x161_17, x161_18, x161_19, x161_20, x161_23, x161_26, x161_29, x161_30, x161_32, x161_33, x161_34, x161_37, x161_38, x161_39, x161_40, x161_41, x161_44, x161_45, x161_46, x161_49, x161_50, kb_some, kb_none, clr_vi, clr_ref, clr_null, clr_none, va_rf_some, va_rf_none, ↓bi_ite_t, ↓bi_ite_f, ↓jc_lt_t, ↓jc_lt_f, ↓jc_gt_t, ↓jc_gt_f, ↓jc_le_t, ↓jc_le_f, ↓jc_ge_t, ↓jc_ge_f, ↓jc_eq_t, ↓jc_eq_f, ↓if_pos, ↓if_neg, h35, hpl, hf1, hf2, he]
theorem m_table (h : MR f J R) (h3 : 3 < J 76 1) (h6 : f 3 ≤ 6) (hn : 3 + 3 * f 3 < J 76 1) (h23 : J 76 23 = 0) :
    match tabE f (J 76 1) (f 3) (f 3).toNat 0 with
    | none => ∃ c, EE (d + 3) 161 0 [some (.ref 76), none] [] (SH L) J K R = ok (some (vi 0)) (SH L) (mm_up J 76 35 c) K R
    | some y => ∃ c, EE (d + 3) 161 0 [some (.ref 76), none] [] (SH L) J K R = ok (some (vi 1)) (SH L) (fa (fa (mm_up J 76 35 c) 9 0 0) 5 1 (4 + 3 * y + 1)) K R := by
  have s76 : (SH L)[76]? = some (11, 58) := rfl
  obtain ⟨z3', y3⟩ := MR_at h (p := 3) (by omega) (by omega)
  have hl := l_mtab (L := L) (d := d) (K := K) (f := f) (R := R) (f 3).toNat 0 (mm_up J 76 35 0) (MR_frm h (frm_up frm_refl (by unfold AR; omega))) (by simp [mm_up]; omega) h6 (by simp [mm_up]; omega) (by simp [mm_up]; omega) up_s (by omega) (by omega) (by omega)
  have e1 : mm_up J 76 35 0 76 1 = J 76 1 := by simp [mm_up]
  rw [e1] at hl
  simp only [up_up] at hl
  have go : EE (d + 3) 161 0 [some (.ref 76), none] [] (SH L) J K R = EE (d + 3) 161 7 [some (.ref 76), some (vi 0)] [] (SH L) (mm_up J 76 35 0) K R := by
    simp (disch := first | assumption | omega | exact bi_lo | exact bi_hi | exact bi_01 | exact jcmp_lo | exact jcmp_hi | exact (jor_r _ _).1 | exact (jor_r _ _).2 | exact (jand_r _ _).1 | exact (jand_r _ _).2) only [x161_0, x161_1, x161_2, x161_5, x161_6, kb_some, kb_none, clr_vi, clr_ref, clr_null, clr_none, va_rf_some, va_rf_none]
  rw [go]
  exact hl
/-- the groups that are open are told, from the outermost on -/
theorem l_open : ∀ (i : Nat) (q : Int) (J : mJ), wfR R → (J 76 27 - q).toNat = i → 0 ≤ q → q ≤ J 76 27 → J 76 27 ≤ 3 → 0 ≤ J 76 23 → J 76 23 + i ≤ 7 →
    EE (d + 1) 162 67 [some (.ref 76), some (vi x), some (vi q)] [] (SH L) J K R = EE (d + 1) 162 96 [some (.ref 76), some (vi x), some (vi (J 76 27))] [] (SH L) (faL J (fwL (J 94) i q)) K R := by
  intro i
  induction i with
  | zero =>
    intro q J hR hi h0 h1 h3 h4 h5
    have s76 : (SH L)[76]? = some (11, 58) := rfl; have r76_0 : R 76 0 = some 77 := rr_lk hR rfl; have r76_3 : R 76 3 = some 78 := rr_lk hR rfl; have r76_4 : R 76 4 = some 79 := rr_lk hR rfl; have r76_6 : R 76 6 = some 80 := rr_lk hR rfl; have r76_7 : R 76 7 = some 81 := rr_lk hR rfl; have r76_9 : R 76 9 = some 82 := rr_lk hR rfl; have r76_10 : R 76 10 = some 83 := rr_lk hR rfl; have r76_12 : R 76 12 = some 84 := rr_lk hR rfl; have r76_13 : R 76 13 = some 85 := rr_lk hR rfl; have r76_19 : R 76 19 = some 86 := rr_lk hR rfl; have r76_20 : R 76 20 = some 87 := rr_lk hR rfl; have r76_21 : R 76 21 = some 88 := rr_lk hR rfl; have r76_22 : R 76 22 = some 89 := rr_lk hR rfl; have r76_24 : R 76 24 = some 90 := rr_lk hR rfl; have r76_25 : R 76 25 = some 91 := rr_lk hR rfl; have r76_26 : R 76 26 = some 92 := rr_lk hR rfl; have r76_28 : R 76 28 = some 93 := rr_lk hR rfl; have r76_29 : R 76 29 = some 94 := rr_lk hR rfl; have r76_30 : R 76 30 = some 95 := rr_lk hR rfl; have r76_31 : R 76 31 = some 96 := rr_lk hR rfl; have r76_32 : R 76 32 = some 97 := rr_lk hR rfl; have r76_36 : R 76 36 = some 98 := rr_lk hR rfl; have r76_38 : R 76 38 = some 99 := rr_lk hR rfl; have r76_39 : R 76 39 = some 100 := rr_lk hR rfl; have r76_40 : R 76 40 = some 101 := rr_lk hR rfl; have r76_41 : R 76 41 = some 102 := rr_lk hR rfl; have r76_42 : R 76 42 = some 103 := rr_lk hR rfl; have r76_47 : R 76 47 = some 104 := rr_lk hR rfl; have r76_53 : R 76 53 = some 105 := rr_lk hR rfl; have r76_54 : R 76 54 = some 106 := rr_lk hR rfl; have r76_55 : R 76 55 = some 107 := rr_lk hR rfl; have r76_56 : R 76 56 = some 108 := rr_lk hR rfl; have r76_57 : R 76 57 = some 109 := rr_lk hR rfl; have s94 : (SH L)[94]? = some (20, 4) := rfl
    have e : q = J 76 27 := by omega
    simp (disch := first | assumption | omega | exact bi_lo | exact bi_hi | exact bi_01 | exact jcmp_lo | exact jcmp_hi | exact (jor_r _ _).1 | exact (jor_r _ _).2 | exact (jand_r _ _).1 | exact (jand_r _ _).2) only [x162_67, x162_68, x162_69, x162_72, kb_some, kb_none, clr_vi, clr_ref, clr_null, clr_none, va_rf_some, va_rf_none, ↓bi_ite_t, ↓bi_ite_f, ↓jc_lt_t, ↓jc_lt_f, ↓jc_gt_t, ↓jc_gt_f, ↓jc_le_t, ↓jc_le_f, ↓jc_ge_t, ↓jc_ge_f, ↓jc_eq_t, ↓jc_eq_f, ↓if_pos, ↓if_neg]
    rw [e]; rfl
  | succ i ih =>
    intro q J hR hi h0 h1 h3 h4 h5
    have s76 : (SH L)[76]? = some (11, 58) := rfl; have r76_0 : R 76 0 = some 77 := rr_lk hR rfl; have r76_3 : R 76 3 = some 78 := rr_lk hR rfl; have r76_4 : R 76 4 = some 79 := rr_lk hR rfl; have r76_6 : R 76 6 = some 80 := rr_lk hR rfl; have r76_7 : R 76 7 = some 81 := rr_lk hR rfl; have r76_9 : R 76 9 = some 82 := rr_lk hR rfl; have r76_10 : R 76 10 = some 83 := rr_lk hR rfl; have r76_12 : R 76 12 = some 84 := rr_lk hR rfl; have r76_13 : R 76 13 = some 85 := rr_lk hR rfl; have r76_19 : R 76 19 = some 86 := rr_lk hR rfl; have r76_20 : R 76 20 = some 87 := rr_lk hR rfl; have r76_21 : R 76 21 = some 88 := rr_lk hR rfl; have r76_22 : R 76 22 = some 89 := rr_lk hR rfl; have r76_24 : R 76 24 = some 90 := rr_lk hR rfl; have r76_25 : R 76 25 = some 91 := rr_lk hR rfl; have r76_26 : R 76 26 = some 92 := rr_lk hR rfl; have r76_28 : R 76 28 = some 93 := rr_lk hR rfl; have r76_29 : R 76 29 = some 94 := rr_lk hR rfl; have r76_30 : R 76 30 = some 95 := rr_lk hR rfl; have r76_31 : R 76 31 = some 96 := rr_lk hR rfl; have r76_32 : R 76 32 = some 97 := rr_lk hR rfl; have r76_36 : R 76 36 = some 98 := rr_lk hR rfl; have r76_38 : R 76 38 = some 99 := rr_lk hR rfl; have r76_39 : R 76 39 = some 100 := rr_lk hR rfl; have r76_40 : R 76 40 = some 101 := rr_lk hR rfl; have r76_41 : R 76 41 = some 102 := rr_lk hR rfl; have r76_42 : R 76 42 = some 103 := rr_lk hR rfl; have r76_47 : R 76 47 = some 104 := rr_lk hR rfl; have r76_53 : R 76 53 = some 105 := rr_lk hR rfl; have r76_54 : R 76 54 = some 106 := rr_lk hR rfl; have r76_55 : R 76 55 = some 107 := rr_lk hR rfl; have r76_56 : R 76 56 = some 108 := rr_lk hR rfl; have r76_57 : R 76 57 = some 109 := rr_lk hR rfl; have s94 : (SH L)[94]? = some (20, 4) := rfl
    have hf := m_faults (L := L) (d := d) (J := J) (K := K) (R := R) (w := 9) (l := 2 + q) (p := J 94 q.toNat) hR (by omega)
    have o94 : fa J 9 (2 + q) (J 94 q.toNat) 94 = J 94 := by funext j; exact fa_a (by decide)
    have o27 : fa J 9 (2 + q) (J 94 q.toNat) 76 27 = J 76 27 := fa_o (by decide)
    have o23 : fa J 9 (2 + q) (J 94 q.toNat) 76 23 = J 76 23 + 1 := fa_23
    have ih' := ih (q + 1) (fa J 9 (2 + q) (J 94 q.toNat)) hR (by omega) (by omega) (by omega) (by omega) (by omega) (by omega)
    rw [o94, o27] at ih'
    have go : ∀ X, EE (d + 1) 162 67 [some (.ref 76), some (vi x), some (vi (q + 1))] [] (SH L) (fa J 9 (2 + q) (J 94 q.toNat)) K R = X → EE (d + 1) 162 67 [some (.ref 76), some (vi x), some (vi q)] [] (SH L) J K R = X := by
      intro X hX
      simp (disch := first | assumption | omega | exact bi_lo | exact bi_hi | exact bi_01 | exact jcmp_lo | exact jcmp_hi | exact (jor_r _ _).1 | exact (jor_r _ _).2 | exact (jand_r _ _).1 | exact (jand_r _ _).2) only [x162_67, x162_68, x162_69, x162_72, kb_some, kb_none, clr_vi, clr_ref, clr_null, clr_none, va_rf_some, va_rf_none, ↓bi_ite_t, ↓bi_ite_f, ↓jc_lt_t, ↓jc_lt_f, ↓jc_gt_t, ↓jc_gt_f, ↓jc_le_t, ↓jc_le_f, ↓jc_ge_t, ↓jc_ge_f, ↓jc_eq_t, ↓jc_eq_f, ↓if_pos, ↓if_neg]
      simp (disch := first | assumption | omega | exact bi_lo | exact bi_hi | exact bi_01 | exact jcmp_lo | exact jcmp_hi | exact (jor_r _ _).1 | exact (jor_r _ _).2 | exact (jand_r _ _).1 | exact (jand_r _ _).2) only [x162_75, x162_76, x162_78, x162_79, x162_80, x162_81, x162_82, x162_85, x162_86, x162_87, x162_90, x162_93, kb_some, kb_none, clr_vi, clr_ref, clr_null, clr_none, va_rf_some, va_rf_none, ↓bi_ite_t, ↓bi_ite_f, ↓jc_lt_t, ↓jc_lt_f, ↓jc_gt_t, ↓jc_gt_f, ↓jc_le_t, ↓jc_le_f, ↓jc_ge_t, ↓jc_ge_f, ↓jc_eq_t, ↓jc_eq_f, ↓if_pos, ↓if_neg, hf]
      exact hX
    exact go _ ih'
theorem l_ments : ∀ (i : Nat) (x : Int) (J : mJ) (l2 : Option Value), MR f J R → 3 < J 76 1 → f 3 ≤ 6 → 3 + 3 * f 3 < J 76 1 → J 76 23 = 0 → 0 ≤ J 76 18 → 3 * J 76 18 + sumL f i x ≤ 180 → (∀ o, 0 ≤ o → o < f 3 → 4 + 3 * f 3 ≤ f (4 + 3 * o + 1) ∧ f (4 + 3 * o + 1) + f (4 + 3 * o + 2) + 1 ≤ J 76 1) → (f 3 - x).toNat = i → 0 ≤ x → x ≤ f 3 →
    match entsS f (f 2) i x with
    | .error q => ∃ J', EE (d + 5) 162 28 [some (.ref 76), some (vi x), l2] [] (SH L) J K R = ok (some (vi 0)) (SH L) J' K R ∧ frm AR J J' ∧ FMo J' q
    | .ok l => ∃ J', EE (d + 5) 162 28 [some (.ref 76), some (vi x), l2] [] (SH L) J K R = ok (some (vi 1)) (SH L) J' K R ∧ KP 0 (-1) J J' ∧ J' 76 18 = J 76 18 + (fsz 4 l : Nat) ∧ mF (J' 86) (J' 87) (J' 88) (J' 89) 4 (-1) l (J 76 18).toNat := by
  intro i
  induction i with
  | zero =>
    intro x J l2 h h3 h6 hn h23 h18 hs hp hi h0 h1
    have hR := h.1
    have hn1 := h.2.1
    have s76 : (SH L)[76]? = some (11, 58) := rfl; have r76_0 : R 76 0 = some 77 := rr_lk hR rfl; have r76_3 : R 76 3 = some 78 := rr_lk hR rfl; have r76_4 : R 76 4 = some 79 := rr_lk hR rfl; have r76_6 : R 76 6 = some 80 := rr_lk hR rfl; have r76_7 : R 76 7 = some 81 := rr_lk hR rfl; have r76_9 : R 76 9 = some 82 := rr_lk hR rfl; have r76_10 : R 76 10 = some 83 := rr_lk hR rfl; have r76_12 : R 76 12 = some 84 := rr_lk hR rfl; have r76_13 : R 76 13 = some 85 := rr_lk hR rfl; have r76_19 : R 76 19 = some 86 := rr_lk hR rfl; have r76_20 : R 76 20 = some 87 := rr_lk hR rfl; have r76_21 : R 76 21 = some 88 := rr_lk hR rfl; have r76_22 : R 76 22 = some 89 := rr_lk hR rfl; have r76_24 : R 76 24 = some 90 := rr_lk hR rfl; have r76_25 : R 76 25 = some 91 := rr_lk hR rfl; have r76_26 : R 76 26 = some 92 := rr_lk hR rfl; have r76_28 : R 76 28 = some 93 := rr_lk hR rfl; have r76_29 : R 76 29 = some 94 := rr_lk hR rfl; have r76_30 : R 76 30 = some 95 := rr_lk hR rfl; have r76_31 : R 76 31 = some 96 := rr_lk hR rfl; have r76_32 : R 76 32 = some 97 := rr_lk hR rfl; have r76_36 : R 76 36 = some 98 := rr_lk hR rfl; have r76_38 : R 76 38 = some 99 := rr_lk hR rfl; have r76_39 : R 76 39 = some 100 := rr_lk hR rfl; have r76_40 : R 76 40 = some 101 := rr_lk hR rfl; have r76_41 : R 76 41 = some 102 := rr_lk hR rfl; have r76_42 : R 76 42 = some 103 := rr_lk hR rfl; have r76_47 : R 76 47 = some 104 := rr_lk hR rfl; have r76_53 : R 76 53 = some 105 := rr_lk hR rfl; have r76_54 : R 76 54 = some 106 := rr_lk hR rfl; have r76_55 : R 76 55 = some 107 := rr_lk hR rfl; have r76_56 : R 76 56 = some 108 := rr_lk hR rfl; have r76_57 : R 76 57 = some 109 := rr_lk hR rfl; have s77 : (SH L)[77]? = some (20, 120) := rfl
    have z3 : J 77 3 = f 3 := (MR_at h (p := 3) (by omega) (by omega)).1
    unfold entsS
    refine ⟨J, ?_, KP_refl, ?_, trivial⟩
    · simp (disch := first | assumption | omega | exact bi_lo | exact bi_hi | exact bi_01 | exact jcmp_lo | exact jcmp_hi | exact (jor_r _ _).1 | exact (jor_r _ _).2 | exact (jand_r _ _).1 | exact (jand_r _ _).2) only [x162_28, x162_29, x162_30, x162_33, x162_34, x162_35, x162_122, x162_123, kb_some, kb_none, clr_vi, clr_ref, clr_null, clr_none, va_rf_some, va_rf_none, ↓bi_ite_t, ↓bi_ite_f, ↓jc_lt_t, ↓jc_lt_f, ↓jc_gt_t, ↓jc_gt_f, ↓jc_le_t, ↓jc_le_f, ↓jc_ge_t, ↓jc_ge_f, ↓jc_eq_t, ↓jc_eq_f, ↓if_pos, ↓if_neg, z3, Int.reduceToNat]
    · show J 76 18 = J 76 18 + ((0 : Nat) : Int); omega
  | succ i ih =>
    intro x J l2 h h3 h6 hn h23 h18 hs hp hi h0 h1
    have hR := h.1
    have hn1 := h.2.1
    have s76 : (SH L)[76]? = some (11, 58) := rfl; have r76_0 : R 76 0 = some 77 := rr_lk hR rfl; have r76_3 : R 76 3 = some 78 := rr_lk hR rfl; have r76_4 : R 76 4 = some 79 := rr_lk hR rfl; have r76_6 : R 76 6 = some 80 := rr_lk hR rfl; have r76_7 : R 76 7 = some 81 := rr_lk hR rfl; have r76_9 : R 76 9 = some 82 := rr_lk hR rfl; have r76_10 : R 76 10 = some 83 := rr_lk hR rfl; have r76_12 : R 76 12 = some 84 := rr_lk hR rfl; have r76_13 : R 76 13 = some 85 := rr_lk hR rfl; have r76_19 : R 76 19 = some 86 := rr_lk hR rfl; have r76_20 : R 76 20 = some 87 := rr_lk hR rfl; have r76_21 : R 76 21 = some 88 := rr_lk hR rfl; have r76_22 : R 76 22 = some 89 := rr_lk hR rfl; have r76_24 : R 76 24 = some 90 := rr_lk hR rfl; have r76_25 : R 76 25 = some 91 := rr_lk hR rfl; have r76_26 : R 76 26 = some 92 := rr_lk hR rfl; have r76_28 : R 76 28 = some 93 := rr_lk hR rfl; have r76_29 : R 76 29 = some 94 := rr_lk hR rfl; have r76_30 : R 76 30 = some 95 := rr_lk hR rfl; have r76_31 : R 76 31 = some 96 := rr_lk hR rfl; have r76_32 : R 76 32 = some 97 := rr_lk hR rfl; have r76_36 : R 76 36 = some 98 := rr_lk hR rfl; have r76_38 : R 76 38 = some 99 := rr_lk hR rfl; have r76_39 : R 76 39 = some 100 := rr_lk hR rfl; have r76_40 : R 76 40 = some 101 := rr_lk hR rfl; have r76_41 : R 76 41 = some 102 := rr_lk hR rfl; have r76_42 : R 76 42 = some 103 := rr_lk hR rfl; have r76_47 : R 76 47 = some 104 := rr_lk hR rfl; have r76_53 : R 76 53 = some 105 := rr_lk hR rfl; have r76_54 : R 76 54 = some 106 := rr_lk hR rfl; have r76_55 : R 76 55 = some 107 := rr_lk hR rfl; have r76_56 : R 76 56 = some 108 := rr_lk hR rfl; have r76_57 : R 76 57 = some 109 := rr_lk hR rfl; have s77 : (SH L)[77]? = some (20, 120) := rfl
    have z3 : J 77 3 = f 3 := (MR_at h (p := 3) (by omega) (by omega)).1
    have hpx := hp x h0 (by omega)
    unfold sumL at hs
    have f2 := (MR_at h (p := 4 + 3 * x + 2) (by omega) (by omega)).2
    have hsl : ∀ (i : Nat) (e : Int), 0 ≤ e → e + i ≤ f 3 → 0 ≤ sumL f i e := by
      intro i
      induction i with
      | zero => intro e _ _; exact Int.le_refl 0
      | succ i ih2 =>
        intro e q1 q2
        unfold sumL
        have := ih2 (e + 1) (by omega) (by omega)
        have := (MR_at h (p := 4 + 3 * e + 2) (by omega) (by omega)).2
        omega
    have hsl' := hsl i (x + 1) (by omega) (by omega)
    have hen := m_entry (L := L) (d := d) (K := K) h (x := x) (by omega) (by omega) (by omega)
    have hsz : ∀ a, chk f (f 2) 3 (4 + 3 * x) (4 + 3 * x + 2) (f (4 + 3 * x + 1)) = .ok a → 3 * (1 + fsz 3 a.2 : Nat) ≤ f (4 + 3 * x + 2) + 3 := fun a ha => (chk_sz (m := J 76 1) (fun q => (MR_f h).1) (fun q q1 q2 => (MR_at h q1 q2).2.1) 3 _ _ _ a (by omega) (by omega) (by omega) ha).1
    unfold entsS
    generalize chk f (f 2) 3 (4 + 3 * x) (4 + 3 * x + 2) (f (4 + 3 * x + 1)) = res at hen hsz ⊢
    cases res with
    | error q =>
      obtain ⟨J2, r1, r2, ws, r3, r4, r5, r6⟩ := hen
      have w23 : J2 76 23 = 0 := by rw [r2.2.2.2.1, h23]
      have hlen : ws.length = (J2 76 27).toNat := by omega
      have hf1 := m_faults (L := L) (d := d + 4) (J := J2) (K := K) (R := R) (w := 9) (l := 0) (p := 0) hR (by omega)
      have hf2 := m_faults (L := L) (d := d + 4) (J := fa J2 9 0 0) (K := K) (R := R) (w := 9) (l := 1) (p := 4 + 3 * x) hR (by rw [fa_23]; omega)
      have he := fun J => m_entryAt (S := SH L) (d := d + 4) (J := J) (K := K) (R := R) (x := x)
      generalize hJ3 : fa (fa J2 9 0 0) 9 1 (4 + 3 * x) = J3 at hf2
      have o23 : J3 76 23 = 2 := by rw [← hJ3, fa_23, fa_23]; omega
      have o27 : J3 76 27 = J2 76 27 := by rw [← hJ3, fa_o (by decide), fa_o (by decide)]
      have o94 : J3 94 = J2 94 := by funext j; rw [← hJ3, fa_a (by decide), fa_a (by decide)]
      have o33 : J3 76 33 = J2 76 33 := by rw [← hJ3, fa_o (by decide), fa_o (by decide)]
      have o34 : J3 76 34 = J2 76 34 := by rw [← hJ3, fa_o (by decide), fa_o (by decide)]
      have hl := l_open (L := L) (d := d + 4) (K := K) (R := R) (x := x) ws.length 0 J3 hR (by omega) (by omega) (by omega) (by omega) (by omega) (by omega)
      have hrev := WL_rev ws _ r5
      rw [show J2 76 27 - 1 + 1 - (ws.length : Int) = 0 by omega] at hrev
      rw [o94, ← hrev] at hl
      generalize hJ4 : faL J3 ws.reverse = J4 at hl
      have p23 : J4 76 23 = 2 + ws.length := by rw [← hJ4, faL_23, o23, List.length_reverse]
      have p27 : J4 76 27 = J2 76 27 := by rw [← hJ4, faL_o (by decide), o27]
      have p33 : J4 76 33 = J2 76 33 := by rw [← hJ4, faL_o (by decide), o33]
      have p34 : J4 76 34 = J2 76 34 := by rw [← hJ4, faL_o (by decide), o34]
      have hf3 := m_faults (L := L) (d := d + 4) (J := J4) (K := K) (R := R) (w := J4 76 33) (l := 2 + J4 76 27) (p := J4 76 34) hR (by omega)
      refine ⟨fa J4 (J4 76 33) (2 + J4 76 27) (J4 76 34), ?_, ?_, ?_⟩
      · simp (disch := first | assumption | omega | exact bi_lo | exact bi_hi | exact bi_01 | exact jcmp_lo | exact jcmp_hi | exact (jor_r _ _).1 | exact (jor_r _ _).2 | exact (jand_r _ _).1 | exact (jand_r _ _).2) only [x162_28, x162_29, x162_30, x162_33, x162_34, x162_35, kb_some, kb_none, clr_vi, clr_ref, clr_null, clr_none, va_rf_some, va_rf_none, ↓bi_ite_t, ↓bi_ite_f, ↓jc_lt_t, ↓jc_lt_f, ↓jc_gt_t, ↓jc_gt_f, ↓jc_le_t, ↓jc_le_f, ↓jc_ge_t, ↓jc_ge_f, ↓jc_eq_t, ↓jc_eq_f, ↓if_pos, ↓if_neg, z3, Int.reduceToNat]
        simp (disch := first | assumption | omega | exact bi_lo | exact bi_hi | exact bi_01 | exact jcmp_lo | exact jcmp_hi | exact (jor_r _ _).1 | exact (jor_r _ _).2 | exact (jand_r _ _).1 | exact (jand_r _ _).2) only [x162_38, x162_39, x162_40, kb_some, kb_none, clr_vi, clr_ref, clr_null, clr_none, va_rf_some, va_rf_none, r1]
        simp (disch := first | assumption | omega | exact bi_lo | exact bi_hi | exact bi_01 | exact jcmp_lo | exact jcmp_hi | exact (jor_r _ _).1 | exact (jor_r _ _).2 | exact (jand_r _ _).1 | exact (jand_r _ _).2) only [x162_43, x162_46, x162_47, x162_49, x162_50, x162_51, x162_54, x162_55, x162_57, x162_58, x162_59, x162_62, x162_65, x162_66, kb_some, kb_none, clr_vi, clr_ref, clr_null, clr_none, va_rf_some, va_rf_none, ↓bi_ite_t, ↓bi_ite_f, ↓jc_lt_t, ↓jc_lt_f, ↓jc_gt_t, ↓jc_gt_f, ↓jc_le_t, ↓jc_le_f, ↓jc_ge_t, ↓jc_ge_f, ↓jc_eq_t, ↓jc_eq_f, ↓if_pos, ↓if_neg, hf1, hf2, he]
        rw [hl]
        simp (disch := first | assumption | omega | exact bi_lo | exact bi_hi | exact bi_01 | exact jcmp_lo | exact jcmp_hi | exact (jor_r _ _).1 | exact (jor_r _ _).2 | exact (jand_r _ _).1 | exact (jand_r _ _).2) only [x162_96, x162_97, x162_98, x162_101, x162_102, x162_103, x162_106, x162_107, x162_108, x162_111, x162_114, x162_115, kb_some, kb_none, clr_vi, clr_ref, clr_null, clr_none, va_rf_some, va_rf_none, ↓bi_ite_t, ↓bi_ite_f, ↓jc_lt_t, ↓jc_lt_f, ↓jc_gt_t, ↓jc_gt_f, ↓jc_le_t, ↓jc_le_f, ↓jc_ge_t, ↓jc_ge_f, ↓jc_eq_t, ↓jc_eq_f, ↓if_pos, ↓if_neg, hf3]
      · refine frm_trans (frm_trans r2.1 ?_) fa_frm
        rw [← hJ4, ← hJ3]
        exact frm_trans (frm_trans fa_frm fa_frm) faL_frm
      · have := FMo_of (J := J2) (e := q ++ [(9, 1, 4 + 3 * x), (9, 0, 0)]) w23
        have ee : faL J2 (q ++ [(9, 1, 4 + 3 * x), (9, 0, 0)]).reverse = fa J4 (J4 76 33) (2 + J4 76 27) (J4 76 34) := by
          have e1 : (q ++ [(9, 1, 4 + 3 * x), (9, 0, 0)]).reverse = [(9, 0, 0), (9, 1, 4 + 3 * x)] ++ (ws.reverse ++ [(J2 76 33, 2 + J2 76 27, J2 76 34)]) := by
            rw [r3]; simp
          rw [e1, faL_app, faL_app]
          show fa (faL (fa (fa J2 9 0 0) 9 1 (4 + 3 * x)) ws.reverse) _ _ _ = _
          rw [hJ3, hJ4, p33, p27, p34]
        rw [← ee]; exact this
    | ok a =>
      obtain ⟨J2, r1, r2, r3, r4⟩ := hen
      have hsz' := hsz a rfl
      have hM2 := MR_frm h r2.1
      have e1 : J2 76 1 = J 76 1 := r2.1 76 1 (by unfold AR; omega)
      have ih' := ih (x + 1) J2 l2 hM2 (by omega) h6 (by omega) (by rw [r2.2.2.2.1, h23]) (by omega) (by omega) (by rw [e1]; exact hp) (by omega) (by omega) (by omega)
      have go : ∀ X, EE (d + 5) 162 28 [some (.ref 76), some (vi (x + 1)), l2] [] (SH L) J2 K R = X → EE (d + 5) 162 28 [some (.ref 76), some (vi x), l2] [] (SH L) J K R = X := by
        intro X hX
        simp (disch := first | assumption | omega | exact bi_lo | exact bi_hi | exact bi_01 | exact jcmp_lo | exact jcmp_hi | exact (jor_r _ _).1 | exact (jor_r _ _).2 | exact (jand_r _ _).1 | exact (jand_r _ _).2) only [x162_28, x162_29, x162_30, x162_33, x162_34, x162_35, kb_some, kb_none, clr_vi, clr_ref, clr_null, clr_none, va_rf_some, va_rf_none, ↓bi_ite_t, ↓bi_ite_f, ↓jc_lt_t, ↓jc_lt_f, ↓jc_gt_t, ↓jc_gt_f, ↓jc_le_t, ↓jc_le_f, ↓jc_ge_t, ↓jc_ge_f, ↓jc_eq_t, ↓jc_eq_f, ↓if_pos, ↓if_neg, z3, Int.reduceToNat]
        simp (disch := first | assumption | omega | exact bi_lo | exact bi_hi | exact bi_01 | exact jcmp_lo | exact jcmp_hi | exact (jor_r _ _).1 | exact (jor_r _ _).2 | exact (jand_r _ _).1 | exact (jand_r _ _).2) only [x162_38, x162_39, x162_40, kb_some, kb_none, clr_vi, clr_ref, clr_null, clr_none, va_rf_some, va_rf_none, r1]
        simp (disch := first | assumption | omega | exact bi_lo | exact bi_hi | exact bi_01 | exact jcmp_lo | exact jcmp_hi | exact (jor_r _ _).1 | exact (jor_r _ _).2 | exact (jand_r _ _).1 | exact (jand_r _ _).2) only [x162_43, x162_116, x162_119, kb_some, kb_none, clr_vi, clr_ref, clr_null, clr_none, va_rf_some, va_rf_none, ↓bi_ite_t, ↓bi_ite_f, ↓jc_lt_t, ↓jc_lt_f, ↓jc_gt_t, ↓jc_gt_f, ↓jc_le_t, ↓jc_le_f, ↓jc_ge_t, ↓jc_ge_f, ↓jc_eq_t, ↓jc_eq_f, ↓if_pos, ↓if_neg]
        exact hX
      simp only at ih' ⊢
      generalize entsS f (f 2) i (x + 1) = r2' at ih' ⊢
      cases r2' with
      | error q =>
        obtain ⟨J3, s1, s2, s3⟩ := ih'
        exact ⟨J3, go _ s1, frm_trans r2.1 s2, s3⟩
      | ok l =>
        obtain ⟨J3, s1, s2, s3, s4⟩ := ih'
        refine ⟨J3, go _ s1, KP_trans r2 s2 (Or.inl rfl), ?_, ?_⟩
        · show J3 76 18 = J 76 18 + (fsz 4 (a :: l : List (Nd 3)) : Nat)
          rw [fsz_c4, s3, r3]; omega
        · show mF (J3 86) (J3 87) (J3 88) (J3 89) 4 (-1) (a :: l : List (Nd 3)) (J 76 18).toNat
          rw [mF_cons] at r4 ⊢
          rw [show (J 76 18).toNat + 1 + fsz 3 a.2 = (J2 76 18).toNat by omega]
          have hc : ∀ j : Nat, (j : Int) < J2 76 18 → J3 86 j = J2 86 j ∧ J3 87 j = J2 87 j ∧ J3 88 j = J2 88 j ∧ J3 89 j = J2 89 j := fun j q2 => by
            obtain ⟨t1, t2, t3, t4⟩ := s2.2.2.2.2.2 j q2
            exact ⟨t1, t2 (by omega), t3, t4⟩
          obtain ⟨t1, t2, t3, t4⟩ := hc (J 76 18).toNat (by omega)
          refine ⟨⟨t1.trans r4.1.1, t2.trans r4.1.2.1, t3.trans r4.1.2.2.1, t4.trans r4.1.2.2.2⟩, ?_, s4⟩
          exact mF_congr _ _ _ _ r4.2.1 (fun j q1 q2 => hc j (by omega))
theorem m_isWhole (h : MR f J R) : ∃ v J', EE (d + 5) 162 0 [some (.ref 76), none, none] [] (SH L) J K R = ok (some (vi v)) (SH L) J' K R ∧ frm AR J J' ∧ match wh f (J 76 1) with
    | .error q => v = 0 ∧ FMo J' q
    | .ok F => v = 1 ∧ MF J' F := by
  have hn1 := h.2.1
  have s76 : (SH L)[76]? = some (11, 58) := rfl
  generalize hJ0 : mm_up (mm_up J 76 18 0) 76 23 0 = J0
  have hfr0 : frm AR J J0 := by rw [← hJ0]; exact frm_up (frm_up frm_refl (by unfold AR; omega)) (by unfold AR; omega)
  have a23 : J0 76 23 = 0 := by rw [← hJ0, up_s]
  have a18 : J0 76 18 = 0 := by rw [← hJ0]; simp [mm_up]
  have a1 : J0 76 1 = J 76 1 := by rw [← hJ0]; simp [mm_up]
  have h0 := MR_frm h hfr0
  have hh := m_head (L := L) (d := d + 2) (K := K) h0 a23
  rw [a1] at hh
  have go : ∀ X, kb (EE (d + 4) 151 0 [some (.ref 76)] [] (SH L) J0 K R) (d + 4) 162 14 [some (.ref 76), none, none] [] = X → EE (d + 5) 162 0 [some (.ref 76), none, none] [] (SH L) J K R = X := by
    intro X hX
    simp (disch := first | assumption | omega | exact bi_lo | exact bi_hi | exact bi_01 | exact jcmp_lo | exact jcmp_hi | exact (jor_r _ _).1 | exact (jor_r _ _).2 | exact (jand_r _ _).1 | exact (jand_r _ _).2) only [x162_0, x162_1, x162_2, x162_5, x162_6, x162_7, x162_10, x162_11, kb_some, kb_none, clr_vi, clr_ref, clr_null, clr_none, va_rf_some, va_rf_none, hJ0]
    exact hX
  unfold wh
  generalize hhf : headF f (J 76 1) = o at hh ⊢
  cases o with
  | some q =>
    simp only at hh ⊢
    refine ⟨0, fa J0 q.1 0 q.2, go _ ?_, frm_trans hfr0 fa_frm, rfl, FMo_of (e := [(q.1, 0, q.2)]) a23⟩
    rw [hh]
    simp (disch := first | assumption | omega | exact bi_lo | exact bi_hi | exact bi_01 | exact jcmp_lo | exact jcmp_hi | exact (jor_r _ _).1 | exact (jor_r _ _).2 | exact (jand_r _ _).1 | exact (jand_r _ _).2) only [x162_14, x162_24, x162_25, kb_some, kb_none, clr_vi, clr_ref, clr_null, clr_none, va_rf_some, va_rf_none, ↓bi_ite_t, ↓bi_ite_f, ↓jc_lt_t, ↓jc_lt_f, ↓jc_gt_t, ↓jc_gt_f, ↓jc_le_t, ↓jc_le_f, ↓jc_ge_t, ↓jc_ge_f, ↓jc_eq_t, ↓jc_eq_f, ↓if_pos, ↓if_neg]
  | none =>
    simp only at hh ⊢
    obtain ⟨b1, b2, b3, b4, b5, b6, b7⟩ := headF_none hhf
    have ht := m_table (L := L) (d := d + 1) (K := K) h0 (by omega) b4 (by omega) a23
    rw [a1] at ht
    have go2 : ∀ X, kb (EE (d + 4) 161 0 [some (.ref 76), none] [] (SH L) J0 K R) (d + 4) 162 21 [some (.ref 76), none, none] [] = X → EE (d + 5) 162 0 [some (.ref 76), none, none] [] (SH L) J K R = X := by
      intro X hX
      refine go _ ?_
      rw [hh]
      simp (disch := first | assumption | omega | exact bi_lo | exact bi_hi | exact bi_01 | exact jcmp_lo | exact jcmp_hi | exact (jor_r _ _).1 | exact (jor_r _ _).2 | exact (jand_r _ _).1 | exact (jand_r _ _).2) only [x162_14, x162_17, x162_18, kb_some, kb_none, clr_vi, clr_ref, clr_null, clr_none, va_rf_some, va_rf_none, ↓bi_ite_t, ↓bi_ite_f, ↓jc_lt_t, ↓jc_lt_f, ↓jc_gt_t, ↓jc_gt_f, ↓jc_le_t, ↓jc_le_f, ↓jc_ge_t, ↓jc_ge_f, ↓jc_eq_t, ↓jc_eq_f, ↓if_pos, ↓if_neg]
      exact hX
    generalize hta : tabE f (J 76 1) (f 3) (f 3).toNat 0 = o at ht ⊢
    cases o with
    | some y =>
      simp only at ht ⊢
      obtain ⟨c, ht⟩ := ht
      refine ⟨0, fa (fa (mm_up J0 76 35 c) 9 0 0) 5 1 (4 + 3 * y + 1), go2 _ ?_, frm_trans (frm_trans (frm_trans hfr0 (frm_up frm_refl (by unfold AR; omega))) fa_frm) fa_frm, rfl, FMo_of (J := mm_up J0 76 35 c) (e := [(5, 1, 4 + 3 * y + 1), (9, 0, 0)]) (by rw [up_j (by decide)]; exact a23)⟩
      rw [ht]
      simp (disch := first | assumption | omega | exact bi_lo | exact bi_hi | exact bi_01 | exact jcmp_lo | exact jcmp_hi | exact (jor_r _ _).1 | exact (jor_r _ _).2 | exact (jand_r _ _).1 | exact (jand_r _ _).2) only [x162_21, x162_24, x162_25, kb_some, kb_none, clr_vi, clr_ref, clr_null, clr_none, va_rf_some, va_rf_none, ↓bi_ite_t, ↓bi_ite_f, ↓jc_lt_t, ↓jc_lt_f, ↓jc_gt_t, ↓jc_gt_f, ↓jc_le_t, ↓jc_le_f, ↓jc_ge_t, ↓jc_ge_f, ↓jc_eq_t, ↓jc_eq_f, ↓if_pos, ↓if_neg]
    | none =>
      simp only at ht ⊢
      obtain ⟨c, ht⟩ := ht
      have hsum := wh_room (by omega) (fun p => (MR_f (p := p) h).1) (fun p q1 q2 => (MR_at h q1 q2).2.1) hhf hta
      have hs := tabE_none _ _ hta
      have f3 := (MR_at h (p := 3) (by omega) (by omega)).2
      generalize hJ1 : mm_up J0 76 35 c = J1 at ht
      have hfr1 : frm AR J J1 := by rw [← hJ1]; exact frm_trans hfr0 (frm_up frm_refl (by unfold AR; omega))
      have c23 : J1 76 23 = 0 := by rw [← hJ1, up_j (by decide), a23]
      have c18 : J1 76 18 = 0 := by rw [← hJ1, up_j (by decide), a18]
      have c1 : J1 76 1 = J 76 1 := by rw [← hJ1, up_j (by decide), a1]
      have hl := l_ments (L := L) (d := d) (K := K) (f := f) (R := R) (f 3).toNat 0 J1 none (MR_frm h hfr1) (by omega) b4 (by omega) c23 (by omega) (by omega) (fun o q1 q2 => by have := sound_1 (hs o q1 (by omega)); omega) (by omega) (by omega) (by omega)
      have go3 : ∀ X, EE (d + 5) 162 28 [some (.ref 76), some (vi 0), none] [] (SH L) J1 K R = X → EE (d + 5) 162 0 [some (.ref 76), none, none] [] (SH L) J K R = X := by
        intro X hX
        refine go2 _ ?_
        rw [ht]
        simp (disch := first | assumption | omega | exact bi_lo | exact bi_hi | exact bi_01 | exact jcmp_lo | exact jcmp_hi | exact (jor_r _ _).1 | exact (jor_r _ _).2 | exact (jand_r _ _).1 | exact (jand_r _ _).2) only [x162_21, x162_26, x162_27, kb_some, kb_none, clr_vi, clr_ref, clr_null, clr_none, va_rf_some, va_rf_none, ↓bi_ite_t, ↓bi_ite_f, ↓jc_lt_t, ↓jc_lt_f, ↓jc_gt_t, ↓jc_gt_f, ↓jc_le_t, ↓jc_le_f, ↓jc_ge_t, ↓jc_ge_f, ↓jc_eq_t, ↓jc_eq_f, ↓if_pos, ↓if_neg]
        exact hX
      generalize entsS f (f 2) (f 3).toNat 0 = r at hl ⊢
      cases r with
      | error q =>
        obtain ⟨J2, r1, r2, r3⟩ := hl
        exact ⟨0, J2, go3 _ r1, frm_trans hfr1 r2, rfl, r3⟩
      | ok l =>
        obtain ⟨J2, r1, r2, r3, r4⟩ := hl
        rw [c18] at r3 r4
        exact ⟨1, J2, go3 _ r1, frm_trans hfr1 r2.1, rfl, r4, by rw [r3]; omega⟩
end
