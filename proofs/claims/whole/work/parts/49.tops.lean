/-! the things that stand in no group; how deep things go: the class -/
def nthT : List (Nd 3) → Nat → Int → Option (Nat × Nd 3)
  | [], _, _ => none
  | x :: l, i, k => if k = 0 then some (i, x) else nthT l (i + 1 + fsz 3 x.2) (k - 1)
def nthI (F : List (Nd 3)) (i : Nat) (k : Int) : Int := match nthT F i k with
  | some q => q.1
  | none => -1
theorem nthT_neg : ∀ (F : List (Nd 3)) (i : Nat) (k : Int), k < 0 → nthT F i k = none := by
  intro F
  induction F with
  | nil => intro i k h; rfl
  | cons x l ih =>
    intro i k h
    unfold nthT
    rw [if_neg (by omega)]
    exact ih _ _ (by omega)
theorem nthI_neg {F : List (Nd 3)} {i : Nat} {k : Int} (h : k < 0) : nthI F i k = -1 := by
  have e := nthT_neg F i k h
  simp only [nthI, e]
theorem nthI_c {x : Nd 3} {l : List (Nd 3)} {i : Nat} {k : Int} : nthI (x :: l) i k = if k = 0 then (i : Int) else nthI l (i + 1 + fsz 3 x.2) (k - 1) := by
  unfold nthI
  rw [show nthT (x :: l) i k = if k = 0 then some (i, x) else nthT l (i + 1 + fsz 3 x.2) (k - 1) from rfl]
  by_cases c : k = 0
  · rw [if_pos c, if_pos c]
  · rw [if_neg c, if_neg c]
def mx (x y : Int) : Int := if x < y then y else x
/-- the greatest depth of groups, taken on from m, in a forest at the depth b -/
def gdA : (d : Nat) → Fo d → Int → Int → Int
  | 0, _, _, m => m
  | d + 1, F, b, m => List.foldr (fun (x : Da × Fo d) (k : Int → Int) (m : Int) => k (gdA d x.2 (b + 1) (if x.1.1 = 103 then mx m (b + 1) else m))) id F m
theorem gdA_nil {d : Nat} {b m : Int} : gdA (d + 1) ([] : List (Nd d)) b m = m := rfl
theorem gdA_cons {d : Nat} {b m : Int} {x : Nd d} {F : List (Nd d)} : gdA (d + 1) (x :: F : List (Nd d)) b m = gdA (d + 1) (F : List (Nd d)) b (gdA d x.2 (b + 1) (if x.1.1 = 103 then mx m (b + 1) else m)) := rfl
theorem gdA_le : ∀ (d : Nat) (F : Fo d) (b m : Int), m ≤ gdA d F b m := by
  intro d
  induction d with
  | zero => intro F b m; exact Int.le_refl m
  | succ d ih =>
    intro F b
    induction (F : List (Nd d)) with
    | nil => intro m; exact Int.le_refl m
    | cons x F ihF =>
      intro m
      rw [gdA_cons]
      have h1 := ih x.2 (b + 1) (if x.1.1 = 103 then mx m (b + 1) else m)
      have h2 := ihF (gdA d x.2 (b + 1) (if x.1.1 = 103 then mx m (b + 1) else m))
      have h3 : m ≤ (if x.1.1 = 103 then mx m (b + 1) else m) := by unfold mx; (repeat' split) <;> omega
      omega
/-- how deep groups stand in a thing -/
def dpT (x : Nd 3) : Int := gdA 4 ([x] : List (Nd 3)) 0 0
theorem gdA_hi : ∀ (d : Nat) (F : Fo d) (b m : Int), gdA d F b m ≤ mx m (b + d) := by
  intro d
  induction d with
  | zero => intro F b m; unfold mx; show m ≤ _; split <;> omega
  | succ d ih =>
    intro F b
    induction (F : List (Nd d)) with
    | nil => intro m; show m ≤ _; unfold mx; split <;> omega
    | cons x F ihF =>
      intro m
      rw [gdA_cons]
      have h1 := ih x.2 (b + 1) (if x.1.1 = 103 then mx m (b + 1) else m)
      have h2 := ihF (gdA d x.2 (b + 1) (if x.1.1 = 103 then mx m (b + 1) else m))
      generalize gdA d x.2 (b + 1) (if x.1.1 = 103 then mx m (b + 1) else m) = z at *
      unfold mx at *
      repeat' split at h1
      all_goals repeat' split at h2
      all_goals repeat' split
      all_goals omega
theorem cF_lev {g : Int → Int} {q : Int} {y w l s o c : Nat → Int} : ∀ (d : Nat) (lv : Int) (F : Fo d) (i : Nat), cF g q y w l s o c d lv F i → ∀ j, i ≤ j → j < i + fsz d F → lv ≤ l j ∧ l j ≤ lv + d := by
  intro d
  induction d with
  | zero => intro lv F i h j h1 h2; have : fsz 0 F = 0 := rfl; omega
  | succ d ih =>
    intro lv F
    induction (F : List (Nd d)) with
    | nil => intro i h j h1 h2; rw [fsz_nil] at h2; omega
    | cons x F ihF =>
      intro i h j h1 h2
      rw [cF_cons] at h
      rw [fsz_cons] at h2
      obtain ⟨u1, u2, u3⟩ := h
      by_cases c1 : j = i
      · subst c1; rw [u1.2.2.1]; omega
      · by_cases c2 : j < i + 1 + fsz d x.2
        · have := ih _ _ _ u2 j (by omega) (by omega); omega
        · exact ihF _ u3 j (by omega) (by omega)
section
variable {d t ty wo le sp so co ce : Nat} {S : mm_S} {J K : mJ} {R : mm_R} {g : Int → Int} {q : Int}
theorem l_cnt1 (h : isT S R t ty wo le sp so co ce) (hs : 0 ≤ J t 6 ∧ J t 6 ≤ 40) : ∀ (m : Nat) (n u : Int), 0 ≤ u → u + m ≤ J t 6 → (∀ j : Nat, u ≤ j → j < u + m → 1 ≤ J le j ∧ J le j ≤ 100) →
    EE d 95 4 [some (.ref t), some (vi n), some (vi u)] [] S J K R = EE d 95 4 [some (.ref t), some (vi n), some (vi (u + m))] [] S J K R := by
  obtain ⟨h1, ⟨h2, h3, h4, h5, h6, h7⟩, ⟨h8, h9, h10, h11, h12⟩, h13, ⟨h14, h15, h16, h17, h18⟩, ⟨h19, h20, h21, h22, h23, h24, h25⟩, ⟨h26, h27, h28, h29, h30⟩, h31, h32⟩ := h
  intro m
  induction m with
  | zero => intro n u h0 hm hl; rw [show u + ((0 : Nat) : Int) = u by omega]
  | succ m ih =>
    intro n u h0 hm hl
    have hl0 := hl u.toNat (by omega) (by omega)
    have ih' := ih n (u + 1) (by omega) (by omega) (fun j j1 j2 => hl j (by omega) (by omega))
    have go : ∀ X, EE d 95 4 [some (.ref t), some (vi n), some (vi (u + 1))] [] S J K R = X → EE d 95 4 [some (.ref t), some (vi n), some (vi u)] [] S J K R = X := by
      intro X hX
      simp (disch := first | assumption | omega | exact bi_lo | exact bi_hi | exact bi_01 | exact jcmp_lo | exact jcmp_hi | exact (jor_r _ _).1 | exact (jor_r _ _).2 | exact (jand_r _ _).1 | exact (jand_r _ _).2) only [x95_4, x95_5, x95_6, x95_9, kb_some, kb_none, clr_vi, clr_ref, clr_null, clr_none, va_rf_some, va_rf_none, ↓bi_ite_t, ↓bi_ite_f, ↓jc_lt_t, ↓jc_lt_f, ↓jc_gt_t, ↓jc_gt_f, ↓jc_le_t, ↓jc_le_f, ↓jc_ge_t, ↓jc_ge_f, ↓jc_eq_t, ↓jc_eq_f, ↓if_pos, ↓if_neg]
      simp (disch := first | assumption | omega | exact bi_lo | exact bi_hi | exact bi_01 | exact jcmp_lo | exact jcmp_hi | exact (jor_r _ _).1 | exact (jor_r _ _).2 | exact (jand_r _ _).1 | exact (jand_r _ _).2) only [x95_12, x95_13, x95_16, x95_17, x95_18, x95_24, x95_27, kb_some, kb_none, clr_vi, clr_ref, clr_null, clr_none, va_rf_some, va_rf_none, ↓bi_ite_t, ↓bi_ite_f, ↓jc_lt_t, ↓jc_lt_f, ↓jc_gt_t, ↓jc_gt_f, ↓jc_le_t, ↓jc_le_f, ↓jc_ge_t, ↓jc_ge_f, ↓jc_eq_t, ↓jc_eq_f, ↓if_pos, ↓if_neg]
      exact hX
    rw [go _ ih', show u + 1 + (m : Int) = u + ((m + 1 : Nat) : Int) by omega]
theorem l_cnt (h : isT S R t ty wo le sp so co ce) (hs : 0 ≤ J t 6 ∧ J t 6 ≤ 40) : ∀ (F : List (Nd 3)) (i : Nat) (n : Int), cF g q (J ty) (J wo) (J le) (J sp) (J so) (J ce) 4 0 F i → i + (fsz 4 F : Nat) ≤ J t 6 →
    EE d 95 4 [some (.ref t), some (vi n), some (vi i)] [] S J K R = EE d 95 4 [some (.ref t), some (vi (n + F.length)), some (vi (i + (fsz 4 F : Nat)))] [] S J K R := by
  have h' := h
  obtain ⟨h1, ⟨h2, h3, h4, h5, h6, h7⟩, ⟨h8, h9, h10, h11, h12⟩, h13, ⟨h14, h15, h16, h17, h18⟩, ⟨h19, h20, h21, h22, h23, h24, h25⟩, ⟨h26, h27, h28, h29, h30⟩, h31, h32⟩ := h
  intro F
  induction F with
  | nil => intro i n hc hm; simp [fsz_nil]
  | cons x F ih =>
    intro i n hc hm
    rw [fsz_c4] at hm
    rw [cF_cons] at hc
    obtain ⟨u1, u2, u3⟩ := hc
    have e0 : J le i = 0 := u1.2.2.1
    have ih' := ih (i + 1 + fsz 3 x.2) (n + 1) u3 (by omega)
    have hk := l_cnt1 (d := d) (K := K) h' hs (fsz 3 x.2) (n + 1) ((i : Int) + 1) (by omega) (by omega) (fun j j1 j2 => by
      have := cF_lev _ _ _ _ u2 j (by omega) (by omega); omega)
    rw [show (i : Int) + 1 + (fsz 3 x.2 : Nat) = ((i + 1 + fsz 3 x.2 : Nat) : Int) by omega] at hk
    have go : ∀ X, EE d 95 4 [some (.ref t), some (vi (n + 1)), some (vi (i + 1))] [] S J K R = X → EE d 95 4 [some (.ref t), some (vi n), some (vi i)] [] S J K R = X := by
      intro X hX
      simp (disch := first | assumption | omega | exact bi_lo | exact bi_hi | exact bi_01 | exact jcmp_lo | exact jcmp_hi | exact (jor_r _ _).1 | exact (jor_r _ _).2 | exact (jand_r _ _).1 | exact (jand_r _ _).2) only [x95_4, x95_5, x95_6, x95_9, kb_some, kb_none, clr_vi, clr_ref, clr_null, clr_none, va_rf_some, va_rf_none, ↓bi_ite_t, ↓bi_ite_f, ↓jc_lt_t, ↓jc_lt_f, ↓jc_gt_t, ↓jc_gt_f, ↓jc_le_t, ↓jc_le_f, ↓jc_ge_t, ↓jc_ge_f, ↓jc_eq_t, ↓jc_eq_f, ↓if_pos, ↓if_neg]
      simp (disch := first | assumption | omega | exact bi_lo | exact bi_hi | exact bi_01 | exact jcmp_lo | exact jcmp_hi | exact (jor_r _ _).1 | exact (jor_r _ _).2 | exact (jand_r _ _).1 | exact (jand_r _ _).2) only [x95_12, x95_13, x95_16, x95_17, x95_18, x95_21, x95_24, x95_27, kb_some, kb_none, clr_vi, clr_ref, clr_null, clr_none, va_rf_some, va_rf_none, ↓bi_ite_t, ↓bi_ite_f, ↓jc_lt_t, ↓jc_lt_f, ↓jc_gt_t, ↓jc_gt_f, ↓jc_le_t, ↓jc_le_f, ↓jc_ge_t, ↓jc_ge_f, ↓jc_eq_t, ↓jc_eq_f, ↓if_pos, ↓if_neg, Int.toNat_natCast, e0]
      exact hX
    rw [go _ (hk.trans ih'), List.length_cons, fsz_c4]
    rw [show n + 1 + (F.length : Int) = n + ((F.length + 1 : Nat) : Int) by omega, show ((i + 1 + fsz 3 x.2 : Nat) : Int) + (fsz 4 F : Nat) = i + ((1 + fsz 3 x.2 + fsz 4 F : Nat) : Int) by omega]
theorem t_topCount (h : isT S R t ty wo le sp so co ce) {F : List (Nd 3)} (hc : cF g q (J ty) (J wo) (J le) (J sp) (J so) (J ce) 4 0 F 0) (hs : J t 6 = (fsz 4 F : Nat)) (h40 : J t 6 ≤ 40) :
    EE d 95 0 [some (.ref t), none, none] [] S J K R = ok (some (vi (F.length : Nat))) S J K R := by
  have hl := l_cnt (d := d) (K := K) h (by omega) F 0 0 hc (by omega)
  obtain ⟨h1, -⟩ := h
  rw [show ((0 : Nat) : Int) = 0 from rfl, Int.zero_add, Int.zero_add] at hl
  simp (disch := first | assumption | omega | exact bi_lo | exact bi_hi | exact bi_01 | exact jcmp_lo | exact jcmp_hi | exact (jor_r _ _).1 | exact (jor_r _ _).2 | exact (jand_r _ _).1 | exact (jand_r _ _).2) only [x95_0, x95_1, x95_2, x95_3, kb_some, kb_none, clr_vi, clr_ref, clr_null, clr_none, va_rf_some, va_rf_none, ↓bi_ite_t, ↓bi_ite_f, ↓jc_lt_t, ↓jc_lt_f, ↓jc_gt_t, ↓jc_gt_f, ↓jc_le_t, ↓jc_le_f, ↓jc_ge_t, ↓jc_ge_f, ↓jc_eq_t, ↓jc_eq_f, ↓if_pos, ↓if_neg]
  rw [hl]
  simp (disch := first | assumption | omega | exact bi_lo | exact bi_hi | exact bi_01 | exact jcmp_lo | exact jcmp_hi | exact (jor_r _ _).1 | exact (jor_r _ _).2 | exact (jand_r _ _).1 | exact (jand_r _ _).2) only [x95_4, x95_5, x95_6, x95_9, x95_30, x95_31, kb_some, kb_none, clr_vi, clr_ref, clr_null, clr_none, va_rf_some, va_rf_none, ↓bi_ite_t, ↓bi_ite_f, ↓jc_lt_t, ↓jc_lt_f, ↓jc_gt_t, ↓jc_gt_f, ↓jc_le_t, ↓jc_le_f, ↓jc_ge_t, ↓jc_ge_f, ↓jc_eq_t, ↓jc_eq_f, ↓if_pos, ↓if_neg]
theorem l_at1 (h : isT S R t ty wo le sp so co ce) (hs : 0 ≤ J t 6 ∧ J t 6 ≤ 40) {k0 k : Int} (hk : 0 ≤ k ∧ k ≤ 2147483647) : ∀ (m : Nat) (u : Int), 0 ≤ u → u + m ≤ J t 6 → (∀ j : Nat, u ≤ j → j < u + m → 1 ≤ J le j ∧ J le j ≤ 100) →
    EE d 96 4 [some (.ref t), some (vi k0), some (vi k), some (vi u)] [] S J K R = EE d 96 4 [some (.ref t), some (vi k0), some (vi k), some (vi (u + m))] [] S J K R := by
  obtain ⟨h1, ⟨h2, h3, h4, h5, h6, h7⟩, ⟨h8, h9, h10, h11, h12⟩, h13, ⟨h14, h15, h16, h17, h18⟩, ⟨h19, h20, h21, h22, h23, h24, h25⟩, ⟨h26, h27, h28, h29, h30⟩, h31, h32⟩ := h
  intro m
  induction m with
  | zero => intro u h0 hm hl; rw [show u + ((0 : Nat) : Int) = u by omega]
  | succ m ih =>
    intro u h0 hm hl
    have hl0 := hl u.toNat (by omega) (by omega)
    have ih' := ih (u + 1) (by omega) (by omega) (fun j j1 j2 => hl j (by omega) (by omega))
    have go : ∀ X, EE d 96 4 [some (.ref t), some (vi k0), some (vi k), some (vi (u + 1))] [] S J K R = X → EE d 96 4 [some (.ref t), some (vi k0), some (vi k), some (vi u)] [] S J K R = X := by
      intro X hX
      simp (disch := first | assumption | omega | exact bi_lo | exact bi_hi | exact bi_01 | exact jcmp_lo | exact jcmp_hi | exact (jor_r _ _).1 | exact (jor_r _ _).2 | exact (jand_r _ _).1 | exact (jand_r _ _).2) only [x96_4, x96_5, x96_6, x96_9, kb_some, kb_none, clr_vi, clr_ref, clr_null, clr_none, va_rf_some, va_rf_none, ↓bi_ite_t, ↓bi_ite_f, ↓jc_lt_t, ↓jc_lt_f, ↓jc_gt_t, ↓jc_gt_f, ↓jc_le_t, ↓jc_le_f, ↓jc_ge_t, ↓jc_ge_f, ↓jc_eq_t, ↓jc_eq_f, ↓if_pos, ↓if_neg]
      simp (disch := first | assumption | omega | exact bi_lo | exact bi_hi | exact bi_01 | exact jcmp_lo | exact jcmp_hi | exact (jor_r _ _).1 | exact (jor_r _ _).2 | exact (jand_r _ _).1 | exact (jand_r _ _).2) only [x96_12, x96_13, x96_16, x96_17, x96_20, x96_21, x96_22, x96_34, x96_37, kb_some, kb_none, clr_vi, clr_ref, clr_null, clr_none, va_rf_some, va_rf_none, ↓bi_ite_t, ↓bi_ite_f, ↓jc_lt_t, ↓jc_lt_f, ↓jc_gt_t, ↓jc_gt_f, ↓jc_le_t, ↓jc_le_f, ↓jc_ge_t, ↓jc_ge_f, ↓jc_eq_t, ↓jc_eq_f, ↓if_pos, ↓if_neg]
      exact hX
    rw [go _ ih', show u + 1 + (m : Int) = u + ((m + 1 : Nat) : Int) by omega]
theorem l_topAt (h : isT S R t ty wo le sp so co ce) (hs : 0 ≤ J t 6 ∧ J t 6 ≤ 40) {k0 : Int} : ∀ (F : List (Nd 3)) (i : Nat) (k : Int), -2147483648 ≤ k ∧ k ≤ 2147483647 → cF g q (J ty) (J wo) (J le) (J sp) (J so) (J ce) 4 0 F i → i + (fsz 4 F : Nat) = J t 6 →
    EE d 96 4 [some (.ref t), some (vi k0), some (vi k), some (vi i)] [] S J K R = ok (some (vi (nthI F i k))) S J K R := by
  have h' := h
  obtain ⟨h1, ⟨h2, h3, h4, h5, h6, h7⟩, ⟨h8, h9, h10, h11, h12⟩, h13, ⟨h14, h15, h16, h17, h18⟩, ⟨h19, h20, h21, h22, h23, h24, h25⟩, ⟨h26, h27, h28, h29, h30⟩, h31, h32⟩ := h
  intro F
  induction F with
  | nil =>
    intro i k hk hc hm
    rw [fsz_nil] at hm
    simp (disch := first | assumption | omega | exact bi_lo | exact bi_hi | exact bi_01 | exact jcmp_lo | exact jcmp_hi | exact (jor_r _ _).1 | exact (jor_r _ _).2 | exact (jand_r _ _).1 | exact (jand_r _ _).2) only [x96_4, x96_5, x96_6, x96_9, x96_40, x96_41, kb_some, kb_none, clr_vi, clr_ref, clr_null, clr_none, va_rf_some, va_rf_none, ↓bi_ite_t, ↓bi_ite_f, ↓jc_lt_t, ↓jc_lt_f, ↓jc_gt_t, ↓jc_gt_f, ↓jc_le_t, ↓jc_le_f, ↓jc_ge_t, ↓jc_ge_f, ↓jc_eq_t, ↓jc_eq_f, ↓if_pos, ↓if_neg]
    rfl
  | cons x F ih =>
    intro i k hk hc hm
    rw [fsz_c4] at hm
    by_cases c0 : k < 0
    · have e : nthI (x :: F) i k = -1 := nthI_neg c0
      rw [e]
      simp (disch := first | assumption | omega | exact bi_lo | exact bi_hi | exact bi_01 | exact jcmp_lo | exact jcmp_hi | exact (jor_r _ _).1 | exact (jor_r _ _).2 | exact (jand_r _ _).1 | exact (jand_r _ _).2) only [x96_4, x96_5, x96_6, x96_9, x96_12, x96_13, x96_40, x96_41, kb_some, kb_none, clr_vi, clr_ref, clr_null, clr_none, va_rf_some, va_rf_none, ↓bi_ite_t, ↓bi_ite_f, ↓jc_lt_t, ↓jc_lt_f, ↓jc_gt_t, ↓jc_gt_f, ↓jc_le_t, ↓jc_le_f, ↓jc_ge_t, ↓jc_ge_f, ↓jc_eq_t, ↓jc_eq_f, ↓if_pos, ↓if_neg]
    rw [cF_cons] at hc
    obtain ⟨u1, u2, u3⟩ := hc
    have e0 : J le i = 0 := u1.2.2.1
    rw [nthI_c]
    by_cases c1 : k = 0
    · rw [if_pos c1]
      simp (disch := first | assumption | omega | exact bi_lo | exact bi_hi | exact bi_01 | exact jcmp_lo | exact jcmp_hi | exact (jor_r _ _).1 | exact (jor_r _ _).2 | exact (jand_r _ _).1 | exact (jand_r _ _).2) only [x96_4, x96_5, x96_6, x96_9, x96_12, x96_13, x96_16, x96_17, x96_20, x96_21, x96_22, x96_25, x96_26, x96_29, x96_30, kb_some, kb_none, clr_vi, clr_ref, clr_null, clr_none, va_rf_some, va_rf_none, ↓bi_ite_t, ↓bi_ite_f, ↓jc_lt_t, ↓jc_lt_f, ↓jc_gt_t, ↓jc_gt_f, ↓jc_le_t, ↓jc_le_f, ↓jc_ge_t, ↓jc_ge_f, ↓jc_eq_t, ↓jc_eq_f, ↓if_pos, ↓if_neg, Int.toNat_natCast, e0]
    · rw [if_neg c1]
      have ih' := ih (i + 1 + fsz 3 x.2) (k - 1) (by omega) u3 (by omega)
      have hk' := l_at1 (d := d) (K := K) (k0 := k0) h' hs (k := k - 1) (by omega) (fsz 3 x.2) ((i : Int) + 1) (by omega) (by omega) (fun j j1 j2 => by
        have := cF_lev _ _ _ _ u2 j (by omega) (by omega); omega)
      rw [show (i : Int) + 1 + (fsz 3 x.2 : Nat) = ((i + 1 + fsz 3 x.2 : Nat) : Int) by omega] at hk'
      have go : ∀ X, EE d 96 4 [some (.ref t), some (vi k0), some (vi (k - 1)), some (vi (i + 1))] [] S J K R = X → EE d 96 4 [some (.ref t), some (vi k0), some (vi k), some (vi i)] [] S J K R = X := by
        intro X hX
        simp (disch := first | assumption | omega | exact bi_lo | exact bi_hi | exact bi_01 | exact jcmp_lo | exact jcmp_hi | exact (jor_r _ _).1 | exact (jor_r _ _).2 | exact (jand_r _ _).1 | exact (jand_r _ _).2) only [x96_4, x96_5, x96_6, x96_9, x96_12, x96_13, kb_some, kb_none, clr_vi, clr_ref, clr_null, clr_none, va_rf_some, va_rf_none, ↓bi_ite_t, ↓bi_ite_f, ↓jc_lt_t, ↓jc_lt_f, ↓jc_gt_t, ↓jc_gt_f, ↓jc_le_t, ↓jc_le_f, ↓jc_ge_t, ↓jc_ge_f, ↓jc_eq_t, ↓jc_eq_f, ↓if_pos, ↓if_neg]
        simp (disch := first | assumption | omega | exact bi_lo | exact bi_hi | exact bi_01 | exact jcmp_lo | exact jcmp_hi | exact (jor_r _ _).1 | exact (jor_r _ _).2 | exact (jand_r _ _).1 | exact (jand_r _ _).2) only [x96_16, x96_17, x96_20, x96_21, x96_22, x96_25, x96_26, x96_29, x96_30, x96_31, x96_34, x96_37, kb_some, kb_none, clr_vi, clr_ref, clr_null, clr_none, va_rf_some, va_rf_none, ↓bi_ite_t, ↓bi_ite_f, ↓jc_lt_t, ↓jc_lt_f, ↓jc_gt_t, ↓jc_gt_f, ↓jc_le_t, ↓jc_le_f, ↓jc_ge_t, ↓jc_ge_f, ↓jc_eq_t, ↓jc_eq_f, ↓if_pos, ↓if_neg, Int.toNat_natCast, e0]
        exact hX
      exact go _ (hk'.trans ih')
theorem t_topAt (h : isT S R t ty wo le sp so co ce) {F : List (Nd 3)} (hc : cF g q (J ty) (J wo) (J le) (J sp) (J so) (J ce) 4 0 F 0) (hs : J t 6 = (fsz 4 F : Nat)) (h40 : J t 6 ≤ 40) {k : Int} (hk : -2147483648 ≤ k ∧ k ≤ 2147483647) :
    EE d 96 0 [some (.ref t), some (vi k), none, none] [] S J K R = ok (some (vi (nthI F 0 k))) S J K R := by
  have hl := l_topAt (d := d) (K := K) (k0 := k) h (by omega) F 0 k hk hc (by omega)
  rw [show ((0 : Nat) : Int) = 0 from rfl] at hl
  simp (disch := first | assumption | omega | exact bi_lo | exact bi_hi | exact bi_01 | exact jcmp_lo | exact jcmp_hi | exact (jor_r _ _).1 | exact (jor_r _ _).2 | exact (jand_r _ _).1 | exact (jand_r _ _).2) only [x96_0, x96_1, x96_2, x96_3, kb_some, kb_none, clr_vi, clr_ref, clr_null, clr_none, va_rf_some, va_rf_none, ↓bi_ite_t, ↓bi_ite_f, ↓jc_lt_t, ↓jc_lt_f, ↓jc_gt_t, ↓jc_gt_f, ↓jc_le_t, ↓jc_le_f, ↓jc_ge_t, ↓jc_ge_f, ↓jc_eq_t, ↓jc_eq_f, ↓if_pos, ↓if_neg]
  exact hl
theorem l_depth (h : isT S R t ty wo le sp so co ce) (hs : 0 ≤ J t 6 ∧ J t 6 ≤ 40) {i0 s0 : Nat} (h0 : J le i0 = 0) (hsp : J sp i0 = s0) (hsz : (i0 + s0 : Int) ≤ J t 6) (hi0 : i0 < 40 ∧ 1 ≤ s0) (hty : ∀ j : Nat, (j : Int) < J t 6 → 0 ≤ J ty j ∧ J ty j ≤ 255) : ∀ (D : Nat) (lv : Int) (F : Fo D) (i : Nat) (m : Int), cF g q (J ty) (J wo) (J le) (J sp) (J so) (J ce) D lv F i → i0 ≤ i → i + fsz D F ≤ i0 + s0 → 0 ≤ lv → lv + D ≤ 10 → 0 ≤ m ∧ m ≤ 20 →
    EE (d + 2) 94 4 [some (.ref t), some (vi i0), some (vi m), some (vi i)] [] S J K R = EE (d + 2) 94 4 [some (.ref t), some (vi i0), some (vi (gdA D F lv m)), some (vi (i + fsz D F : Nat))] [] S J K R := by
  have hh := fun d u hu => t_has (d := d) (K := K) h hs (i := u) hu
  have hsn := fun d => t_spanOf (d := d) (K := K) h hs (i := i0) (by omega)
  rw [Int.toNat_natCast, hsp] at hsn
  obtain ⟨h1, ⟨h2, h3, h4, h5, h6, h7⟩, ⟨h8, h9, h10, h11, h12⟩, h13, ⟨h14, h15, h16, h17, h18⟩, ⟨h19, h20, h21, h22, h23, h24, h25⟩, ⟨h26, h27, h28, h29, h30⟩, h31, h32⟩ := h
  intro D
  induction D with
  | zero => intro lv F i m hc hi hf hlv hlv2 hm; rfl
  | succ D ih =>
    intro lv F
    induction (F : List (Nd D)) with
    | nil => intro i m hc hi hf hlv hlv2 hm; rfl
    | cons x F ihF =>
      intro i m hc hi hf hlv hlv2 hm
      rw [cF_cons] at hc
      rw [fsz_cons] at hf
      obtain ⟨u1, u2, u3⟩ := hc
      have e1 : J ty i = x.1.1 := u1.1
      have e2 : J le i = lv := u1.2.2.1
      rw [gdA_cons]
      have hm' : 0 ≤ (if x.1.1 = 103 then mx m (lv + 1) else m) ∧ (if x.1.1 = 103 then mx m (lv + 1) else m) ≤ 20 := by unfold mx; (repeat' split) <;> omega
      have ih1 := ih (lv + 1) x.2 (i + 1) (if x.1.1 = 103 then mx m (lv + 1) else m) u2 (by omega) (by omega) (by omega) (by omega) hm'
      have hm2 : 0 ≤ gdA D x.2 (lv + 1) (if x.1.1 = 103 then mx m (lv + 1) else m) ∧ gdA D x.2 (lv + 1) (if x.1.1 = 103 then mx m (lv + 1) else m) ≤ 20 := by
        have a1 := gdA_le D x.2 (lv + 1) (if x.1.1 = 103 then mx m (lv + 1) else m)
        have a2 := gdA_hi D x.2 (lv + 1) (if x.1.1 = 103 then mx m (lv + 1) else m)
        generalize (if x.1.1 = 103 then mx m (lv + 1) else m) = z at *
        unfold mx at a2
        split at a2 <;> omega
      have ih2 := ihF (i + 1 + fsz D x.2) _ u3 (by omega) (by omega) hlv hlv2 hm2
      have go : ∀ X, EE (d + 2) 94 4 [some (.ref t), some (vi i0), some (vi (if x.1.1 = 103 then mx m (lv + 1) else m)), some (vi ((i + 1 : Nat) : Int))] [] S J K R = X → EE (d + 2) 94 4 [some (.ref t), some (vi i0), some (vi m), some (vi i)] [] S J K R = X := by
        intro X hX
        have hr : (0 : Int) ≤ (i : Int) ∧ (i : Int) < J t 6 := by omega
        have hty1 := hty i (by omega)
        rw [e1] at hty1
        have hhi := fun d => hh d (i : Int) (by omega)
        rw [bi_t hr] at hhi
        rw [Int.natCast_succ] at hX
        by_cases c1 : x.1.1 = 103
        · rw [if_pos c1] at hX
          unfold mx at hX
          simp (disch := first | assumption | omega | exact bi_lo | exact bi_hi | exact bi_01 | exact jcmp_lo | exact jcmp_hi | exact (jor_r _ _).1 | exact (jor_r _ _).2 | exact (jand_r _ _).1 | exact (jand_r _ _).2) only [x94_4, x94_5, x94_6, x94_9, x94_12, x94_13, x94_14, x94_15, x94_16, x94_19, x94_20, kb_some, kb_none, clr_vi, clr_ref, clr_null, clr_none, va_rf_some, va_rf_none, ↓bi_ite_t, ↓bi_ite_f, ↓jc_lt_t, ↓jc_lt_f, ↓jc_gt_t, ↓jc_gt_f, ↓jc_le_t, ↓jc_le_f, ↓jc_ge_t, ↓jc_ge_f, ↓jc_eq_t, ↓jc_eq_f, ↓if_pos, ↓if_neg, hhi, hsn]
          simp (disch := first | assumption | omega | exact bi_lo | exact bi_hi | exact bi_01 | exact jcmp_lo | exact jcmp_hi | exact (jor_r _ _).1 | exact (jor_r _ _).2 | exact (jand_r _ _).1 | exact (jand_r _ _).2) only [x94_23, x94_24, x94_27, x94_28, x94_29, x94_31, x94_34, x94_35, x94_36, x94_39, x94_40, x94_41, x94_42, x94_45, x94_46, x94_47, x94_48, x94_49, x94_50, x94_53, x94_54, x94_57, kb_some, kb_none, clr_vi, clr_ref, clr_null, clr_none, va_rf_some, va_rf_none, ↓bi_ite_t, ↓bi_ite_f, ↓jc_lt_t, ↓jc_lt_f, ↓jc_gt_t, ↓jc_gt_f, ↓jc_le_t, ↓jc_le_f, ↓jc_ge_t, ↓jc_ge_f, ↓jc_eq_t, ↓jc_eq_f, ↓if_pos, ↓if_neg, Int.toNat_natCast, e1, e2, h0, Int.sub_zero]
          exact hX
        · rw [if_neg c1] at hX
          simp (disch := first | assumption | omega | exact bi_lo | exact bi_hi | exact bi_01 | exact jcmp_lo | exact jcmp_hi | exact (jor_r _ _).1 | exact (jor_r _ _).2 | exact (jand_r _ _).1 | exact (jand_r _ _).2) only [x94_4, x94_5, x94_6, x94_9, x94_12, x94_13, x94_14, x94_15, x94_16, x94_19, x94_20, kb_some, kb_none, clr_vi, clr_ref, clr_null, clr_none, va_rf_some, va_rf_none, ↓bi_ite_t, ↓bi_ite_f, ↓jc_lt_t, ↓jc_lt_f, ↓jc_gt_t, ↓jc_gt_f, ↓jc_le_t, ↓jc_le_f, ↓jc_ge_t, ↓jc_ge_f, ↓jc_eq_t, ↓jc_eq_f, ↓if_pos, ↓if_neg, hhi, hsn]
          simp (disch := first | assumption | omega | exact bi_lo | exact bi_hi | exact bi_01 | exact jcmp_lo | exact jcmp_hi | exact (jor_r _ _).1 | exact (jor_r _ _).2 | exact (jand_r _ _).1 | exact (jand_r _ _).2) only [x94_23, x94_24, x94_27, x94_28, x94_29, x94_31, x94_54, x94_57, kb_some, kb_none, clr_vi, clr_ref, clr_null, clr_none, va_rf_some, va_rf_none, ↓bi_ite_t, ↓bi_ite_f, ↓jc_lt_t, ↓jc_lt_f, ↓jc_gt_t, ↓jc_gt_f, ↓jc_le_t, ↓jc_le_f, ↓jc_ge_t, ↓jc_ge_f, ↓jc_eq_t, ↓jc_eq_f, ↓if_pos, ↓if_neg, Int.toNat_natCast, e1]
          exact hX
      rw [go _ ih1, ih2, fsz_cons, show i + 1 + fsz D x.2 + fsz (D + 1) F = i + (1 + fsz D x.2 + fsz (D + 1) F) by omega]
theorem t_depthOf (h : isT S R t ty wo le sp so co ce) (hs : 0 ≤ J t 6 ∧ J t 6 ≤ 40) (hty : ∀ j : Nat, (j : Int) < J t 6 → 0 ≤ J ty j ∧ J ty j ≤ 255) {x : Nd 3} {i : Nat} (hc : cF g q (J ty) (J wo) (J le) (J sp) (J so) (J ce) 4 0 ([x] : List (Nd 3)) i) (hi : i + (1 + fsz 3 x.2 : Nat) ≤ J t 6) :
    EE (d + 2) 94 0 [some (.ref t), some (vi i), none, none] [] S J K R = ok (some (vi (dpT x))) S J K R := by
  have hc' := hc
  rw [cF_cons] at hc'
  have hl := l_depth (d := d) (K := K) h hs (i0 := i) (s0 := 1 + fsz 3 x.2) hc'.1.2.2.1 (by rw [hc'.1.2.2.2.1]; omega) (by omega) (by omega) hty 4 0 ([x] : List (Nd 3)) i 0 hc (by omega) (by show i + (1 + fsz 3 x.2 + 0) ≤ _; omega) (by omega) (by omega) (by omega)
  have hh := fun d u hu => t_has (d := d) (K := K) h hs (i := u) hu
  have hsn := fun d => t_spanOf (d := d) (K := K) h hs (i := i) (by omega)
  rw [Int.toNat_natCast, hc'.1.2.2.2.1] at hsn
  obtain ⟨h1, -⟩ := h
  have ez : i + fsz 4 ([x] : List (Nd 3)) = i + (1 + fsz 3 x.2) := rfl
  rw [ez] at hl
  have go : ∀ X, EE (d + 2) 94 4 [some (.ref t), some (vi i), some (vi 0), some (vi i)] [] S J K R = X → EE (d + 2) 94 0 [some (.ref t), some (vi i), none, none] [] S J K R = X := by
    intro X hX
    simp (disch := first | assumption | omega | exact bi_lo | exact bi_hi | exact bi_01 | exact jcmp_lo | exact jcmp_hi | exact (jor_r _ _).1 | exact (jor_r _ _).2 | exact (jand_r _ _).1 | exact (jand_r _ _).2) only [x94_0, x94_1, x94_2, x94_3, kb_some, kb_none, clr_vi, clr_ref, clr_null, clr_none, va_rf_some, va_rf_none]
    exact hX
  rw [go _ hl]
  have hhi := fun d => hh d ((i + (1 + fsz 3 x.2) : Nat) : Int) (by omega)
  by_cases c : ((i + (1 + fsz 3 x.2) : Nat) : Int) < J t 6
  · rw [bi_t (by omega)] at hhi
    simp (disch := first | assumption | omega | exact bi_lo | exact bi_hi | exact bi_01 | exact jcmp_lo | exact jcmp_hi | exact (jor_r _ _).1 | exact (jor_r _ _).2 | exact (jand_r _ _).1 | exact (jand_r _ _).2) only [x94_4, x94_5, x94_6, x94_9, x94_12, x94_13, x94_14, x94_15, x94_16, x94_19, x94_20, x94_60, x94_61, kb_some, kb_none, clr_vi, clr_ref, clr_null, clr_none, va_rf_some, va_rf_none, ↓bi_ite_t, ↓bi_ite_f, ↓jc_lt_t, ↓jc_lt_f, ↓jc_gt_t, ↓jc_gt_f, ↓jc_le_t, ↓jc_le_f, ↓jc_ge_t, ↓jc_ge_f, ↓jc_eq_t, ↓jc_eq_f, ↓if_pos, ↓if_neg, hhi, hsn]
    rfl
  · rw [bi_f (by omega)] at hhi
    simp (disch := first | assumption | omega | exact bi_lo | exact bi_hi | exact bi_01 | exact jcmp_lo | exact jcmp_hi | exact (jor_r _ _).1 | exact (jor_r _ _).2 | exact (jand_r _ _).1 | exact (jand_r _ _).2) only [x94_4, x94_5, x94_6, x94_9, x94_60, x94_61, kb_some, kb_none, clr_vi, clr_ref, clr_null, clr_none, va_rf_some, va_rf_none, ↓bi_ite_t, ↓bi_ite_f, ↓jc_lt_t, ↓jc_lt_f, ↓jc_gt_t, ↓jc_gt_f, ↓jc_le_t, ↓jc_le_f, ↓jc_ge_t, ↓jc_ge_f, ↓jc_eq_t, ↓jc_eq_f, ↓if_pos, ↓if_neg, hhi]
    rfl
end
