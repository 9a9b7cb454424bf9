/-! the class reads a text: things, sets -/
def PL (D : Nat) (lv : Int) (J J' : mJ) (F : Fo D) (c : List Int) : Prop := (∀ a, ¬ (46 ≤ a ∧ a ≤ 54) → J' a = J a) ∧ J' 47 6 = J 47 6 + (fsz D F : Nat) ∧ J' 53 1 = J 53 1 + (c.length : Nat) ∧ (∀ j : Nat, (j : Int) < J 47 6 → J' 48 j = J 48 j ∧ J' 49 j = J 49 j ∧ J' 50 j = J 50 j ∧ J' 51 j = J 51 j ∧ J' 52 j = J 52 j) ∧ (∀ j : Nat, (j : Int) < J 53 1 → J' 54 j = J 54 j) ∧ (∀ (k : Nat) (hk : k < c.length), J' 54 ((J 53 1).toNat + k) = c[k]) ∧ (∀ g : Int → Int, (∀ (k : Nat) (hk : k < c.length), g (J 53 1 + k) = c[k]) → cF g (J' 53 1) (J' 48) (J' 49) (J' 50) (J' 51) (J' 52) (J' 54) D lv F (J 47 6).toNat)
theorem PL_nil {D : Nat} {lv : Int} {J : mJ} : PL (D + 1) lv J J ([] : List (Nd D)) [] :=
  ⟨fun _ _ => rfl, by simp [fsz_nil], by simp, fun _ _ => ⟨rfl, rfl, rfl, rfl, rfl⟩, fun _ _ => rfl, fun k hk => by simp at hk, fun _ _ => trivial⟩
theorem PL_cons {D : Nat} {lv : Int} {J J1 J2 : mJ} {x : Nd D} {l : List (Nd D)} {c1 c2 : List Int} (h0 : 0 ≤ J 47 6) (h53 : 0 ≤ J 53 1) (h : PL (D + 1) lv J J1 ([x] : List (Nd D)) c1) (h' : PL (D + 1) lv J1 J2 l c2) : PL (D + 1) lv J J2 (x :: l : List (Nd D)) (c1 ++ c2) := by
  obtain ⟨u1, u2, u3, u4, u5, u6, u7⟩ := h
  obtain ⟨v1, v2, v3, v4, v5, v6, v7⟩ := h'
  have ex : fsz (D + 1) ([x] : List (Nd D)) = 1 + fsz D x.2 := rfl
  rw [ex] at u2
  refine ⟨fun a ha => (v1 a ha).trans (u1 a ha), by rw [v2, u2, fsz_cons]; omega, by rw [v3, u3, List.length_append]; omega, fun j hj => ?_, fun j hj => by rw [v5 j (by omega), u5 j hj], fun k hk => ?_, fun g hg => ?_⟩
  · obtain ⟨a1, a2, a3, a4, a5⟩ := u4 j hj
    obtain ⟨b1, b2, b3, b4, b5⟩ := v4 j (by omega)
    exact ⟨b1.trans a1, b2.trans a2, b3.trans a3, b4.trans a4, b5.trans a5⟩
  · rw [List.length_append] at hk
    by_cases c : k < c1.length
    · rw [v5 _ (by omega), u6 k c, List.getElem_append_left c]
    · have := v6 (k - c1.length) (by omega)
      rw [show (J1 53 1).toNat + (k - c1.length) = (J 53 1).toNat + k by omega] at this
      rw [this, List.getElem_append_right (by omega)]
  · have g1 := u7 g (fun k hk => by rw [hg k (by rw [List.length_append]; omega), List.getElem_append_left hk])
    have g2 := v7 g (fun k hk => by
      have := hg (c1.length + k) (by rw [List.length_append]; omega)
      rw [show J1 53 1 + (k : Int) = J 53 1 + ((c1.length + k : Nat) : Int) by omega, this, List.getElem_append_right (by omega)]
      congr 1; omega)
    rw [cF_cons] at g1 ⊢
    have hc : ∀ j : Nat, (j : Int) < J1 47 6 → J2 48 j = J1 48 j ∧ J2 49 j = J1 49 j ∧ J2 50 j = J1 50 j ∧ J2 51 j = J1 51 j ∧ J2 52 j = J1 52 j := v4
    refine ⟨cN_congr g1.1 (by omega) (hc _ (by omega)) (fun j hj => v5 j hj), cF_congr (by omega) (fun j hj => v5 j hj) _ _ _ _ g1.2.1 (fun j q1 q2 => hc j (by omega)), ?_⟩
    rw [show (J 47 6).toNat + 1 + fsz D x.2 = (J1 47 6).toNat by omega]
    exact g2
section
variable {t : Int → Int} {J : mJ} {p lv : Int}
theorem gt_up {a j : Nat} {v : Int} (h : a ≠ 46) : mm_up (gt t J p) a j v = gt t (mm_up J a j v) p := by
  funext b i
  by_cases c : b = 46
  · subst c; simp [gt, mm_up, Ne.symm h]
  · simp [gt, mm_up, c]
/-- a leaf is placed -/
theorem PL_leaf {D : Nat} {J' : mJ} {ty w : Int} {c : List Int} (h47 : 0 ≤ J 47 6) (h53 : 0 ≤ J 53 1) (hf : ∀ a, ¬ (46 ≤ a ∧ a ≤ 54) → J' a = J a) (h6 : J' 47 6 = J 47 6 + 1) (h1 : J' 53 1 = J 53 1 + (c.length : Nat)) (hr : ∀ j : Nat, (j : Int) < J 47 6 → J' 48 j = J 48 j ∧ J' 49 j = J 49 j ∧ J' 50 j = J 50 j ∧ J' 51 j = J 51 j ∧ J' 52 j = J 52 j) (hlo : ∀ j : Nat, (j : Int) < J 53 1 → J' 54 j = J 54 j) (hhi : ∀ (k : Nat) (hk : k < c.length), J' 54 ((J 53 1).toNat + k) = c[k]) (hn : J' 48 (J 47 6).toNat = ty ∧ J' 49 (J 47 6).toNat = w ∧ J' 50 (J 47 6).toNat = lv ∧ J' 51 (J 47 6).toNat = 1 ∧ J' 52 (J 47 6).toNat = J 53 1) (hw : ty = 115 ∨ ty = 114 → w = c.length) : PL (D + 1) lv J J' ([((ty, w, ((J 53 1).toNat : Int)), fo0 D)] : List (Nd D)) c := by
  refine ⟨hf, ?_, h1, hr, hlo, hhi, fun g hg => ⟨⟨hn.1, hn.2.1, hn.2.2.1, ?_, fun hty => ?_⟩, cF_0, trivial⟩⟩
  · show J' 47 6 = J 47 6 + ((1 + fsz D (fo0 D) + 0 : Nat) : Int)
    rw [h6, fsz_0]; omega
  · show J' 51 (J 47 6).toNat = 1 + ((fsz D (fo0 D) : Nat) : Int)
    rw [hn.2.2.2.1, fsz_0]; rfl
  · have hw' := hw hty
    show 0 ≤ J' 52 (J 47 6).toNat ∧ 0 ≤ w ∧ J' 52 (J 47 6).toNat + w ≤ J' 53 1 ∧ ∀ k : Nat, (k : Int) < w → J' 54 ((J' 52 (J 47 6).toNat).toNat + k) = g (((J 53 1).toNat : Int) + k)
    rw [hn.2.2.2.2]
    refine ⟨h53, by omega, by omega, fun k hk => ?_⟩
    rw [hhi k (by omega), Int.toNat_of_nonneg h53, hg k (by omega)]
end
section
variable {L d : Nat} {t : Int → Int} {J K : mJ} {R : mm_R} {p x y lv : Int} {i : Nat}
theorem an_r (h47 : 0 ≤ J 47 6) : (an J x lv 48 (J 47 6).toNat = x ∧ an J x lv 49 (J 47 6).toNat = 0 ∧ an J x lv 50 (J 47 6).toNat = lv ∧ an J x lv 51 (J 47 6).toNat = 1 ∧ an J x lv 52 (J 47 6).toNat = J 53 1) ∧ ∀ j : Nat, (j : Int) < J 47 6 → an J x lv 48 j = J 48 j ∧ an J x lv 49 j = J 49 j ∧ an J x lv 50 j = J 50 j ∧ an J x lv 51 j = J 51 j ∧ an J x lv 52 j = J 52 j := by
  refine ⟨by simp [an, mm_up], fun j hj => ?_⟩
  have : j ≠ (J 47 6).toNat := by omega
  simp [an, mm_up, this]
theorem PL_row {D : Nat} {ty : Int} {c : List Int} (h47 : 0 ≤ J 47 6) (h53 : 0 ≤ J 53 1) : PL (D + 1) lv J (tkL (J 47 6).toNat (an J ty lv) c) ([((ty, (c.length : Nat), ((J 53 1).toNat : Int)), fo0 D)] : List (Nd D)) c := by
  have e53 : an J ty lv 53 = J 53 := an_o (by decide)
  have e54 : an J ty lv 54 = J 54 := an_o (by decide)
  have h53' : 0 ≤ an J ty lv 53 1 := by rw [e53]; exact h53
  obtain ⟨a1, a2⟩ := an_r (x := ty) (lv := lv) h47
  have o : ∀ (a j : Nat), ¬ ((a = 54 ∧ an J ty lv 53 1 ≤ j) ∨ (a = 53 ∧ j = 1) ∨ (a = 49 ∧ j = (J 47 6).toNat)) → tkL (J 47 6).toNat (an J ty lv) c a j = an J ty lv a j := fun a j hj => tkL_o h53' hj
  refine PL_leaf h47 h53 (fun a ha => ?_) ?_ ?_ (fun j hj => ?_) (fun j hj => ?_) (fun k hk => ?_) ⟨?_, ?_, ?_, ?_, ?_⟩ (fun _ => rfl)
  · funext j
    rw [o a j (by omega), an_o (by omega)]
  · rw [o 47 6 (by omega), an_47]
  · rw [tkL_53, e53]
  · rw [o 48 j (by omega), o 49 j (by omega), o 50 j (by omega), o 51 j (by omega), o 52 j (by omega)]
    exact a2 j hj
  · rw [o 54 j (by rw [e53]; omega), e54]
  · have := tkL_54 (i := (J 47 6).toNat) (l := c) (J := an J ty lv) h53' k hk
    rw [e53] at this; exact this
  · rw [o 48 _ (by omega)]; exact a1.1
  · rw [tkL_49, a1.2.1]; omega
  · rw [o 50 _ (by omega)]; exact a1.2.2.1
  · rw [o 51 _ (by omega)]; exact a1.2.2.2.1
  · rw [o 52 _ (by omega)]; exact a1.2.2.2.2
theorem PL_num {D : Nat} {w : Int} (h47 : 0 ≤ J 47 6) (h53 : 0 ≤ J 53 1) : PL (D + 1) lv J (mm_up (an J 110 lv) 49 (J 47 6).toNat w) ([((110, w, ((J 53 1).toNat : Int)), fo0 D)] : List (Nd D)) [] := by
  obtain ⟨a1, a2⟩ := an_r (x := 110) (lv := lv) h47
  refine PL_leaf h47 h53 (fun a ha => ?_) ?_ ?_ (fun j hj => ?_) (fun j hj => ?_) (fun k hk => by simp at hk) ⟨?_, up_s, ?_, ?_, ?_⟩ (fun h => by omega)
  · rw [up_ne (by omega), an_o (by omega)]
  · rw [up_ne (by decide), an_47]
  · rw [up_ne (by decide), an_o (by decide)]; simp
  · rw [up_ne (by decide), up_j (by omega), up_ne (by decide), up_ne (by decide), up_ne (by decide)]
    exact a2 j hj
  · rw [up_ne (by decide), an_o (by decide)]
  · rw [up_ne (by decide)]; exact a1.1
  · rw [up_ne (by decide)]; exact a1.2.2.1
  · rw [up_ne (by decide)]; exact a1.2.2.2.1
  · rw [up_ne (by decide)]; exact a1.2.2.2.2
/-- what is said of things of D levels -/
def CTH (L d : Nat) (t : Int → Int) (K : mJ) (R : mm_R) (D : Nat) : Prop := ∀ (J : mJ) (p : Int), TX t J R → (0 ≤ p ∧ p ≤ J 27 1) → (0 ≤ J 47 6 ∧ 0 ≤ J 53 1 ∧ 4 * J 47 6 + J 53 1 ≤ p) →
  match thS t D p (J 53 1).toNat with
  | .error e => ∃ J', EE (d + 2 * D + 5) 75 0 [some (.ref 46), some (vi (3 - (D : Int))), none, none] [] (SH L) (gt t J p) K R = ok (some (vi 0)) (SH L) J' K R ∧ ER e J J'
  | .ok r => ∃ J', EE (d + 2 * D + 5) 75 0 [some (.ref 46), some (vi (3 - (D : Int))), none, none] [] (SH L) (gt t J p) K R = ok (some (vi 1)) (SH L) (gt t J' r.2.1) K R ∧ PL (D + 1) (3 - (D : Int)) J J' ([r.1] : List (Nd D)) r.2.2
theorem TX_PL {D : Nat} {J' : mJ} {F : Fo D} {c : List Int} (h : TX t J R) (hp : PL D lv J J' F c) : TX t J' R ∧ J' 27 1 = J 27 1 := by
  have e27 : J' 27 = J 27 := hp.1 27 (by omega)
  exact ⟨TX_o h (by rw [e27]) (hp.1 28 (by omega)), by rw [e27]⟩
theorem l_cset {D : Nat} (hR : wfR R) (hD : D ≤ 2) (hth : CTH L d t K R D) : ∀ (k : Nat) (p : Int) (J : mJ), TX t J R → (0 ≤ p ∧ p ≤ J 27 1) → (0 ≤ J 47 6 ∧ 0 ≤ J 53 1 ∧ 4 * J 47 6 + J 53 1 ≤ p) → 1 ≤ k → k ≤ 6 →
    match grS t (thS t D) k p (J 53 1).toNat with
    | .error e => ∃ J', EE (d + 2 * D + 6) 81 39 [some (.ref 46), some (vi (2 - (D : Int))), some (vi i), some (vi 0), some (vi (6 - k))] [] (SH L) (gt t J p) K R = ok (some (vi 0)) (SH L) J' K R ∧ ER e J J'
    | .ok s => ∃ J', EE (d + 2 * D + 6) 81 39 [some (.ref 46), some (vi (2 - (D : Int))), some (vi i), some (vi 0), some (vi (6 - k))] [] (SH L) (gt t J p) K R = EE (d + 2 * D + 6) 81 106 [some (.ref 46), some (vi (2 - (D : Int))), some (vi i), some (vi 1), some (vi (6 - k + (s.1.length : Nat)))] [] (SH L) (gt t J' s.2.1) K R ∧ PL (D + 1) (3 - (D : Int)) J J' s.1 s.2.2 := by
  have s46 : (SH L)[46]? = some (8, 5) := rfl; have r46_0 : R 46 0 = some 47 := rr_lk hR rfl; have s47 : (SH L)[47]? = some (9, 7) := rfl; have r47_0 : R 47 0 = some 48 := rr_lk hR rfl; have r47_1 : R 47 1 = some 49 := rr_lk hR rfl; have r47_2 : R 47 2 = some 50 := rr_lk hR rfl; have r47_3 : R 47 3 = some 51 := rr_lk hR rfl; have r47_4 : R 47 4 = some 52 := rr_lk hR rfl; have r47_5 : R 47 5 = some 53 := rr_lk hR rfl
  intro k
  induction k with
  | zero => intro p J h hp hc h1; omega
  | succ k ih =>
    intro p J h hp hc h1 h6
    have hn := h.2.2.1
    have hN := TX_N h
    have hx := hth J p h hp hc
    have hto : ∀ r, thS t D p (J 53 1).toNat = .ok r → TO t (J 27 1) D p (J 53 1).toNat r := fun r hr => thS_TO hN D p _ r hp.2 hr
    have hfa := fun d J p => tx_faulty (L := L) (d := d) (J := J) (K := K) (R := R) (p := p)
    rw [show (3 : Int) - (D : Int) = 2 - (D : Int) + 1 by omega] at hx ⊢
    unfold grS
    cases hr : thS t D p (J 53 1).toNat with
    | error e =>
      rw [hr] at hx
      obtain ⟨J', j1, j2⟩ := hx
      refine ⟨J', ?_, j2⟩
      simp (disch := first | assumption | omega | exact bi_lo | exact bi_hi | exact bi_01 | exact jcmp_lo | exact jcmp_hi | exact (jor_r _ _).1 | exact (jor_r _ _).2 | exact (jand_r _ _).1 | exact (jand_r _ _).2) only [x81_39, x81_41, x81_43, x81_46, x81_47, x81_50, x81_51, x81_52, x81_53, x81_54, x81_57, x81_60, x81_61, kb_some, kb_none, clr_vi, clr_ref, clr_null, clr_none, va_rf_some, va_rf_none, ↓bi_ite_t, ↓bi_ite_f, ↓jc_lt_t, ↓jc_lt_f, ↓jc_gt_t, ↓jc_gt_f, ↓jc_le_t, ↓jc_le_f, ↓jc_ge_t, ↓jc_ge_f, ↓jc_eq_t, ↓jc_eq_f, ↓if_pos, ↓if_neg, j1]
    | ok r =>
      rw [hr] at hx
      obtain ⟨J1, j1, j2⟩ := hx
      obtain ⟨⟨o1, o2⟩, o3, -⟩ := hto r hr
      obtain ⟨hT1, e27⟩ := TX_PL h j2
      have e47 := j2.2.1
      have e53 := j2.2.2.1
      have efs : fsz (D + 1) ([r.1] : List (Nd D)) = 1 + fsz D r.1.2 := rfl
      rw [efs] at e47
      have ho1 := tx_over (L := L) (d := d + 2 * D + 3) (K := K) (TX_gt (p := r.2.1) hT1) (y := 41) (by rw [gt_2]; omega) (by rw [gt_2, gt_3]) (by omega)
      rw [gt_2, gt_gt] at ho1
      have ho2 := tx_over (L := L) (d := d + 2 * D + 3) (K := K) (TX_gt (p := r.2.1) hT1) (y := 59) (by rw [gt_2]; omega) (by rw [gt_2, gt_3]) (by omega)
      rw [gt_2, gt_gt] at ho2
      simp only
      by_cases c1 : t r.2.1 = 41
      · rw [if_pos c1] at ho1 ⊢
        refine ⟨J1, ?_, j2⟩
        simp only
        rw [show (6 : Int) - ((k + 1 : Nat) : Int) + (([r.1] : List (Nd D)).length : Nat) = 6 - ((k + 1 : Nat) : Int) + 1 by simp]
        simp (disch := first | assumption | omega | exact bi_lo | exact bi_hi | exact bi_01 | exact jcmp_lo | exact jcmp_hi | exact (jor_r _ _).1 | exact (jor_r _ _).2 | exact (jand_r _ _).1 | exact (jand_r _ _).2) only [x81_39, x81_41, x81_43, kb_some, kb_none, clr_vi, clr_ref, clr_null, clr_none, va_rf_some, va_rf_none, ↓bi_ite_t, ↓bi_ite_f, ↓jc_lt_t, ↓jc_lt_f, ↓jc_gt_t, ↓jc_gt_f, ↓jc_le_t, ↓jc_le_f, ↓jc_ge_t, ↓jc_ge_f, ↓jc_eq_t, ↓jc_eq_f, ↓if_pos, ↓if_neg]
        simp (disch := first | assumption | omega | exact bi_lo | exact bi_hi | exact bi_01 | exact jcmp_lo | exact jcmp_hi | exact (jor_r _ _).1 | exact (jor_r _ _).2 | exact (jand_r _ _).1 | exact (jand_r _ _).2) only [x81_46, x81_47, x81_50, x81_51, x81_52, x81_53, x81_54, x81_57, x81_60, x81_61, x81_62, x81_63, x81_65, x81_68, x81_69, x81_70, x81_100, x81_103, kb_some, kb_none, clr_vi, clr_ref, clr_null, clr_none, va_rf_some, va_rf_none, ↓bi_ite_t, ↓bi_ite_f, ↓jc_lt_t, ↓jc_lt_f, ↓jc_gt_t, ↓jc_gt_f, ↓jc_le_t, ↓jc_le_f, ↓jc_ge_t, ↓jc_ge_f, ↓jc_eq_t, ↓jc_eq_f, ↓if_pos, ↓if_neg, j1, ho1]
        by_cases c0 : (6 : Int) ≤ 6 - ((k + 1 : Nat) : Int) + 1
        · simp (disch := first | assumption | omega | exact bi_lo | exact bi_hi | exact bi_01 | exact jcmp_lo | exact jcmp_hi | exact (jor_r _ _).1 | exact (jor_r _ _).2 | exact (jand_r _ _).1 | exact (jand_r _ _).2) only [x81_39, x81_41, x81_43, x81_46, x81_47, kb_some, kb_none, clr_vi, clr_ref, clr_null, clr_none, va_rf_some, va_rf_none, ↓bi_ite_t, ↓bi_ite_f, ↓jc_lt_t, ↓jc_lt_f, ↓jc_gt_t, ↓jc_gt_f, ↓jc_le_t, ↓jc_le_f, ↓jc_ge_t, ↓jc_ge_f, ↓jc_eq_t, ↓jc_eq_f, ↓if_pos, ↓if_neg]
        · simp (disch := first | assumption | omega | exact bi_lo | exact bi_hi | exact bi_01 | exact jcmp_lo | exact jcmp_hi | exact (jor_r _ _).1 | exact (jor_r _ _).2 | exact (jand_r _ _).1 | exact (jand_r _ _).2) only [x81_39, x81_41, x81_43, x81_46, x81_47, kb_some, kb_none, clr_vi, clr_ref, clr_null, clr_none, va_rf_some, va_rf_none, ↓bi_ite_t, ↓bi_ite_f, ↓jc_lt_t, ↓jc_lt_f, ↓jc_gt_t, ↓jc_gt_f, ↓jc_le_t, ↓jc_le_f, ↓jc_ge_t, ↓jc_ge_f, ↓jc_eq_t, ↓jc_eq_f, ↓if_pos, ↓if_neg]
      · rw [if_neg c1] at ho1 ⊢
        by_cases c2 : k = 0 ∨ t r.2.1 ≠ 59
        · rw [if_pos c2]
          simp only
          refine ⟨_, ?_, ER_up (t := t) (J := J1) (p := r.2.1) j2.1 (by omega) (by omega)⟩
          rcases c2 with c2 | c2
          · subst c2
            simp (disch := first | assumption | omega | exact bi_lo | exact bi_hi | exact bi_01 | exact jcmp_lo | exact jcmp_hi | exact (jor_r _ _).1 | exact (jor_r _ _).2 | exact (jand_r _ _).1 | exact (jand_r _ _).2) only [x81_39, x81_41, x81_43, kb_some, kb_none, clr_vi, clr_ref, clr_null, clr_none, va_rf_some, va_rf_none, ↓bi_ite_t, ↓bi_ite_f, ↓jc_lt_t, ↓jc_lt_f, ↓jc_gt_t, ↓jc_gt_f, ↓jc_le_t, ↓jc_le_f, ↓jc_ge_t, ↓jc_ge_f, ↓jc_eq_t, ↓jc_eq_f, ↓if_pos, ↓if_neg]
            simp (disch := first | assumption | omega | exact bi_lo | exact bi_hi | exact bi_01 | exact jcmp_lo | exact jcmp_hi | exact (jor_r _ _).1 | exact (jor_r _ _).2 | exact (jand_r _ _).1 | exact (jand_r _ _).2) only [x81_46, x81_47, x81_50, x81_51, x81_52, x81_53, x81_54, x81_57, x81_60, x81_61, x81_62, x81_63, x81_65, x81_68, x81_69, x81_70, x81_73, x81_75, x81_76, x81_77, x81_79, x81_82, x81_83, x81_85, x81_88, x81_91, x81_92, x81_93, x81_96, x81_99, kb_some, kb_none, clr_vi, clr_ref, clr_null, clr_none, va_rf_some, va_rf_none, ↓bi_ite_t, ↓bi_ite_f, ↓jc_lt_t, ↓jc_lt_f, ↓jc_gt_t, ↓jc_gt_f, ↓jc_le_t, ↓jc_le_f, ↓jc_ge_t, ↓jc_ge_f, ↓jc_eq_t, ↓jc_eq_f, ↓if_pos, ↓if_neg, j1, ho1, gt_2, hfa]
          · rw [if_neg c2] at ho2
            simp (disch := first | assumption | omega | exact bi_lo | exact bi_hi | exact bi_01 | exact jcmp_lo | exact jcmp_hi | exact (jor_r _ _).1 | exact (jor_r _ _).2 | exact (jand_r _ _).1 | exact (jand_r _ _).2) only [x81_39, x81_41, x81_43, kb_some, kb_none, clr_vi, clr_ref, clr_null, clr_none, va_rf_some, va_rf_none, ↓bi_ite_t, ↓bi_ite_f, ↓jc_lt_t, ↓jc_lt_f, ↓jc_gt_t, ↓jc_gt_f, ↓jc_le_t, ↓jc_le_f, ↓jc_ge_t, ↓jc_ge_f, ↓jc_eq_t, ↓jc_eq_f, ↓if_pos, ↓if_neg]
            simp (disch := first | assumption | omega | exact bi_lo | exact bi_hi | exact bi_01 | exact jcmp_lo | exact jcmp_hi | exact (jor_r _ _).1 | exact (jor_r _ _).2 | exact (jand_r _ _).1 | exact (jand_r _ _).2) only [x81_46, x81_47, x81_50, x81_51, x81_52, x81_53, x81_54, x81_57, x81_60, x81_61, x81_62, x81_63, x81_65, x81_68, x81_69, x81_70, kb_some, kb_none, clr_vi, clr_ref, clr_null, clr_none, va_rf_some, va_rf_none, ↓bi_ite_t, ↓bi_ite_f, ↓jc_lt_t, ↓jc_lt_f, ↓jc_gt_t, ↓jc_gt_f, ↓jc_le_t, ↓jc_le_f, ↓jc_ge_t, ↓jc_ge_f, ↓jc_eq_t, ↓jc_eq_f, ↓if_pos, ↓if_neg, j1, ho1]
            by_cases c0 : k = 0
            · subst c0
              simp (disch := first | assumption | omega | exact bi_lo | exact bi_hi | exact bi_01 | exact jcmp_lo | exact jcmp_hi | exact (jor_r _ _).1 | exact (jor_r _ _).2 | exact (jand_r _ _).1 | exact (jand_r _ _).2) only [x81_73, x81_75, x81_76, x81_77, x81_79, x81_82, x81_83, x81_85, x81_88, x81_91, x81_92, x81_93, x81_96, x81_99, kb_some, kb_none, clr_vi, clr_ref, clr_null, clr_none, va_rf_some, va_rf_none, ↓bi_ite_t, ↓bi_ite_f, ↓jc_lt_t, ↓jc_lt_f, ↓jc_gt_t, ↓jc_gt_f, ↓jc_le_t, ↓jc_le_f, ↓jc_ge_t, ↓jc_ge_f, ↓jc_eq_t, ↓jc_eq_f, ↓if_pos, ↓if_neg, gt_2, hfa]
            · simp (disch := first | assumption | omega | exact bi_lo | exact bi_hi | exact bi_01 | exact jcmp_lo | exact jcmp_hi | exact (jor_r _ _).1 | exact (jor_r _ _).2 | exact (jand_r _ _).1 | exact (jand_r _ _).2) only [x81_73, x81_75, x81_76, x81_77, x81_79, x81_82, x81_83, x81_85, x81_88, x81_91, x81_92, x81_93, x81_96, x81_99, kb_some, kb_none, clr_vi, clr_ref, clr_null, clr_none, va_rf_some, va_rf_none, ↓bi_ite_t, ↓bi_ite_f, ↓jc_lt_t, ↓jc_lt_f, ↓jc_gt_t, ↓jc_gt_f, ↓jc_le_t, ↓jc_le_f, ↓jc_ge_t, ↓jc_ge_f, ↓jc_eq_t, ↓jc_eq_f, ↓if_pos, ↓if_neg, ho2, gt_2, hfa]
        · rw [if_neg c2]
          have c3 : t r.2.1 = 59 := by
            by_cases c4 : t r.2.1 = 59
            · exact c4
            · exact absurd (Or.inr c4) c2
          have ck : k ≠ 0 := fun q => c2 (Or.inl q)
          rw [if_pos c3] at ho2
          have hlt := TN_lt hN c3 (by omega)
          have eq53 : (J 53 1).toNat + r.2.2.length = (J1 53 1).toNat := by omega
          have ih' := ih (r.2.1 + 1) J1 hT1 (by omega) (by omega) (by omega) (by omega)
          rw [eq53]
          rw [show (3 : Int) - (D : Int) = 2 - (D : Int) + 1 by omega] at ih'
          have go : ∀ X, EE (d + 2 * D + 6) 81 39 [some (.ref 46), some (vi (2 - (D : Int))), some (vi i), some (vi 0), some (vi (6 - (k : Int)))] [] (SH L) (gt t J1 (r.2.1 + 1)) K R = X → EE (d + 2 * D + 6) 81 39 [some (.ref 46), some (vi (2 - (D : Int))), some (vi i), some (vi 0), some (vi (6 - ((k + 1 : Nat) : Int)))] [] (SH L) (gt t J p) K R = X := by
            intro X hX
            rw [show (6 : Int) - (k : Int) = 6 - ((k + 1 : Nat) : Int) + 1 by omega] at hX
            simp (disch := first | assumption | omega | exact bi_lo | exact bi_hi | exact bi_01 | exact jcmp_lo | exact jcmp_hi | exact (jor_r _ _).1 | exact (jor_r _ _).2 | exact (jand_r _ _).1 | exact (jand_r _ _).2) only [x81_39, x81_41, x81_43, kb_some, kb_none, clr_vi, clr_ref, clr_null, clr_none, va_rf_some, va_rf_none, ↓bi_ite_t, ↓bi_ite_f, ↓jc_lt_t, ↓jc_lt_f, ↓jc_gt_t, ↓jc_gt_f, ↓jc_le_t, ↓jc_le_f, ↓jc_ge_t, ↓jc_ge_f, ↓jc_eq_t, ↓jc_eq_f, ↓if_pos, ↓if_neg]
            simp (disch := first | assumption | omega | exact bi_lo | exact bi_hi | exact bi_01 | exact jcmp_lo | exact jcmp_hi | exact (jor_r _ _).1 | exact (jor_r _ _).2 | exact (jand_r _ _).1 | exact (jand_r _ _).2) only [x81_46, x81_47, x81_50, x81_51, x81_52, x81_53, x81_54, x81_57, x81_60, x81_61, x81_62, x81_63, x81_65, x81_68, x81_69, x81_70, x81_73, x81_75, x81_76, x81_77, x81_79, x81_82, x81_83, x81_85, x81_88, x81_91, x81_92, x81_93, x81_96, x81_99, x81_100, x81_103, kb_some, kb_none, clr_vi, clr_ref, clr_null, clr_none, va_rf_some, va_rf_none, ↓bi_ite_t, ↓bi_ite_f, ↓jc_lt_t, ↓jc_lt_f, ↓jc_gt_t, ↓jc_gt_f, ↓jc_le_t, ↓jc_le_f, ↓jc_ge_t, ↓jc_ge_f, ↓jc_eq_t, ↓jc_eq_f, ↓if_pos, ↓if_neg, j1, ho1, ho2]
            exact hX
          cases hs : grS t (thS t D) k (r.2.1 + 1) (J1 53 1).toNat with
          | error e =>
            rw [hs] at ih'
            obtain ⟨J', g1, g2⟩ := ih'
            exact ⟨J', go _ g1, ⟨fun a ha => (g2.1 a ha).trans (j2.1 a ha), g2.2⟩⟩
          | ok s =>
            rw [hs] at ih'
            obtain ⟨J', g1, g2⟩ := ih'
            refine ⟨J', ?_, PL_cons hc.1 hc.2.1 j2 g2⟩
            rw [go _ g1]
            simp only
            rw [List.length_cons, show (6 : Int) - (k : Int) + (s.1.length : Nat) = 6 - ((k + 1 : Nat) : Int) + ((s.1.length + 1 : Nat) : Int) by omega]
end
