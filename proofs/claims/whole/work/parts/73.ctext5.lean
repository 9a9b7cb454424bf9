/-! the class reads a text: all levels, the whole -/
section
variable {L d : Nat} {t : Int → Int} {J K : mJ} {R : mm_R} {p x y lv : Int} {i : Nat}
theorem PL_group {D : Nat} {J2 : mJ} {l : List (Nd D)} {c : List Int} (h47 : 0 ≤ J 47 6) (h53 : 0 ≤ J 53 1) (h : PL (D + 1) (lv + 1) (an J 103 lv) J2 l c) : PL (D + 2) lv J (mm_up (mm_up J2 49 (J 47 6).toNat (l.length : Nat)) 51 (J 47 6).toNat (J2 47 6 - J 47 6)) ([((103, (l.length : Nat), ((J 53 1).toNat : Int)), l)] : List (Nd (D + 1))) c := by
  obtain ⟨u1, u2, u3, u4, u5, u6, u7⟩ := h
  have e53 : an J 103 lv 53 = J 53 := an_o (by decide)
  have e54 : an J 103 lv 54 = J 54 := an_o (by decide)
  obtain ⟨a1, a2⟩ := an_r (x := 103) (lv := lv) h47
  rw [an_47] at u2 u4 u7
  rw [e53] at u3 u5 u6 u7
  have k : ∀ a j, ¬ ((a = 49 ∨ a = 51) ∧ j = (J 47 6).toNat) → mm_up (mm_up J2 49 (J 47 6).toNat (l.length : Nat)) 51 (J 47 6).toNat (J2 47 6 - J 47 6) a j = J2 a j := fun a j hj => by
    unfold mm_up; rw [if_neg (by omega), if_neg (by omega)]
  have kk : ∀ a, a ≠ 49 → a ≠ 51 → mm_up (mm_up J2 49 (J 47 6).toNat (l.length : Nat)) 51 (J 47 6).toNat (J2 47 6 - J 47 6) a = J2 a := fun a h1 h2 => by
    funext j; exact k a j (by omega)
  have efs : fsz (D + 2) ([((103, ((l.length : Nat) : Int), ((J 53 1).toNat : Int)), l)] : List (Nd (D + 1))) = 1 + fsz (D + 1) l := rfl
  have ui : ∀ j : Nat, (j : Int) < J 47 6 + 1 → J2 48 j = an J 103 lv 48 j ∧ J2 49 j = an J 103 lv 49 j ∧ J2 50 j = an J 103 lv 50 j ∧ J2 51 j = an J 103 lv 51 j ∧ J2 52 j = an J 103 lv 52 j := u4
  refine ⟨fun a ha => ?_, ?_, ?_, fun j hj => ?_, fun j hj => ?_, fun q hq => ?_, fun g hg => ?_⟩
  · rw [kk a (by omega) (by omega), u1 a ha, an_o (by omega)]
  · rw [kk 47 (by decide) (by decide), u2, efs]; omega
  · rw [kk 53 (by decide) (by decide), u3]
  · obtain ⟨b1, b2, b3, b4, b5⟩ := ui j (by omega)
    obtain ⟨c1, c2, c3, c4, c5⟩ := a2 j hj
    rw [k 48 j (by omega), k 49 j (by omega), k 50 j (by omega), k 51 j (by omega), k 52 j (by omega)]
    exact ⟨b1.trans c1, b2.trans c2, b3.trans c3, b4.trans c4, b5.trans c5⟩
  · rw [kk 54 (by decide) (by decide), u5 j hj, e54]
  · rw [kk 54 (by decide) (by decide)]; exact u6 q hq
  · obtain ⟨b1, b2, b3, b4, b5⟩ := ui (J 47 6).toNat (by omega)
    have hc := u7 g hg
    refine ⟨⟨?_, ?_, ?_, ?_, fun hh => ?_⟩, ?_, trivial⟩
    · rw [k 48 _ (by omega), b1]; exact a1.1
    · show mm_up (mm_up J2 49 (J 47 6).toNat (l.length : Nat)) 51 (J 47 6).toNat (J2 47 6 - J 47 6) 49 (J 47 6).toNat = (l.length : Nat)
      rw [up_ne (by decide), up_s]
    · rw [k 50 _ (by omega), b3]; exact a1.2.2.1
    · show mm_up (mm_up J2 49 (J 47 6).toNat (l.length : Nat)) 51 (J 47 6).toNat (J2 47 6 - J 47 6) 51 (J 47 6).toNat = 1 + ((fsz (D + 1) l : Nat) : Int)
      rw [up_s, u2]; omega
    · have hh' : (103 : Int) = 115 ∨ (103 : Int) = 114 := hh
      omega
    · rw [show (J 47 6).toNat + 1 = (J 47 6 + 1).toNat by omega]
      show cF g _ _ _ _ _ _ _ (D + 1) (lv + 1) l _
      refine cF_congr ?_ ?_ _ _ _ _ hc ?_
      · rw [kk 53 (by decide) (by decide)]; exact Int.le_refl _
      · intro j hj; rw [kk 54 (by decide) (by decide)]
      · intro j j1 j2
        rw [k 48 j (by omega), k 49 j (by omega), k 50 j (by omega), k 51 j (by omega), k 52 j (by omega)]
        exact ⟨rfl, rfl, rfl, rfl, rfl⟩
theorem tx_set {D : Nat} (hD : D ≤ 2) (hth : CTH L d t K R D) (h : TX t J R) (hp : 0 ≤ p ∧ p ≤ J 27 1) (hc : 0 ≤ J 47 6 ∧ 0 ≤ J 53 1 ∧ 4 * J 47 6 + J 53 1 + 3 ≤ p) :
    if t p ≠ 40 then EE (d + 2 * D + 6) 81 0 [some (.ref 46), some (vi (2 - (D : Int))), none, none, none] [] (SH L) (gt t J p) K R = ok (some (vi 0)) (SH L) (mm_up (gt t J p) 46 4 p) K R
    else if t (p + 1) = 41 then ∃ J', EE (d + 2 * D + 6) 81 0 [some (.ref 46), some (vi (2 - (D : Int))), none, none, none] [] (SH L) (gt t J p) K R = ok (some (vi 1)) (SH L) (gt t J' (p + 2)) K R ∧ PL (D + 2) (2 - (D : Int)) J J' ([((103, 0, ((J 53 1).toNat : Int)), ([] : List (Nd D)))] : List (Nd (D + 1))) []
    else match grS t (thS t D) 6 (p + 1) (J 53 1).toNat with
      | .error e => ∃ J', EE (d + 2 * D + 6) 81 0 [some (.ref 46), some (vi (2 - (D : Int))), none, none, none] [] (SH L) (gt t J p) K R = ok (some (vi 0)) (SH L) J' K R ∧ ER e J J'
      | .ok s => ∃ J', EE (d + 2 * D + 6) 81 0 [some (.ref 46), some (vi (2 - (D : Int))), none, none, none] [] (SH L) (gt t J p) K R = ok (some (vi 1)) (SH L) (gt t J' s.2.1) K R ∧ PL (D + 2) (2 - (D : Int)) J J' ([((103, (s.1.length : Nat), ((J 53 1).toNat : Int)), s.1)] : List (Nd (D + 1))) s.2.2 := by
  have hR := h.1
  have hn := h.2.2.1
  have hN := TX_N h
  have s46 : (SH L)[46]? = some (8, 5) := rfl; have r46_0 : R 46 0 = some 47 := rr_lk hR rfl; have s47 : (SH L)[47]? = some (9, 7) := rfl; have r47_0 : R 47 0 = some 48 := rr_lk hR rfl; have r47_1 : R 47 1 = some 49 := rr_lk hR rfl; have r47_2 : R 47 2 = some 50 := rr_lk hR rfl; have r47_3 : R 47 3 = some 51 := rr_lk hR rfl; have r47_4 : R 47 4 = some 52 := rr_lk hR rfl; have r47_5 : R 47 5 = some 53 := rr_lk hR rfl
  have hfa := fun d J p => tx_faulty (L := L) (d := d) (J := J) (K := K) (R := R) (p := p)
  have ho1 := tx_over (L := L) (d := d + 2 * D + 3) (K := K) (TX_gt (p := p) h) (y := 40) (by rw [gt_2]; omega) (by rw [gt_2, gt_3]) (by omega)
  rw [gt_2, gt_gt] at ho1
  by_cases c1 : t p = 40
  · rw [if_neg (not_not_intro c1)]
    rw [if_pos c1] at ho1
    have hp1 := TN_lt hN c1 (by omega)
    have hap := tx_append (L := L) (d := d + 2 * D + 4) (t := t) (p := p + 1) (x := 103) (y := 2 - (D : Int)) (J := J) (K := K) hR (by omega)
    have hTa := TX_an (ty := 103) (lv := 2 - (D : Int)) h
    have e27 : an J 103 (2 - (D : Int)) 27 = J 27 := an_o (by decide)
    have e53 : an J 103 (2 - (D : Int)) 53 = J 53 := an_o (by decide)
    have e47 : an J 103 (2 - (D : Int)) 47 6 = J 47 6 + 1 := an_47
    have ho2 := tx_over (L := L) (d := d + 2 * D + 3) (K := K) (TX_gt (p := p + 1) hTa) (y := 41) (by rw [gt_2]; omega) (by rw [gt_2, gt_3]) (by omega)
    rw [gt_2, gt_gt] at ho2
    have hcl : ∀ (J2 : mJ) (q m : Int), (0 ≤ J2 47 6 ∧ J2 47 6 ≤ 40) → J 47 6 < J2 47 6 → EE (d + 2 * D + 5) 89 0 [some (.ref 47), some (vi (J 47 6)), some (vi m)] [] (SH L) (gt t J2 q) K R = ok none (SH L) (gt t (mm_up (mm_up J2 49 (J 47 6).toNat m) 51 (J 47 6).toNat (J2 47 6 - J 47 6)) q) K R := by
      intro J2 q m h1 h2
      have := t_closeGroup (d := d + 2 * D + 4) (J := gt t J2 q) (K := K) (i := J 47 6) (x := m) (isT_47 (L := L) hR) (by rw [gt_o (by decide)]; exact h1) (by rw [gt_o (by decide)]; omega)
      rw [this, gt_o (show (47 : Nat) ≠ 46 by decide), gt_up (by decide), gt_up (by decide)]
    by_cases c2 : t (p + 1) = 41
    · rw [if_pos c2] at ho2 ⊢
      have hp2 := TN_lt hN c2 (by omega)
      have hc1 := hcl (an J 103 (2 - (D : Int))) (p + 1 + 1) 0 (by omega) (by omega)
      refine ⟨_, ?_, PL_group (l := []) (c := []) hc.1 hc.2.1 PL_nil⟩
      rw [show p + 2 = p + 1 + 1 by omega]
      simp (disch := first | assumption | omega | exact bi_lo | exact bi_hi | exact bi_01 | exact jcmp_lo | exact jcmp_hi | exact (jor_r _ _).1 | exact (jor_r _ _).2 | exact (jand_r _ _).1 | exact (jand_r _ _).2) only [x81_0, x81_1, x81_3, x81_6, x81_18, x81_19, x81_22, x81_24, x81_25, x81_28, x81_29, x81_30, x81_32, x81_35, x81_36, x81_37, x81_39, x81_41, x81_43, x81_46, x81_47, x81_106, x81_107, x81_110, x81_111, x81_113, x81_116, x81_117, kb_some, kb_none, clr_vi, clr_ref, clr_null, clr_none, va_rf_some, va_rf_none, ↓bi_ite_t, ↓bi_ite_f, ↓jc_lt_t, ↓jc_lt_f, ↓jc_gt_t, ↓jc_gt_f, ↓jc_le_t, ↓jc_le_f, ↓jc_ge_t, ↓jc_ge_f, ↓jc_eq_t, ↓jc_eq_f, ↓if_pos, ↓if_neg, ho1, hap, ho2, hc1]
      rfl
    · rw [if_neg c2] at ho2 ⊢
      have hl := l_cset (L := L) (d := d) (K := K) (i := (J 47 6).toNat) hR hD hth 6 (p + 1) (an J 103 (2 - (D : Int))) hTa (by rw [e27]; omega) (by rw [e53]; omega) (by omega) (by omega)
      have hto := grS_TG (t := t) (n := J 27 1) hN (thS_TO hN D) 6 (p + 1) (J 53 1).toNat
      rw [e53, Int.toNat_of_nonneg hc.1, show (6 : Int) - ((6 : Nat) : Int) = 0 by omega] at hl
      have go : ∀ X, EE (d + 2 * D + 6) 81 39 [some (.ref 46), some (vi (2 - (D : Int))), some (vi (J 47 6)), some (vi 0), some (vi 0)] [] (SH L) (gt t (an J 103 (2 - (D : Int))) (p + 1)) K R = X → EE (d + 2 * D + 6) 81 0 [some (.ref 46), some (vi (2 - (D : Int))), none, none, none] [] (SH L) (gt t J p) K R = X := by
        intro X hX
        simp (disch := first | assumption | omega | exact bi_lo | exact bi_hi | exact bi_01 | exact jcmp_lo | exact jcmp_hi | exact (jor_r _ _).1 | exact (jor_r _ _).2 | exact (jand_r _ _).1 | exact (jand_r _ _).2) only [x81_0, x81_1, x81_3, kb_some, kb_none, clr_vi, clr_ref, clr_null, clr_none, va_rf_some, va_rf_none, ho1]
        simp (disch := first | assumption | omega | exact bi_lo | exact bi_hi | exact bi_01 | exact jcmp_lo | exact jcmp_hi | exact (jor_r _ _).1 | exact (jor_r _ _).2 | exact (jand_r _ _).1 | exact (jand_r _ _).2) only [x81_6, x81_18, x81_19, x81_22, x81_24, x81_25, x81_28, x81_29, x81_30, x81_32, x81_35, x81_36, x81_37, kb_some, kb_none, clr_vi, clr_ref, clr_null, clr_none, va_rf_some, va_rf_none, ↓bi_ite_t, ↓bi_ite_f, ↓jc_lt_t, ↓jc_lt_f, ↓jc_gt_t, ↓jc_gt_f, ↓jc_le_t, ↓jc_le_f, ↓jc_ge_t, ↓jc_ge_f, ↓jc_eq_t, ↓jc_eq_f, ↓if_pos, ↓if_neg, hap, ho2]
        exact hX
      cases hs : grS t (thS t D) 6 (p + 1) (J 53 1).toNat with
      | error e =>
        rw [hs] at hl
        obtain ⟨J', j1, j2⟩ := hl
        refine ⟨J', go _ j1, ⟨fun a ha => ?_, j2.2⟩⟩
        rw [j2.1 a ha, an_o (by omega)]
      | ok s =>
        rw [hs] at hl
        obtain ⟨J', j1, j2⟩ := hl
        have hg := hto s (by omega) hs
        obtain ⟨g1, g2, g3, -⟩ := hg
        have e6 := j2.2.1
        have hc1 := hcl J' s.2.1 (0 + (s.1.length : Nat)) (by omega) (by omega)
        rw [show (3 : Int) - (D : Int) = 2 - (D : Int) + 1 by omega] at j2
        refine ⟨_, ?_, PL_group hc.1 hc.2.1 j2⟩
        rw [go _ j1]
        simp (disch := first | assumption | omega | exact bi_lo | exact bi_hi | exact bi_01 | exact jcmp_lo | exact jcmp_hi | exact (jor_r _ _).1 | exact (jor_r _ _).2 | exact (jand_r _ _).1 | exact (jand_r _ _).2) only [x81_106, x81_107, x81_110, x81_111, x81_113, x81_116, x81_117, kb_some, kb_none, clr_vi, clr_ref, clr_null, clr_none, va_rf_some, va_rf_none, ↓bi_ite_t, ↓bi_ite_f, ↓jc_lt_t, ↓jc_lt_f, ↓jc_gt_t, ↓jc_gt_f, ↓jc_le_t, ↓jc_le_f, ↓jc_ge_t, ↓jc_ge_f, ↓jc_eq_t, ↓jc_eq_f, ↓if_pos, ↓if_neg, hc1]
        rw [Int.zero_add]
  · rw [if_pos c1]
    rw [if_neg c1] at ho1
    simp (disch := first | assumption | omega | exact bi_lo | exact bi_hi | exact bi_01 | exact jcmp_lo | exact jcmp_hi | exact (jor_r _ _).1 | exact (jor_r _ _).2 | exact (jand_r _ _).1 | exact (jand_r _ _).2) only [x81_0, x81_1, x81_3, x81_6, x81_9, x81_10, x81_11, x81_14, x81_17, kb_some, kb_none, clr_vi, clr_ref, clr_null, clr_none, va_rf_some, va_rf_none, ↓bi_ite_t, ↓bi_ite_f, ↓jc_lt_t, ↓jc_lt_f, ↓jc_gt_t, ↓jc_gt_f, ↓jc_le_t, ↓jc_le_f, ↓jc_ge_t, ↓jc_ge_f, ↓jc_eq_t, ↓jc_eq_f, ↓if_pos, ↓if_neg, ho1, gt_2, hfa]
theorem ct_D (hR : wfR R) (D : Nat) (hD : D ≤ 3) (hg : ∀ D', D = D' + 1 → CTH L d t K R D') : CTH L d t K R D := by
  intro J p h hp hc
  have s46 : (SH L)[46]? = some (8, 5) := rfl; have r46_0 : R 46 0 = some 47 := rr_lk hR rfl
  have hn := h.2.2.1
  have hN := TX_N h
  have hfa := fun d J p => tx_faulty (L := L) (d := d) (J := J) (K := K) (R := R) (p := p)
  obtain ⟨k', hw⟩ := l_word (L := L) (d := d + 2 * D + 3) (K := K) h (x1 := 3 - (D : Int)) (x2 := p) 100 0 p (by omega) (by omega) hp.1 hp.2
  have hle := we_le (t := t) 100 p
  have hwn := we_n hN 100 p hp.2
  have hwd := fun d a b c hL => tx_isWord (L := L) (d := d) (K := K) (TX_gt (p := we t 100 p) h) (s := p) (a := a) (b := b) (c := c) gt_2 (by omega) (by omega) hL rfl
  have w1 := fun d => hwd d 110 117 109 (by decide)
  have w2 := fun d => hwd d 115 116 114 (by decide)
  have w3 := fun d => hwd d 114 97 119 (by decide)
  have w4 := fun d => hwd d 115 101 116 (by decide)
  have hq : ((J 53 1).toNat : Int) = J 53 1 := Int.toNat_of_nonneg hc.2.1
  have go : ∀ X, EE (d + 2 * D + 5) 75 36 [some (.ref 46), some (vi (3 - (D : Int))), some (vi p), some (vi k')] [] (SH L) (gt t J (we t 100 p)) K R = X → EE (d + 2 * D + 5) 75 0 [some (.ref 46), some (vi (3 - (D : Int))), none, none] [] (SH L) (gt t J p) K R = X := by
    intro X hX
    simp (disch := first | assumption | omega | exact bi_lo | exact bi_hi | exact bi_01 | exact jcmp_lo | exact jcmp_hi | exact (jor_r _ _).1 | exact (jor_r _ _).2 | exact (jand_r _ _).1 | exact (jand_r _ _).2) only [x75_0, x75_1, x75_4, x75_5, x75_6, kb_some, kb_none, clr_vi, clr_ref, clr_null, clr_none, va_rf_some, va_rf_none, gt_2]
    rw [hw]
    exact hX
  unfold thS
  by_cases c1 : wd3 t p 110 117 109
  · rw [if_pos c1]
    have e3 : we t 100 p = p + 3 := ((we_wd (by decide) (by decide) (by decide)).mpr c1).1
    rw [e3] at w1 go
    have b1 := w1 (d + 2 * D + 3)
    rw [bi_t c1] at b1
    have hnu := tx_number (L := L) (d := d + 2 * D + 1) (K := K) (lv := 3 - (D : Int)) (p := p + 3) h (by omega) (by omega)
    rw [show p + 3 + 1 = p + 4 by omega] at hnu
    have gn : ∀ X, EE (d + 2 * D + 4) 77 0 [some (.ref 46), some (vi (3 - (D : Int))), none, none, none] [] (SH L) (gt t J (p + 3)) K R = X → (∀ v J', X = ok (some (vi v)) (SH L) J' K R → (v = 0 ∨ v = 1) → EE (d + 2 * D + 5) 75 0 [some (.ref 46), some (vi (3 - (D : Int))), none, none] [] (SH L) (gt t J p) K R = X) := by
      intro X hX v J' hv h01
      refine go _ ?_
      rw [hv] at hX ⊢
      simp (disch := first | assumption | omega | exact bi_lo | exact bi_hi | exact bi_01 | exact jcmp_lo | exact jcmp_hi | exact (jor_r _ _).1 | exact (jor_r _ _).2 | exact (jand_r _ _).1 | exact (jand_r _ _).2) only [x75_36, x75_37, x75_38, x75_40, x75_42, x75_44, x75_47, x75_50, x75_51, x75_52, x75_55, kb_some, kb_none, clr_vi, clr_ref, clr_null, clr_none, va_rf_some, va_rf_none, ↓bi_ite_t, ↓bi_ite_f, ↓jc_lt_t, ↓jc_lt_f, ↓jc_gt_t, ↓jc_gt_f, ↓jc_le_t, ↓jc_le_f, ↓jc_ge_t, ↓jc_ge_f, ↓jc_eq_t, ↓jc_eq_f, ↓if_pos, ↓if_neg, b1, hX]
    by_cases c2 : t (p + 3) ≠ 32
    · rw [if_pos c2] at hnu ⊢
      exact ⟨_, gn _ hnu _ _ rfl (Or.inl rfl), ER_up (t := t) (J := J) (p := p + 3) (fun _ _ => rfl) (by omega) (by omega)⟩
    · rw [if_neg c2] at hnu ⊢
      by_cases c3 : isD (t (p + 4 + (if t (p + 4) = 45 then 1 else 0)))
      · rw [if_pos c3] at hnu ⊢
        simp only
        rw [gt_up (by decide)] at hnu
        exact ⟨_, gn _ hnu _ _ rfl (Or.inr rfl), PL_num hc.1 hc.2.1⟩
      · rw [if_neg c3] at hnu ⊢
        exact ⟨_, gn _ hnu _ _ rfl (Or.inl rfl), ER_up (t := t) (J := J) (fun _ _ => rfl) (by omega) (by omega)⟩
  rw [if_neg c1]
  have b1 := w1 (d + 2 * D + 3)
  rw [bi_f c1] at b1
  by_cases c2 : wd3 t p 115 116 114
  · rw [if_pos c2]
    have e3 : we t 100 p = p + 3 := ((we_wd (by decide) (by decide) (by decide)).mpr c2).1
    rw [e3] at w2 b1 go
    have b2 := w2 (d + 2 * D + 3)
    rw [bi_t c2] at b2
    have hnu := tx_words (L := L) (d := d + 2 * D + 1) (K := K) (lv := 3 - (D : Int)) (p := p + 3) h (by omega) (by omega) (by omega)
    rw [show p + 3 + 1 = p + 4 by omega] at hnu
    by_cases c3 : t (p + 3) ≠ 32
    · rw [if_pos c3] at hnu ⊢
      refine ⟨_, go _ ?_, ER_up (t := t) (J := J) (p := p + 3) (fun _ _ => rfl) (by omega) (by omega)⟩
      simp (disch := first | assumption | omega | exact bi_lo | exact bi_hi | exact bi_01 | exact jcmp_lo | exact jcmp_hi | exact (jor_r _ _).1 | exact (jor_r _ _).2 | exact (jand_r _ _).1 | exact (jand_r _ _).2) only [x75_36, x75_37, x75_38, x75_40, x75_42, x75_44, x75_47, x75_50, x75_51, x75_52, x75_55, x75_56, x75_57, x75_58, x75_60, x75_62, x75_64, x75_67, x75_70, x75_71, x75_72, x75_75, kb_some, kb_none, clr_vi, clr_ref, clr_null, clr_none, va_rf_some, va_rf_none, ↓bi_ite_t, ↓bi_ite_f, ↓jc_lt_t, ↓jc_lt_f, ↓jc_gt_t, ↓jc_gt_f, ↓jc_le_t, ↓jc_le_f, ↓jc_ge_t, ↓jc_ge_f, ↓jc_eq_t, ↓jc_eq_f, ↓if_pos, ↓if_neg, b1, b2, hnu]
    · rw [if_neg c3] at hnu ⊢
      simp only
      refine ⟨tkL (J 47 6).toNat (an J 115 (3 - (D : Int))) (rowL t (lc t 20 (p + 4)) (p + 4)), go _ ?_, ?_⟩
      rotate_left
      · have := PL_row (lv := 3 - (D : Int)) (D := D) (ty := 115) (c := rowL t (lc t 20 (p + 4)) (p + 4)) hc.1 hc.2.1
        rw [rowL_len] at this
        exact this
      · simp (disch := first | assumption | omega | exact bi_lo | exact bi_hi | exact bi_01 | exact jcmp_lo | exact jcmp_hi | exact (jor_r _ _).1 | exact (jor_r _ _).2 | exact (jand_r _ _).1 | exact (jand_r _ _).2) only [x75_36, x75_37, x75_38, x75_40, x75_42, x75_44, x75_47, x75_50, x75_51, x75_52, x75_55, x75_56, x75_57, x75_58, x75_60, x75_62, x75_64, x75_67, x75_70, x75_71, x75_72, x75_75, kb_some, kb_none, clr_vi, clr_ref, clr_null, clr_none, va_rf_some, va_rf_none, ↓bi_ite_t, ↓bi_ite_f, ↓jc_lt_t, ↓jc_lt_f, ↓jc_gt_t, ↓jc_gt_f, ↓jc_le_t, ↓jc_le_f, ↓jc_ge_t, ↓jc_ge_f, ↓jc_eq_t, ↓jc_eq_f, ↓if_pos, ↓if_neg, b1, b2, hnu]
  rw [if_neg c2]
  have b2 := w2 (d + 2 * D + 3)
  rw [bi_f c2] at b2
  by_cases c3 : wd3 t p 114 97 119
  · rw [if_pos c3]
    have e3 : we t 100 p = p + 3 := ((we_wd (by decide) (by decide) (by decide)).mpr c3).1
    rw [e3] at w3 b1 b2 go
    have b3 := w3 (d + 2 * D + 3)
    rw [bi_t c3] at b3
    have hnu := tx_raw (L := L) (d := d + 2 * D) (K := K) (lv := 3 - (D : Int)) (p := p + 3) h (by omega) (by omega) (by omega)
    rw [show p + 3 + 1 = p + 4 by omega] at hnu
    by_cases c4 : t (p + 3) ≠ 32
    · rw [if_pos c4] at hnu ⊢
      refine ⟨_, go _ ?_, ER_up (t := t) (J := J) (p := p + 3) (fun _ _ => rfl) (by omega) (by omega)⟩
      simp (disch := first | assumption | omega | exact bi_lo | exact bi_hi | exact bi_01 | exact jcmp_lo | exact jcmp_hi | exact (jor_r _ _).1 | exact (jor_r _ _).2 | exact (jand_r _ _).1 | exact (jand_r _ _).2) only [x75_36, x75_37, x75_38, x75_40, x75_42, x75_44, x75_47, x75_50, x75_51, x75_52, x75_55, x75_56, x75_57, x75_58, x75_60, x75_62, x75_64, x75_67, x75_70, x75_71, x75_72, x75_75, x75_76, x75_77, x75_78, x75_80, x75_82, x75_84, x75_87, x75_90, x75_91, x75_92, x75_95, kb_some, kb_none, clr_vi, clr_ref, clr_null, clr_none, va_rf_some, va_rf_none, ↓bi_ite_t, ↓bi_ite_f, ↓jc_lt_t, ↓jc_lt_f, ↓jc_gt_t, ↓jc_gt_f, ↓jc_le_t, ↓jc_le_f, ↓jc_ge_t, ↓jc_ge_f, ↓jc_eq_t, ↓jc_eq_f, ↓if_pos, ↓if_neg, b1, b2, b3, hnu]
    rw [if_neg c4] at hnu ⊢
    by_cases c5 : isD (t (p + 4))
    · rw [if_pos c5] at hnu ⊢
      cases hs : rwF t 19 (p + 4) with
      | error e =>
        rw [hs] at hnu
        obtain ⟨J', j1, j2⟩ := hnu
        refine ⟨J', go _ ?_, j2⟩
        simp (disch := first | assumption | omega | exact bi_lo | exact bi_hi | exact bi_01 | exact jcmp_lo | exact jcmp_hi | exact (jor_r _ _).1 | exact (jor_r _ _).2 | exact (jand_r _ _).1 | exact (jand_r _ _).2) only [x75_36, x75_37, x75_38, x75_40, x75_42, x75_44, x75_47, x75_50, x75_51, x75_52, x75_55, x75_56, x75_57, x75_58, x75_60, x75_62, x75_64, x75_67, x75_70, x75_71, x75_72, x75_75, x75_76, x75_77, x75_78, x75_80, x75_82, x75_84, x75_87, x75_90, x75_91, x75_92, x75_95, kb_some, kb_none, clr_vi, clr_ref, clr_null, clr_none, va_rf_some, va_rf_none, ↓bi_ite_t, ↓bi_ite_f, ↓jc_lt_t, ↓jc_lt_f, ↓jc_gt_t, ↓jc_gt_f, ↓jc_le_t, ↓jc_le_f, ↓jc_ge_t, ↓jc_ge_f, ↓jc_eq_t, ↓jc_eq_f, ↓if_pos, ↓if_neg, b1, b2, b3, j1]
      | ok s =>
        rw [hs] at hnu
        simp only at hnu ⊢
        refine ⟨_, go _ ?_, PL_row hc.1 hc.2.1⟩
        rotate_left
        simp (disch := first | assumption | omega | exact bi_lo | exact bi_hi | exact bi_01 | exact jcmp_lo | exact jcmp_hi | exact (jor_r _ _).1 | exact (jor_r _ _).2 | exact (jand_r _ _).1 | exact (jand_r _ _).2) only [x75_36, x75_37, x75_38, x75_40, x75_42, x75_44, x75_47, x75_50, x75_51, x75_52, x75_55, x75_56, x75_57, x75_58, x75_60, x75_62, x75_64, x75_67, x75_70, x75_71, x75_72, x75_75, x75_76, x75_77, x75_78, x75_80, x75_82, x75_84, x75_87, x75_90, x75_91, x75_92, x75_95, kb_some, kb_none, clr_vi, clr_ref, clr_null, clr_none, va_rf_some, va_rf_none, ↓bi_ite_t, ↓bi_ite_f, ↓jc_lt_t, ↓jc_lt_f, ↓jc_gt_t, ↓jc_gt_f, ↓jc_le_t, ↓jc_le_f, ↓jc_ge_t, ↓jc_ge_f, ↓jc_eq_t, ↓jc_eq_f, ↓if_pos, ↓if_neg, b1, b2, b3, hnu]
    · rw [if_neg c5] at hnu ⊢
      simp only
      refine ⟨_, go _ ?_, PL_row (c := []) hc.1 hc.2.1⟩
      rotate_left
      simp (disch := first | assumption | omega | exact bi_lo | exact bi_hi | exact bi_01 | exact jcmp_lo | exact jcmp_hi | exact (jor_r _ _).1 | exact (jor_r _ _).2 | exact (jand_r _ _).1 | exact (jand_r _ _).2) only [x75_36, x75_37, x75_38, x75_40, x75_42, x75_44, x75_47, x75_50, x75_51, x75_52, x75_55, x75_56, x75_57, x75_58, x75_60, x75_62, x75_64, x75_67, x75_70, x75_71, x75_72, x75_75, x75_76, x75_77, x75_78, x75_80, x75_82, x75_84, x75_87, x75_90, x75_91, x75_92, x75_95, kb_some, kb_none, clr_vi, clr_ref, clr_null, clr_none, va_rf_some, va_rf_none, ↓bi_ite_t, ↓bi_ite_f, ↓jc_lt_t, ↓jc_lt_f, ↓jc_gt_t, ↓jc_gt_f, ↓jc_le_t, ↓jc_le_f, ↓jc_ge_t, ↓jc_ge_f, ↓jc_eq_t, ↓jc_eq_f, ↓if_pos, ↓if_neg, b1, b2, b3, hnu]
      rfl
  rw [if_neg c3]
  have b3 := w3 (d + 2 * D + 3)
  rw [bi_f c3] at b3
  by_cases c4 : wd3 t p 115 101 116
  · rw [if_pos c4]
    have b4 := w4 (d + 2 * D + 3)
    rw [bi_t c4] at b4
    cases D with
    | zero =>
      simp only
      refine ⟨_, go _ ?_, ER_up (t := t) (J := J) (p := we t 100 p) (fun _ _ => rfl) (by omega) (by omega)⟩
      rotate_left
      simp (disch := first | assumption | omega | exact bi_lo | exact bi_hi | exact bi_01 | exact jcmp_lo | exact jcmp_hi | exact (jor_r _ _).1 | exact (jor_r _ _).2 | exact (jand_r _ _).1 | exact (jand_r _ _).2) only [x75_36, x75_37, x75_38, x75_40, x75_42, x75_44, x75_47, x75_50, x75_51, x75_52, x75_55, x75_56, x75_57, x75_58, x75_60, x75_62, x75_64, x75_67, x75_70, x75_71, x75_72, x75_75, x75_76, x75_77, x75_78, x75_80, x75_82, x75_84, x75_87, x75_90, x75_91, x75_92, x75_95, x75_96, x75_97, x75_98, x75_100, x75_102, x75_104, x75_107, x75_110, x75_111, x75_112, x75_115, x75_116, x75_117, x75_120, x75_121, x75_122, x75_123, x75_126, kb_some, kb_none, clr_vi, clr_ref, clr_null, clr_none, va_rf_some, va_rf_none, ↓bi_ite_t, ↓bi_ite_f, ↓jc_lt_t, ↓jc_lt_f, ↓jc_gt_t, ↓jc_gt_f, ↓jc_le_t, ↓jc_le_f, ↓jc_ge_t, ↓jc_ge_f, ↓jc_eq_t, ↓jc_eq_f, ↓if_pos, ↓if_neg, b1, b2, b3, b4, hfa]
    | succ D' =>
      simp only
      have e3 : we t 100 p = p + 3 := ((we_wd (by decide) (by decide) (by decide)).mpr c4).1
      rw [e3] at b1 b2 b3 b4 go
      have hst := tx_set (L := L) (d := d) (K := K) (p := p + 3) (D := D') (by omega) (hg D' rfl) h (by omega) (by omega)
      rw [show p + 3 + 1 = p + 4 by omega, show p + 3 + 2 = p + 5 by omega] at hst
      rw [show (3 : Int) - ((D' + 1 : Nat) : Int) = 2 - (D' : Int) by omega, show d + 2 * (D' + 1) + 5 = d + 2 * D' + 7 by omega] at go ⊢
      rw [show d + 2 * (D' + 1) + 3 + 1 = d + 2 * D' + 6 by omega] at b1 b2 b3 b4
      have fin : ∀ v J', (v = 0 ∨ v = 1) → EE (d + 2 * D' + 6) 81 0 [some (.ref 46), some (vi (2 - (D' : Int))), none, none, none] [] (SH L) (gt t J (p + 3)) K R = ok (some (vi v)) (SH L) J' K R → EE (d + 2 * D' + 7) 75 0 [some (.ref 46), some (vi (2 - (D' : Int))), none, none] [] (SH L) (gt t J p) K R = ok (some (vi v)) (SH L) J' K R := by
        intro v J' hv hX
        refine go _ ?_
        simp (disch := first | assumption | omega | exact bi_lo | exact bi_hi | exact bi_01 | exact jcmp_lo | exact jcmp_hi | exact (jor_r _ _).1 | exact (jor_r _ _).2 | exact (jand_r _ _).1 | exact (jand_r _ _).2) only [x75_36, x75_37, x75_38, x75_40, x75_42, x75_44, x75_47, x75_50, x75_51, x75_52, x75_55, x75_56, x75_57, x75_58, x75_60, x75_62, x75_64, x75_67, x75_70, x75_71, x75_72, x75_75, x75_76, x75_77, x75_78, x75_80, x75_82, x75_84, x75_87, x75_90, x75_91, x75_92, x75_95, x75_96, x75_97, x75_98, x75_100, x75_102, x75_104, x75_107, x75_110, x75_111, x75_112, x75_115, x75_116, x75_117, x75_120, kb_some, kb_none, clr_vi, clr_ref, clr_null, clr_none, va_rf_some, va_rf_none, ↓bi_ite_t, ↓bi_ite_f, ↓jc_lt_t, ↓jc_lt_f, ↓jc_gt_t, ↓jc_gt_f, ↓jc_le_t, ↓jc_le_f, ↓jc_ge_t, ↓jc_ge_f, ↓jc_eq_t, ↓jc_eq_f, ↓if_pos, ↓if_neg, b1, b2, b3, b4, hX]
      by_cases c5 : t (p + 3) ≠ 40
      · rw [if_pos c5] at hst ⊢
        exact ⟨_, fin _ _ (Or.inl rfl) hst, ER_up (t := t) (J := J) (p := p + 3) (fun _ _ => rfl) (by omega) (by omega)⟩
      rw [if_neg c5] at hst ⊢
      by_cases c6 : t (p + 4) = 41
      · rw [if_pos c6] at hst ⊢
        obtain ⟨J', j1, j2⟩ := hst
        exact ⟨J', fin _ _ (Or.inr rfl) j1, j2⟩
      rw [if_neg c6] at hst ⊢
      cases hs : grS t (thS t D') 6 (p + 4) (J 53 1).toNat with
      | error e =>
        rw [hs] at hst
        obtain ⟨J', j1, j2⟩ := hst
        exact ⟨J', fin _ _ (Or.inl rfl) j1, j2⟩
      | ok s =>
        rw [hs] at hst
        obtain ⟨J', j1, j2⟩ := hst
        exact ⟨J', fin _ _ (Or.inr rfl) j1, j2⟩
  · rw [if_neg c4]
    have b4 := w4 (d + 2 * D + 3)
    rw [bi_f c4] at b4
    refine ⟨_, go _ ?_, ER_up (t := t) (J := J) (p := we t 100 p) (fun _ _ => rfl) (by omega) (by omega)⟩
    rotate_left
    simp (disch := first | assumption | omega | exact bi_lo | exact bi_hi | exact bi_01 | exact jcmp_lo | exact jcmp_hi | exact (jor_r _ _).1 | exact (jor_r _ _).2 | exact (jand_r _ _).1 | exact (jand_r _ _).2) only [x75_36, x75_37, x75_38, x75_40, x75_42, x75_44, x75_47, x75_50, x75_51, x75_52, x75_55, x75_56, x75_57, x75_58, x75_60, x75_62, x75_64, x75_67, x75_70, x75_71, x75_72, x75_75, x75_76, x75_77, x75_78, x75_80, x75_82, x75_84, x75_87, x75_90, x75_91, x75_92, x75_95, x75_96, x75_97, x75_98, x75_100, x75_102, x75_104, x75_107, x75_121, x75_122, x75_123, x75_126, kb_some, kb_none, clr_vi, clr_ref, clr_null, clr_none, va_rf_some, va_rf_none, ↓bi_ite_t, ↓bi_ite_f, ↓jc_lt_t, ↓jc_lt_f, ↓jc_gt_t, ↓jc_gt_f, ↓jc_le_t, ↓jc_le_f, ↓jc_ge_t, ↓jc_ge_f, ↓jc_eq_t, ↓jc_eq_f, ↓if_pos, ↓if_neg, b1, b2, b3, b4, hfa]
theorem ct_all (hR : wfR R) : ∀ (D : Nat), D ≤ 3 → CTH L d t K R D := by
  intro D
  induction D with
  | zero => exact fun hd => ct_D hR 0 hd (fun D' h => absurd h (by omega))
  | succ D ih =>
    intro hd
    refine ct_D hR (D + 1) hd ?_
    intro D' h'
    have e : D = D' := by omega
    subst e
    exact ih (by omega)
end
