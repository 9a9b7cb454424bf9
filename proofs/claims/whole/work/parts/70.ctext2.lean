/-! the class reads a text: numbers, words, raw -/
def an (J : mJ) (ty lv : Int) : mJ := mm_up (mm_up (mm_up (mm_up (mm_up (mm_up J 48 (J 47 6).toNat ty) 49 (J 47 6).toNat 0) 50 (J 47 6).toNat lv) 51 (J 47 6).toNat 1) 52 (J 47 6).toNat (J 53 1)) 47 6 (J 47 6 + 1)
def tk1 (i : Nat) (J : mJ) (x : Int) : mJ := mm_up (mm_up (mm_up J 54 (J 53 1).toNat x) 53 1 (J 53 1 + 1)) 49 i (J 49 i + 1)
def tkL (i : Nat) (J : mJ) (l : List Int) : mJ := List.foldl (tk1 i) J l
section
variable {t : Int → Int} {J : mJ} {p ty lv x : Int} {i : Nat} {l l' : List Int}
theorem an_gt : an (gt t J p) ty lv = gt t (an J ty lv) p := by
  funext a j
  by_cases h : a = 46
  · subst h; simp [an, gt, mm_up]
  · simp [an, gt, mm_up, h]
theorem tk_gt : tk1 i (gt t J p) x = gt t (tk1 i J x) p := by
  funext a j
  by_cases h : a = 46
  · subst h; simp [tk1, gt, mm_up]
  · simp [tk1, gt, mm_up, h]
theorem tkL_snoc : tk1 i (tkL i J l) x = tkL i J (l ++ [x]) := by unfold tkL; rw [List.foldl_append]; rfl
theorem tkL_cons : tkL i J (x :: l) = tkL i (tk1 i J x) l := rfl
theorem tk1_53 : tk1 i J x 53 1 = J 53 1 + 1 := by simp [tk1, mm_up]
theorem tk1_49 : tk1 i J x 49 i = J 49 i + 1 := by simp [tk1, mm_up]
theorem tk1_o {a j : Nat} (h : ¬ ((a = 54 ∧ j = (J 53 1).toNat) ∨ (a = 53 ∧ j = 1) ∨ (a = 49 ∧ j = i))) : tk1 i J x a j = J a j := by
  unfold tk1 mm_up
  rw [if_neg (by omega), if_neg (by omega), if_neg (by omega)]
theorem tkL_53 : ∀ {l : List Int} {J : mJ}, tkL i J l 53 1 = J 53 1 + l.length := by
  intro l
  induction l with
  | nil => intro J; simp [tkL]
  | cons x l ih => intro J; rw [tkL_cons, ih, tk1_53, List.length_cons]; omega
theorem tkL_49 : ∀ {l : List Int} {J : mJ}, tkL i J l 49 i = J 49 i + l.length := by
  intro l
  induction l with
  | nil => intro J; simp [tkL]
  | cons x l ih => intro J; rw [tkL_cons, ih, tk1_49, List.length_cons]; omega
theorem tkL_o {a j : Nat} : ∀ {l : List Int} {J : mJ}, 0 ≤ J 53 1 → ¬ ((a = 54 ∧ J 53 1 ≤ j) ∨ (a = 53 ∧ j = 1) ∨ (a = 49 ∧ j = i)) → tkL i J l a j = J a j := by
  intro l
  induction l with
  | nil => intro J h0 h; rfl
  | cons x l ih =>
    intro J h0 h
    have e := tk1_53 (i := i) (J := J) (x := x)
    rw [tkL_cons, ih (by omega) (by omega)]
    exact tk1_o (by omega)
theorem tkL_54 : ∀ {l : List Int} {J : mJ}, 0 ≤ J 53 1 → ∀ (k : Nat) (hk : k < l.length), tkL i J l 54 ((J 53 1).toNat + k) = l[k] := by
  intro l
  induction l with
  | nil => intro J h0 k hk; simp at hk
  | cons x l ih =>
    intro J h0 k hk
    have e := tk1_53 (i := i) (J := J) (x := x)
    rw [tkL_cons]
    cases k with
    | zero =>
      rw [tkL_o (by omega) (by omega)]
      rw [Nat.add_zero]
      show _ = x
      simp [tk1, mm_up]
    | succ k =>
      have := ih (J := tk1 i J x) (by omega) k (by simpa using hk)
      rw [e, show (J 53 1 + 1).toNat + k = (J 53 1).toNat + (k + 1) by omega] at this
      rw [this]; rfl
end
/-- the memory that a failed reading leaves -/
def ER (e : Int) (J J' : mJ) : Prop := (∀ a, ¬ (46 ≤ a ∧ a ≤ 54) → J' a = J a) ∧ J' 46 4 = e ∧ (0 ≤ J' 47 6 ∧ J' 47 6 ≤ 40) ∧ (0 ≤ J' 53 1 ∧ J' 53 1 ≤ 120)
section
variable {L d : Nat} {t : Int → Int} {J K : mJ} {R : mm_R} {p x y lv : Int} {i : Nat}
theorem ER_up {J0 : mJ} {q : Int} (hf : ∀ a, ¬ (46 ≤ a ∧ a ≤ 54) → J a = J0 a) (h1 : 0 ≤ J 47 6 ∧ J 47 6 ≤ 40) (h2 : 0 ≤ J 53 1 ∧ J 53 1 ≤ 120) : ER q J0 (mm_up (gt t J p) 46 4 q) := by
  refine ⟨fun a ha => ?_, up_s, ?_, ?_⟩
  · rw [up_ne (by omega), gt_o (by omega)]; exact hf a ha
  · rw [up_ne (by decide), gt_o (by decide)]; exact h1
  · rw [up_ne (by decide), gt_o (by decide)]; exact h2
theorem tx_append (hR : wfR R) (h47 : 0 ≤ J 47 6 ∧ J 47 6 < 40) : EE (d + 1) 86 0 [some (.ref 47), some (vi x), some (vi y)] [] (SH L) (gt t J p) K R = ok (some (vi (J 47 6))) (SH L) (gt t (an J x y) p) K R := by
  have := t_append (d := d) (J := gt t J p) (K := K) (x := x) (y := y) (isT_47 (L := L) hR) (by rw [gt_o (by decide)]; exact h47)
  rw [this, gt_o (show (47 : Nat) ≠ 46 by decide), ← an_gt]
  unfold an
  rw [gt_o (show (47 : Nat) ≠ 46 by decide)]
theorem tx_take (hR : wfR R) (h47 : (i : Int) < J 47 6 ∧ J 47 6 ≤ 40) (h53 : 0 ≤ J 53 1 ∧ J 53 1 < 120) : EE (d + 1) 88 0 [some (.ref 47), some (vi i), some (vi x)] [] (SH L) (gt t J p) K R = ok none (SH L) (gt t (tk1 i J x) p) K R := by
  have := t_takeByte (d := d) (J := gt t J p) (K := K) (x := x) (i := i) (isT_47 (L := L) hR) (by rw [gt_o (by decide)]; omega) (by rw [gt_o (by decide)]; exact h53) (by rw [gt_o (by decide)]; omega)
  rw [this, ← tk_gt, Int.toNat_natCast]
  rfl
theorem tx_number (h : TX t J R) (hp : 0 ≤ p ∧ p ≤ J 27 1) (h47 : 0 ≤ J 47 6 ∧ J 47 6 < 40) :
    EE (d + 3) 77 0 [some (.ref 46), some (vi lv), none, none, none] [] (SH L) (gt t J p) K R =
      if t p ≠ 32 then ok (some (vi 0)) (SH L) (mm_up (gt t J p) 46 4 p) K R
      else if isD (t (p + 1 + (if t (p + 1) = 45 then 1 else 0))) then
        ok (some (vi 1)) (SH L) (mm_up (gt t (an J 110 lv) (dg t 9 (p + 1 + (if t (p + 1) = 45 then 1 else 0)) 0).2) 49 (J 47 6).toNat (if t (p + 1) = 45 then -(dg t 9 (p + 1 + (if t (p + 1) = 45 then 1 else 0)) 0).1 else (dg t 9 (p + 1 + (if t (p + 1) = 45 then 1 else 0)) 0).1)) K R
      else ok (some (vi 0)) (SH L) (mm_up (gt t J (p + 1 + (if t (p + 1) = 45 then 1 else 0))) 46 4 (p + 1 + (if t (p + 1) = 45 then 1 else 0))) K R := by
  have hR := h.1
  have hn := h.2.2.1
  have hN := TX_N h
  have s46 : (SH L)[46]? = some (8, 5) := rfl; have r46_0 : R 46 0 = some 47 := rr_lk hR rfl; have s47 : (SH L)[47]? = some (9, 7) := rfl; have r47_0 : R 47 0 = some 48 := rr_lk hR rfl; have r47_1 : R 47 1 = some 49 := rr_lk hR rfl; have r47_2 : R 47 2 = some 50 := rr_lk hR rfl; have r47_3 : R 47 3 = some 51 := rr_lk hR rfl; have r47_4 : R 47 4 = some 52 := rr_lk hR rfl; have r47_5 : R 47 5 = some 53 := rr_lk hR rfl
  have hfa := fun d J p => tx_faulty (L := L) (d := d) (J := J) (K := K) (R := R) (p := p)
  have ho1 := tx_over (L := L) (d := d) (K := K) (TX_gt (p := p) h) (y := 32) (by rw [gt_2]; omega) (by rw [gt_2, gt_3]) (by omega)
  rw [gt_2, gt_gt] at ho1
  by_cases c1 : t p = 32
  · rw [if_neg (not_not_intro c1)]
    rw [if_pos c1] at ho1
    have hp1 := TN_lt hN c1 (by omega)
    have ho2 := tx_over (L := L) (d := d) (K := K) (TX_gt (p := p + 1) h) (y := 45) (by rw [gt_2]; omega) (by rw [gt_2, gt_3]) (by omega)
    rw [gt_2, gt_gt] at ho2
    have key : ∀ (b q : Int), (b = 0 ∨ b = 1) → q ≤ J 27 1 → 0 ≤ q → EE (d + 3) 77 25 [some (.ref 46), some (vi lv), some (vi b), none, none] [] (SH L) (gt t J q) K R = if isD (t q) then ok (some (vi 1)) (SH L) (mm_up (gt t (an J 110 lv) (dg t 9 q 0).2) 49 (J 47 6).toNat (if b = 1 then -(dg t 9 q 0).1 else (dg t 9 q 0).1)) K R else ok (some (vi 0)) (SH L) (mm_up (gt t J q) 46 4 q) K R := by
      intro b q hb hq hq0
      have hl := fun d => tx_isD (L := L) (d := d) (K := K) (TX_gt (p := q) h) (p := q) gt_3
      by_cases c : isD (t q)
      · rw [if_pos c]
        rw [bi_t c] at hl
        obtain ⟨k', e⟩ := l_digits (L := L) (d := d + 1) (K := K) h (x1 := lv) (x2 := b) 9 0 q 0 (by omega) (by omega) hq0 hq
        have hap := tx_append (L := L) (d := d + 1) (t := t) (p := (dg t 9 q 0).2) (x := 110) (y := lv) (K := K) hR h47
        have e6 : an J 110 lv 47 6 = J 47 6 + 1 := up_s
        have hbw := fun v => t_becomeWorth (d := d + 1) (J := gt t (an J 110 lv) (dg t 9 q 0).2) (K := K) (i := J 47 6) (x := v) (isT_47 (L := L) hR) (by rw [gt_o (by decide)]; omega) (by omega)
        rw [gt_o (show (47 : Nat) ≠ 46 by decide)] at hbw
        simp only [if_pos (show 0 ≤ J 47 6 ∧ J 47 6 < an J 110 lv 47 6 by omega)] at hbw
        simp (disch := first | assumption | omega | exact bi_lo | exact bi_hi | exact bi_01 | exact jcmp_lo | exact jcmp_hi | exact (jor_r _ _).1 | exact (jor_r _ _).2 | exact (jand_r _ _).1 | exact (jand_r _ _).2) only [x77_25, x77_26, x77_29, x77_41, x77_42, x77_43, x77_44, kb_some, kb_none, clr_vi, clr_ref, clr_null, clr_none, va_rf_some, va_rf_none, ↓bi_ite_t, ↓bi_ite_f, ↓jc_lt_t, ↓jc_lt_f, ↓jc_gt_t, ↓jc_gt_f, ↓jc_le_t, ↓jc_le_f, ↓jc_ge_t, ↓jc_ge_f, ↓jc_eq_t, ↓jc_eq_f, ↓if_pos, ↓if_neg, hl]
        rw [e]
        rcases hb with rfl | rfl
        · simp (disch := first | assumption | omega | exact bi_lo | exact bi_hi | exact bi_01 | exact jcmp_lo | exact jcmp_hi | exact (jor_r _ _).1 | exact (jor_r _ _).2 | exact (jand_r _ _).1 | exact (jand_r _ _).2) only [x77_89, x77_90, x77_93, x77_94, x77_97, x77_99, x77_100, x77_103, x77_104, x77_107, x77_108, x77_109, x77_112, x77_113, x77_116, x77_117, kb_some, kb_none, clr_vi, clr_ref, clr_null, clr_none, va_rf_some, va_rf_none, ↓bi_ite_t, ↓bi_ite_f, ↓jc_lt_t, ↓jc_lt_f, ↓jc_gt_t, ↓jc_gt_f, ↓jc_le_t, ↓jc_le_f, ↓jc_ge_t, ↓jc_ge_f, ↓jc_eq_t, ↓jc_eq_f, ↓if_pos, ↓if_neg, hap, hbw]
        · simp (disch := first | assumption | omega | exact bi_lo | exact bi_hi | exact bi_01 | exact jcmp_lo | exact jcmp_hi | exact (jor_r _ _).1 | exact (jor_r _ _).2 | exact (jand_r _ _).1 | exact (jand_r _ _).2) only [x77_89, x77_90, x77_93, x77_94, x77_97, x77_99, x77_100, x77_103, x77_104, x77_107, x77_108, x77_109, x77_112, x77_113, x77_116, x77_117, kb_some, kb_none, clr_vi, clr_ref, clr_null, clr_none, va_rf_some, va_rf_none, ↓bi_ite_t, ↓bi_ite_f, ↓jc_lt_t, ↓jc_lt_f, ↓jc_gt_t, ↓jc_gt_f, ↓jc_le_t, ↓jc_le_f, ↓jc_ge_t, ↓jc_ge_f, ↓jc_eq_t, ↓jc_eq_f, ↓if_pos, ↓if_neg, hap, hbw]
      · rw [if_neg c]
        rw [bi_f c] at hl
        simp (disch := first | assumption | omega | exact bi_lo | exact bi_hi | exact bi_01 | exact jcmp_lo | exact jcmp_hi | exact (jor_r _ _).1 | exact (jor_r _ _).2 | exact (jand_r _ _).1 | exact (jand_r _ _).2) only [x77_25, x77_26, x77_29, x77_32, x77_33, x77_34, x77_37, x77_40, kb_some, kb_none, clr_vi, clr_ref, clr_null, clr_none, va_rf_some, va_rf_none, ↓bi_ite_t, ↓bi_ite_f, ↓jc_lt_t, ↓jc_lt_f, ↓jc_gt_t, ↓jc_gt_f, ↓jc_le_t, ↓jc_le_f, ↓jc_ge_t, ↓jc_ge_f, ↓jc_eq_t, ↓jc_eq_f, ↓if_pos, ↓if_neg, hl, gt_2, hfa]
    by_cases c2 : t (p + 1) = 45
    · rw [if_pos c2] at ho2
      have hp2 := TN_lt hN c2 (by omega)
      have := key 1 (p + 1 + 1) (Or.inr rfl) (by omega) (by omega)
      simp only [c2, if_true]
      rw [if_pos rfl] at this
      simp (disch := first | assumption | omega | exact bi_lo | exact bi_hi | exact bi_01 | exact jcmp_lo | exact jcmp_hi | exact (jor_r _ _).1 | exact (jor_r _ _).2 | exact (jand_r _ _).1 | exact (jand_r _ _).2) only [x77_0, x77_1, x77_3, x77_6, x77_18, x77_19, x77_21, x77_24, kb_some, kb_none, clr_vi, clr_ref, clr_null, clr_none, va_rf_some, va_rf_none, ↓bi_ite_t, ↓bi_ite_f, ↓jc_lt_t, ↓jc_lt_f, ↓jc_gt_t, ↓jc_gt_f, ↓jc_le_t, ↓jc_le_f, ↓jc_ge_t, ↓jc_ge_f, ↓jc_eq_t, ↓jc_eq_f, ↓if_pos, ↓if_neg, ho1, ho2]
      exact this
    · rw [if_neg c2] at ho2
      have := key 0 (p + 1) (Or.inl rfl) (by omega) (by omega)
      simp only [c2, if_false, Int.add_zero]
      simp only [if_neg (show ¬ (0 : Int) = 1 by decide)] at this
      simp (disch := first | assumption | omega | exact bi_lo | exact bi_hi | exact bi_01 | exact jcmp_lo | exact jcmp_hi | exact (jor_r _ _).1 | exact (jor_r _ _).2 | exact (jand_r _ _).1 | exact (jand_r _ _).2) only [x77_0, x77_1, x77_3, x77_6, x77_18, x77_19, x77_21, x77_24, kb_some, kb_none, clr_vi, clr_ref, clr_null, clr_none, va_rf_some, va_rf_none, ↓bi_ite_t, ↓bi_ite_f, ↓jc_lt_t, ↓jc_lt_f, ↓jc_gt_t, ↓jc_gt_f, ↓jc_le_t, ↓jc_le_f, ↓jc_ge_t, ↓jc_ge_f, ↓jc_eq_t, ↓jc_eq_f, ↓if_pos, ↓if_neg, ho1, ho2]
      exact this
  · rw [if_pos c1]
    rw [if_neg c1] at ho1
    simp (disch := first | assumption | omega | exact bi_lo | exact bi_hi | exact bi_01 | exact jcmp_lo | exact jcmp_hi | exact (jor_r _ _).1 | exact (jor_r _ _).2 | exact (jand_r _ _).1 | exact (jand_r _ _).2) only [x77_0, x77_1, x77_3, x77_6, x77_9, x77_10, x77_11, x77_14, x77_17, kb_some, kb_none, clr_vi, clr_ref, clr_null, clr_none, va_rf_some, va_rf_none, ↓bi_ite_t, ↓bi_ite_f, ↓jc_lt_t, ↓jc_lt_f, ↓jc_gt_t, ↓jc_gt_f, ↓jc_le_t, ↓jc_le_f, ↓jc_ge_t, ↓jc_ge_f, ↓jc_eq_t, ↓jc_eq_f, ↓if_pos, ↓if_neg, ho1, gt_2, hfa]
theorem l_cwords (h : TX t J R) (hi : (i : Int) < J 47 6 ∧ J 47 6 ≤ 40) (h53 : 0 ≤ J 53 1) {J1 : mJ} (hJ : J1 = J) : ∀ (m : Nat) (k p : Int) (l : List Int), (20 - k).toNat = m → 0 ≤ k ∧ k ≤ 20 → 0 ≤ p → p ≤ J 27 1 → J 53 1 + l.length ≤ p →
    EE (d + 2) 78 31 [some (.ref 46), some (vi lv), some (vi i), some (vi k)] [] (SH L) (gt t (tkL i J l) p) K R = ok (some (vi 1)) (SH L) (gt t (tkL i J (l ++ rowL t (lc t m p) p)) (p + (lc t m p : Nat))) K R := by
  have hR := h.1
  have hn := h.2.2.1
  have s46 : (SH L)[46]? = some (8, 5) := rfl; have r46_0 : R 46 0 = some 47 := rr_lk hR rfl; have s47 : (SH L)[47]? = some (9, 7) := rfl; have r47_0 : R 47 0 = some 48 := rr_lk hR rfl; have r47_1 : R 47 1 = some 49 := rr_lk hR rfl; have r47_2 : R 47 2 = some 50 := rr_lk hR rfl; have r47_3 : R 47 3 = some 51 := rr_lk hR rfl; have r47_4 : R 47 4 = some 52 := rr_lk hR rfl; have r47_5 : R 47 5 = some 53 := rr_lk hR rfl
  have hTX : ∀ l, TX t (tkL i J l) R := fun l => TX_o h (tkL_o h53 (by omega)) (by funext j; exact tkL_o h53 (by omega))
  intro m
  induction m with
  | zero =>
    intro k p l hm hk hp0 hp hc
    have e : lc t 0 p = 0 := rfl
    rw [e]
    show _ = ok (some (vi 1)) (SH L) (gt t (tkL i J (l ++ [])) (p + ((0 : Nat) : Int))) K R
    rw [List.append_nil, show p + ((0 : Nat) : Int) = p by omega]
    simp (disch := first | assumption | omega | exact bi_lo | exact bi_hi | exact bi_01 | exact jcmp_lo | exact jcmp_hi | exact (jor_r _ _).1 | exact (jor_r _ _).2 | exact (jand_r _ _).1 | exact (jand_r _ _).2) only [x78_31, x78_32, x78_34, x78_72, x78_73, kb_some, kb_none, clr_vi, clr_ref, clr_null, clr_none, va_rf_some, va_rf_none, ↓bi_ite_t, ↓bi_ite_f, ↓jc_lt_t, ↓jc_lt_f, ↓jc_gt_t, ↓jc_gt_f, ↓jc_le_t, ↓jc_le_f, ↓jc_ge_t, ↓jc_ge_f, ↓jc_eq_t, ↓jc_eq_f, ↓if_pos, ↓if_neg]
  | succ m ih =>
    intro k p l hm hk hp0 hp hc
    have hl := fun d => tx_isL (L := L) (d := d) (K := K) (TX_gt (p := p) (hTX l)) (p := p) gt_3
    by_cases c : isL (t p)
    · rw [bi_t c] at hl
      have hpn : p < J 27 1 := by
        by_cases c2 : J 27 1 ≤ p
        · have := TX_N h p c2; omega
        · omega
      have e : lc t (m + 1) p = lc t m (p + 1) + 1 := by
        rw [show lc t (m + 1) p = if isL (t p) then lc t m (p + 1) + 1 else 0 from rfl, if_pos c]
      have e47 : tkL i J l 47 6 = J 47 6 := tkL_o h53 (by omega)
      have htk := tx_take (L := L) (d := d) (t := t) (p := p) (x := t p) (i := i) (J := tkL i J l) (K := K) hR (by rw [e47]; exact hi) (by rw [tkL_53]; omega)
      rw [tkL_snoc] at htk
      have hg := tx_goTo (L := L) (d := d) (K := K) (TX_gt (p := p) (hTX (l ++ [t p]))) (p := p + 1) (by omega)
      rw [gt_gt] at hg
      have ih' := ih (k + 1) (p + 1) (l ++ [t p]) (by omega) (by omega) (by omega) (by omega) (by simp; omega)
      rw [e]
      have go : ∀ X, EE (d + 2) 78 31 [some (.ref 46), some (vi lv), some (vi i), some (vi (k + 1))] [] (SH L) (gt t (tkL i J (l ++ [t p])) (p + 1)) K R = X → EE (d + 2) 78 31 [some (.ref 46), some (vi lv), some (vi i), some (vi k)] [] (SH L) (gt t (tkL i J l) p) K R = X := by
        intro X hX
        simp (disch := first | assumption | omega | exact bi_lo | exact bi_hi | exact bi_01 | exact jcmp_lo | exact jcmp_hi | exact (jor_r _ _).1 | exact (jor_r _ _).2 | exact (jand_r _ _).1 | exact (jand_r _ _).2) only [x78_31, x78_32, x78_34, kb_some, kb_none, clr_vi, clr_ref, clr_null, clr_none, va_rf_some, va_rf_none, ↓bi_ite_t, ↓bi_ite_f, ↓jc_lt_t, ↓jc_lt_f, ↓jc_gt_t, ↓jc_gt_f, ↓jc_le_t, ↓jc_le_f, ↓jc_ge_t, ↓jc_ge_f, ↓jc_eq_t, ↓jc_eq_f, ↓if_pos, ↓if_neg]
        simp (disch := first | assumption | omega | exact bi_lo | exact bi_hi | exact bi_01 | exact jcmp_lo | exact jcmp_hi | exact (jor_r _ _).1 | exact (jor_r _ _).2 | exact (jand_r _ _).1 | exact (jand_r _ _).2) only [x78_37, x78_38, x78_41, x78_44, x78_45, x78_48, x78_49, x78_50, x78_53, x78_56, x78_57, x78_58, x78_61, x78_62, x78_63, x78_66, x78_69, kb_some, kb_none, clr_vi, clr_ref, clr_null, clr_none, va_rf_some, va_rf_none, ↓bi_ite_t, ↓bi_ite_f, ↓jc_lt_t, ↓jc_lt_f, ↓jc_gt_t, ↓jc_gt_f, ↓jc_le_t, ↓jc_le_f, ↓jc_ge_t, ↓jc_ge_f, ↓jc_eq_t, ↓jc_eq_f, ↓if_pos, ↓if_neg, hl, gt_2, gt_3, htk, hg]
        exact hX
      rw [go _ ih', rowL_s, List.append_assoc, show p + 1 + (lc t m (p + 1) : Nat) = p + ((lc t m (p + 1) + 1 : Nat) : Int) by omega]
      rfl
    · rw [bi_f c] at hl
      have e : lc t (m + 1) p = 0 := by
        rw [show lc t (m + 1) p = if isL (t p) then lc t m (p + 1) + 1 else 0 from rfl, if_neg c]
      rw [e]
      show _ = ok (some (vi 1)) (SH L) (gt t (tkL i J (l ++ [])) (p + ((0 : Nat) : Int))) K R
      rw [List.append_nil, show p + ((0 : Nat) : Int) = p by omega]
      simp (disch := first | assumption | omega | exact bi_lo | exact bi_hi | exact bi_01 | exact jcmp_lo | exact jcmp_hi | exact (jor_r _ _).1 | exact (jor_r _ _).2 | exact (jand_r _ _).1 | exact (jand_r _ _).2) only [x78_31, x78_32, x78_34, kb_some, kb_none, clr_vi, clr_ref, clr_null, clr_none, va_rf_some, va_rf_none, ↓bi_ite_t, ↓bi_ite_f, ↓jc_lt_t, ↓jc_lt_f, ↓jc_gt_t, ↓jc_gt_f, ↓jc_le_t, ↓jc_le_f, ↓jc_ge_t, ↓jc_ge_f, ↓jc_eq_t, ↓jc_eq_f, ↓if_pos, ↓if_neg]
      simp (disch := first | assumption | omega | exact bi_lo | exact bi_hi | exact bi_01 | exact jcmp_lo | exact jcmp_hi | exact (jor_r _ _).1 | exact (jor_r _ _).2 | exact (jand_r _ _).1 | exact (jand_r _ _).2) only [x78_37, x78_38, x78_41, x78_72, x78_73, kb_some, kb_none, clr_vi, clr_ref, clr_null, clr_none, va_rf_some, va_rf_none, ↓bi_ite_t, ↓bi_ite_f, ↓jc_lt_t, ↓jc_lt_f, ↓jc_gt_t, ↓jc_gt_f, ↓jc_le_t, ↓jc_le_f, ↓jc_ge_t, ↓jc_ge_f, ↓jc_eq_t, ↓jc_eq_f, ↓if_pos, ↓if_neg, hl]
theorem an_47 {ty : Int} : an J ty lv 47 6 = J 47 6 + 1 := up_s
theorem an_o {ty : Int} {a : Nat} (h : ¬ (47 ≤ a ∧ a ≤ 52)) : an J ty lv a = J a := by
  unfold an
  rw [up_ne (by omega), up_ne (by omega), up_ne (by omega), up_ne (by omega), up_ne (by omega), up_ne (by omega)]
theorem TX_an {ty : Int} (h : TX t J R) : TX t (an J ty lv) R := TX_o h (by rw [an_o (by decide)]) (an_o (by decide))
theorem tx_words (h : TX t J R) (hp : 0 ≤ p ∧ p ≤ J 27 1) (h47 : 0 ≤ J 47 6 ∧ J 47 6 < 40) (h53 : 0 ≤ J 53 1 ∧ J 53 1 ≤ p) :
    EE (d + 3) 78 0 [some (.ref 46), some (vi lv), none, none] [] (SH L) (gt t J p) K R =
      if t p ≠ 32 then ok (some (vi 0)) (SH L) (mm_up (gt t J p) 46 4 p) K R
      else ok (some (vi 1)) (SH L) (gt t (tkL (J 47 6).toNat (an J 115 lv) (rowL t (lc t 20 (p + 1)) (p + 1))) (p + 1 + (lc t 20 (p + 1) : Nat))) K R := by
  have hR := h.1
  have hn := h.2.2.1
  have hN := TX_N h
  have s46 : (SH L)[46]? = some (8, 5) := rfl; have r46_0 : R 46 0 = some 47 := rr_lk hR rfl; have s47 : (SH L)[47]? = some (9, 7) := rfl; have r47_0 : R 47 0 = some 48 := rr_lk hR rfl; have r47_1 : R 47 1 = some 49 := rr_lk hR rfl; have r47_2 : R 47 2 = some 50 := rr_lk hR rfl; have r47_3 : R 47 3 = some 51 := rr_lk hR rfl; have r47_4 : R 47 4 = some 52 := rr_lk hR rfl; have r47_5 : R 47 5 = some 53 := rr_lk hR rfl
  have hfa := fun d J p => tx_faulty (L := L) (d := d) (J := J) (K := K) (R := R) (p := p)
  have ho1 := tx_over (L := L) (d := d) (K := K) (TX_gt (p := p) h) (y := 32) (by rw [gt_2]; omega) (by rw [gt_2, gt_3]) (by omega)
  rw [gt_2, gt_gt] at ho1
  by_cases c1 : t p = 32
  · rw [if_neg (not_not_intro c1)]
    rw [if_pos c1] at ho1
    have hp1 := TN_lt hN c1 (by omega)
    have hap := tx_append (L := L) (d := d + 1) (t := t) (p := p + 1) (x := 115) (y := lv) (K := K) hR h47
    have hl := l_cwords (L := L) (d := d + 1) (K := K) (lv := lv) (i := (J 47 6).toNat) (TX_an (ty := 115) (lv := lv) h) (by rw [an_47]; omega) (by rw [an_o (by decide)]; omega) rfl 20 0 (p + 1) [] (by omega) (by omega) (by omega) (by rw [an_o (by decide)]; omega) (by rw [an_o (by decide)]; simp; omega)
    rw [Int.toNat_of_nonneg h47.1, List.nil_append] at hl
    have e0 : tkL (J 47 6).toNat (an J 115 lv) [] = an J 115 lv := rfl
    rw [e0] at hl
    simp (disch := first | assumption | omega | exact bi_lo | exact bi_hi | exact bi_01 | exact jcmp_lo | exact jcmp_hi | exact (jor_r _ _).1 | exact (jor_r _ _).2 | exact (jand_r _ _).1 | exact (jand_r _ _).2) only [x78_0, x78_1, x78_3, x78_6, x78_18, x78_19, x78_22, x78_24, x78_25, x78_28, x78_29, x78_30, kb_some, kb_none, clr_vi, clr_ref, clr_null, clr_none, va_rf_some, va_rf_none, ↓bi_ite_t, ↓bi_ite_f, ↓jc_lt_t, ↓jc_lt_f, ↓jc_gt_t, ↓jc_gt_f, ↓jc_le_t, ↓jc_le_f, ↓jc_ge_t, ↓jc_ge_f, ↓jc_eq_t, ↓jc_eq_f, ↓if_pos, ↓if_neg, ho1, hap]
    exact hl
  · rw [if_pos c1]
    rw [if_neg c1] at ho1
    simp (disch := first | assumption | omega | exact bi_lo | exact bi_hi | exact bi_01 | exact jcmp_lo | exact jcmp_hi | exact (jor_r _ _).1 | exact (jor_r _ _).2 | exact (jand_r _ _).1 | exact (jand_r _ _).2) only [x78_0, x78_1, x78_3, x78_6, x78_9, x78_10, x78_11, x78_14, x78_17, kb_some, kb_none, clr_vi, clr_ref, clr_null, clr_none, va_rf_some, va_rf_none, ↓bi_ite_t, ↓bi_ite_f, ↓jc_lt_t, ↓jc_lt_f, ↓jc_gt_t, ↓jc_gt_f, ↓jc_le_t, ↓jc_le_f, ↓jc_ge_t, ↓jc_ge_f, ↓jc_eq_t, ↓jc_eq_f, ↓if_pos, ↓if_neg, ho1, gt_2, hfa]
end
