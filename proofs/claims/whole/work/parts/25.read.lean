/-! the class reads a chunk -/
def FH (J : mJ) (e : Fl) : Prop := J 32 3 = (e.length : Nat) ∧ hF (J 33) (J 34) (J 35) 0 e
theorem hF_congr {x y z x' y' z' : Nat → Int} : ∀ (e : Fl) (m : Nat), hF x y z m e → (∀ j, m ≤ j → j < m + e.length → x' j = x j ∧ y' j = y j ∧ z' j = z j) → hF x' y' z' m e := by
  intro e
  induction e with
  | nil => intro m h h1; trivial
  | cons q e ih =>
    intro m h h1
    obtain ⟨u1, u2⟩ := h
    rw [List.length_cons] at h1
    obtain ⟨v1, v2, v3⟩ := h1 m (by omega) (by omega)
    refine ⟨by rw [v1, v2, v3]; exact u1, ih _ u2 (fun j q1 q2 => h1 j (by omega) (by omega))⟩
theorem hF_app {x y z : Nat → Int} : ∀ (e : Fl) (m : Nat) (q : Int × Int × Int), hF x y z m e → (x (m + e.length) = q.1 ∧ y (m + e.length) = q.2.1 ∧ z (m + e.length) = q.2.2) → hF x y z m (e ++ [q]) := by
  intro e
  induction e with
  | nil => intro m q h h1; exact ⟨h1, trivial⟩
  | cons a e ih =>
    intro m q h h1
    obtain ⟨u1, u2⟩ := h
    rw [List.length_cons, show m + (e.length + 1) = m + 1 + e.length by omega] at h1
    exact ⟨u1, ih _ _ u2 h1⟩
/-- what a part of the reading leaves as it was -/
def FRM (J J' : mJ) : Prop := fr A32 J J' ∧ (J 36 6 ≤ J' 36 6 ∧ J' 36 6 ≤ 40) ∧ (J 42 1 ≤ J' 42 1 ∧ J' 42 1 ≤ 120) ∧ (0 ≤ J' 32 3 ∧ J' 32 3 ≤ 6) ∧ (∀ j : Nat, (j : Int) < J 36 6 → J' 37 j = J 37 j ∧ J' 38 j = J 38 j ∧ J' 39 j = J 39 j ∧ J' 40 j = J 40 j ∧ J' 41 j = J 41 j) ∧ (∀ j : Nat, (j : Int) < J 42 1 → J' 43 j = J 43 j)
theorem FRM_trans {J J' J'' : mJ} (h : FRM J J') (h' : FRM J' J'') : FRM J J'' := by
  obtain ⟨u1, u2, u3, u4, u5, u6⟩ := h
  obtain ⟨v1, v2, v3, v4, v5, v6⟩ := h'
  refine ⟨fr_trans u1 v1, by omega, by omega, v4, ?_, ?_⟩
  · intro j hj
    obtain ⟨a1, a2, a3, a4, a5⟩ := u5 j hj
    obtain ⟨b1, b2, b3, b4, b5⟩ := v5 j (by omega)
    exact ⟨b1.trans a1, b2.trans a2, b3.trans a3, b4.trans a4, b5.trans a5⟩
  · intro j hj
    exact (v6 j (by omega)).trans (u6 j hj)
theorem RD_FRM {L e c : Nat} {f : Int → Int} {v : Int} {J J' : mJ} {R : mm_R} (h : RD L e c f v J R) (hf : FRM J J') : RD L e c f v J' R := by
  have h9 := h.2.2.2.2.2.2.2.2
  exact RD_fr h hf.1 ⟨by have := hf.2.1; omega, hf.2.1.2⟩ ⟨by have := hf.2.2.1; omega, hf.2.2.1.2⟩
section
variable {L d e c : Nat} {f : Int → Int} {ver : Int} {J K : mJ} {R : mm_R} {w l p x y z : Int}
theorem rd_raise (hR : wfR R) (hs : 0 ≤ J 32 3 ∧ J 32 3 ≤ 6) (h36 : 0 ≤ J 36 6 ∧ J 36 6 ≤ 40) (h42 : 0 ≤ J 42 1 ∧ J 42 1 ≤ 120) :
    wp (SH L) (EE d 11 0 [some (.ref 32), some (vi w), some (vi l), some (vi p)] [] (SH L) J K R) fun v J' K' R' => v = some (vi 0) ∧ K' = K ∧ R' = R ∧ FRM J J' ∧ J' 36 = J 36 ∧ J' 42 = J 42 ∧ (∀ e : Fl, e.length < 6 → FH J e → FH J' (e ++ [(w, l, p)])) := by
  by_cases c : J 32 3 = 6
  · have := f_raiseF (d := d) (J := J) (K := K) (w := w) (l := l) (p := p) (isF_32 (L := L) hR) c
    rw [this]
    refine wp_ok ⟨rfl, rfl, rfl, ⟨fr_refl, by omega, by omega, by omega, fun _ _ => ⟨rfl, rfl, rfl, rfl, rfl⟩, fun _ _ => rfl⟩, rfl, rfl, ?_⟩
    intro e he h
    exact absurd h.1 (by omega)
  · have := f_raise (d := d) (J := J) (K := K) (w := w) (l := l) (p := p) (isF_32 (L := L) hR) (show 0 ≤ J 32 3 ∧ J 32 3 < 6 by omega)
    rw [this]
    refine wp_ok ⟨rfl, rfl, rfl, ⟨fr_up (fr_up (fr_up (fr_up fr_refl (by decide)) (by decide)) (by decide)) (by decide), ?_, ?_, ?_, ?_, ?_⟩, ?_, ?_, ?_⟩
    · simp only [up_ne (show (36 : Nat) ≠ 32 by decide), up_ne (show (36 : Nat) ≠ 33 by decide), up_ne (show (36 : Nat) ≠ 34 by decide), up_ne (show (36 : Nat) ≠ 35 by decide)]; omega
    · simp only [up_ne (show (42 : Nat) ≠ 32 by decide), up_ne (show (42 : Nat) ≠ 33 by decide), up_ne (show (42 : Nat) ≠ 34 by decide), up_ne (show (42 : Nat) ≠ 35 by decide)]; omega
    · rw [up_s]; omega
    · intro j hj
      simp [mm_up]
    · intro j hj
      simp [mm_up]
    · funext j; simp [mm_up]
    · funext j; simp [mm_up]
    · intro e he h
      obtain ⟨q1, q2⟩ := h
      refine ⟨by rw [up_s, q1]; simp, ?_⟩
      have hn : (J 32 3).toNat = e.length := by omega
      rw [hn]
      refine hF_app e 0 _ (hF_congr e 0 q2 ?_) ?_
      · intro j j1 j2
        have : j ≠ e.length := by omega
        simp [mm_up, this]
      · simp [mm_up]
theorem l_num (h : RD L e c f ver J R) {pl en layer : Int} (hen : -1 ≤ en ∧ en ≤ 100000) : ∀ (i : Nat) (k w : Int), (en - k).toNat = i → 0 ≤ k ∧ k ≤ 100000 →
    EE (d + 1) 31 23 [some (.ref 31), some (vi pl), some (vi en), some (vi layer), some (vi w), some (vi k)] [] (SH L) J K R = EE (d + 1) 31 52 [some (.ref 31), some (vi pl), some (vi en), some (vi layer), some (vi (numF f i k w)), some (vi (k + i))] [] (SH L) J K R := by
  intro i
  have hR := h.1
  have hs := h.2.1
  have hB := h.2.2.1.1
  have s31 : (SH L)[31]? = some (2, 5) := rfl; have r31_0 : R 31 0 = some 32 := rr_lk hR rfl; have r31_1 : R 31 1 = some 36 := rr_lk hR rfl; have s32 : (SH L)[32]? = some (1, 4) := rfl; have r32_0 : R 32 0 = some 33 := rr_lk hR rfl; have r32_1 : R 32 1 = some 34 := rr_lk hR rfl; have r32_2 : R 32 2 = some 35 := rr_lk hR rfl; have s36 : (SH L)[36]? = some (9, 7) := rfl; have r36_0 : R 36 0 = some 37 := rr_lk hR rfl; have r36_1 : R 36 1 = some 38 := rr_lk hR rfl; have r36_2 : R 36 2 = some 39 := rr_lk hR rfl; have r36_3 : R 36 3 = some 40 := rr_lk hR rfl; have r36_4 : R 36 4 = some 41 := rr_lk hR rfl; have r36_5 : R 36 5 = some 42 := rr_lk hR rfl
  induction i with
  | zero =>
    intro k w hi hk
    simp (disch := first | assumption | omega | exact bi_lo | exact bi_hi | exact bi_01 | exact jcmp_lo | exact jcmp_hi | exact (jor_r _ _).1 | exact (jor_r _ _).2 | exact (jand_r _ _).1 | exact (jand_r _ _).2) only [x31_23, x31_25, x31_26, kb_some, kb_none, clr_vi, clr_ref, clr_null, clr_none, va_rf_some, va_rf_none, if_pos (show en ≤ k by omega), numF]
    simp
  | succ i ih =>
    intro k w hi hk
    have ha := RD_at (d := d) (K := K) h k (by omega)
    have ih' := ih (k + 1) (jor (jshl w 8) (f k)) (by omega) (by omega)
    simp (disch := first | assumption | omega | exact bi_lo | exact bi_hi | exact bi_01 | exact jcmp_lo | exact jcmp_hi | exact (jor_r _ _).1 | exact (jor_r _ _).2 | exact (jand_r _ _).1 | exact (jand_r _ _).2) only [x31_23, x31_25, x31_26, kb_some, kb_none, clr_vi, clr_ref, clr_null, clr_none, va_rf_some, va_rf_none, if_neg (show ¬ en ≤ k by omega)]
    simp (disch := first | assumption | omega | exact bi_lo | exact bi_hi | exact bi_01 | exact jcmp_lo | exact jcmp_hi | exact (jor_r _ _).1 | exact (jor_r _ _).2 | exact (jand_r _ _).1 | exact (jand_r _ _).2) only [x31_29, x31_31, x31_33, x31_34, x31_35, x31_38, x31_40, x31_43, x31_44, x31_46, x31_49, kb_some, kb_none, clr_vi, clr_ref, clr_null, clr_none, va_rf_some, va_rf_none, hs, ha]
    rw [ih', numF, show k + 1 + (i : Int) = k + ((i + 1 : Nat) : Int) by omega]
theorem rd_takesNumber (h : RD L e c f ver J R) (h32 : 0 ≤ J 32 3 ∧ J 32 3 ≤ 6) {pl n layer : Int} (hpl : 0 ≤ pl ∧ pl ≤ 10000) (hn : 1 ≤ n ∧ n ≤ 4) :
    wp (SH L) (EE (d + 2) 31 0 [some (.ref 31), some (vi pl), some (vi (pl + n)), some (vi layer), none, none] [] (SH L) J K R) fun v J' K' R' => v = some (vi 1) ∧ K' = K ∧ R' = R ∧ FRM J J' ∧ J' 32 3 = J 32 3 ∧
      (J 36 6 < 40 → cN f (J' 42 1) (J' 37) (J' 38) (J' 39) (J' 40) (J' 41) (J' 43) (layer - 2) (110, num f n.toNat pl, pl) 0 (J 36 6).toNat ∧ J' 36 6 = J 36 6 + 1 ∧ J' 42 1 = J 42 1) := by
  have hR := h.1
  have hs := h.2.1
  have hB := h.2.2.1.1
  have s31 : (SH L)[31]? = some (2, 5) := rfl; have r31_0 : R 31 0 = some 32 := rr_lk hR rfl; have r31_1 : R 31 1 = some 36 := rr_lk hR rfl; have s32 : (SH L)[32]? = some (1, 4) := rfl; have r32_0 : R 32 0 = some 33 := rr_lk hR rfl; have r32_1 : R 32 1 = some 34 := rr_lk hR rfl; have r32_2 : R 32 2 = some 35 := rr_lk hR rfl; have s36 : (SH L)[36]? = some (9, 7) := rfl; have r36_0 : R 36 0 = some 37 := rr_lk hR rfl; have r36_1 : R 36 1 = some 38 := rr_lk hR rfl; have r36_2 : R 36 2 = some 39 := rr_lk hR rfl; have r36_3 : R 36 3 = some 40 := rr_lk hR rfl; have r36_4 : R 36 4 = some 41 := rr_lk hR rfl; have r36_5 : R 36 5 = some 42 := rr_lk hR rfl
  have h36 := h.2.2.2.2.2.2.2.2.1
  have h42 := h.2.2.2.2.2.2.2.2.2
  have ha := RD_at (d := d + 1) (K := K) h pl (by omega)
  have hr := RD_f h pl
  have hl := fun w => l_num (d := d + 1) (K := K) (layer := layer) (pl := pl) h (en := pl + n) (by omega) n.toNat pl w (by omega) (by omega)
  have hw : wp (SH L) (EE (d + 2) 31 52 [some (.ref 31), some (vi pl), some (vi (pl + n)), some (vi layer), some (vi (num f n.toNat pl)), some (vi (pl + n.toNat))] [] (SH L) J K R) fun v J' K' R' => v = some (vi 1) ∧ K' = K ∧ R' = R ∧ FRM J J' ∧ J' 32 3 = J 32 3 ∧
      (J 36 6 < 40 → cN f (J' 42 1) (J' 37) (J' 38) (J' 39) (J' 40) (J' 41) (J' 43) (layer - 2) (110, num f n.toNat pl, pl) 0 (J 36 6).toNat ∧ J' 36 6 = J 36 6 + 1 ∧ J' 42 1 = J 42 1) := by
    by_cases c40 : J 36 6 < 40
    · have hap := t_append (d := d) (J := J) (K := K) (x := 110) (y := layer - 2) (isT_36 (L := L) hR) ⟨h36.1, c40⟩
      generalize hJ1 : mm_up (mm_up (mm_up (mm_up (mm_up (mm_up J 37 (J 36 6).toNat 110) 38 (J 36 6).toNat 0) 39 (J 36 6).toNat (layer - 2)) 40 (J 36 6).toNat 1) 41 (J 36 6).toNat (J 42 1)) 36 6 (J 36 6 + 1) = J1 at hap
      have e6 : J1 36 6 = J 36 6 + 1 := by rw [← hJ1, up_s]
      have hbw := t_becomeWorth (d := d) (J := J1) (K := K) (i := J 36 6) (x := num f n.toNat pl) (isT_36 (L := L) hR) (by omega) (by omega)
      rw [if_pos (by omega)] at hbw
      simp (disch := first | assumption | omega | exact bi_lo | exact bi_hi | exact bi_01 | exact jcmp_lo | exact jcmp_hi | exact (jor_r _ _).1 | exact (jor_r _ _).2 | exact (jand_r _ _).1 | exact (jand_r _ _).2) only [x31_52, x31_53, x31_56, x31_57, x31_60, x31_62, x31_63, x31_64, x31_65, x31_68, x31_70, x31_73, x31_74, kb_some, kb_none, clr_vi, clr_ref, clr_null, clr_none, va_rf_some, va_rf_none, hap, hbw]
      refine wp_ok (show _ ∧ _ from ⟨rfl, rfl, rfl, ⟨?_, ?_, ?_, ?_, ?_, ?_⟩, ?_, ?_⟩)
      · refine fr_up ?_ (by decide)
        rw [← hJ1]
        exact fr_up (fr_up (fr_up (fr_up (fr_up (fr_up fr_refl (by decide)) (by decide)) (by decide)) (by decide)) (by decide)) (by decide)
      · rw [up_ne (by decide)]; omega
      · rw [up_ne (by decide), ← hJ1]; simp [mm_up]; omega
      · rw [up_ne (by decide), ← hJ1]; simp [mm_up]; omega
      · intro j hj
        have : j ≠ (J 36 6).toNat := by omega
        rw [← hJ1]; simp [mm_up, this]
      · intro j hj
        rw [← hJ1]; simp [mm_up]
      · rw [← hJ1]; simp [mm_up]
      · intro _
        refine ⟨⟨?_, ?_, ?_, ?_, ?_⟩, ?_, ?_⟩
        · rw [← hJ1]; simp [mm_up]
        · rw [← hJ1]; simp [mm_up]
        · rw [← hJ1]; simp [mm_up]
        · rw [← hJ1]; simp [mm_up]
        · intro hh; simp at hh
        · rw [← hJ1]; simp [mm_up]
        · rw [← hJ1]; simp [mm_up]
    · have hap := t_appendF (d := d) (J := J) (K := K) (x := 110) (y := layer - 2) (isT_36 (L := L) hR) (by omega)
      have hbw := t_becomeWorth (d := d) (J := J) (K := K) (i := -1) (x := num f n.toNat pl) (isT_36 (L := L) hR) (by omega) (by omega)
      rw [if_neg (by omega)] at hbw
      simp (disch := first | assumption | omega | exact bi_lo | exact bi_hi | exact bi_01 | exact jcmp_lo | exact jcmp_hi | exact (jor_r _ _).1 | exact (jor_r _ _).2 | exact (jand_r _ _).1 | exact (jand_r _ _).2) only [x31_52, x31_53, x31_56, x31_57, x31_60, x31_62, x31_63, x31_64, x31_65, x31_68, x31_70, x31_73, x31_74, kb_some, kb_none, clr_vi, clr_ref, clr_null, clr_none, va_rf_some, va_rf_none, hap, hbw]
      exact wp_ok ⟨rfl, rfl, rfl, ⟨fr_refl, by omega, by omega, by omega, fun _ _ => ⟨rfl, rfl, rfl, rfl, rfl⟩, fun _ _ => rfl⟩, rfl, fun h => absurd h c40⟩
  by_cases c1 : f pl ≤ 127
  · have e1 : num f n.toNat pl = numF f n.toNat pl 0 := by unfold num; rw [if_neg (by omega)]
    rw [e1] at hw ⊢
    simp (disch := first | assumption | omega | exact bi_lo | exact bi_hi | exact bi_01 | exact jcmp_lo | exact jcmp_hi | exact (jor_r _ _).1 | exact (jor_r _ _).2 | exact (jand_r _ _).1 | exact (jand_r _ _).2) only [x31_0, x31_1, x31_4, x31_5, x31_8, x31_10, x31_13, x31_14, x31_17, x31_18, x31_20, x31_21, kb_some, kb_none, clr_vi, clr_ref, clr_null, clr_none, va_rf_some, va_rf_none, hs, ha, hl, if_pos c1]
    exact hw
  · have e1 : num f n.toNat pl = numF f n.toNat pl (-1) := by unfold num; rw [if_pos (by omega)]
    rw [e1] at hw ⊢
    simp (disch := first | assumption | omega | exact bi_lo | exact bi_hi | exact bi_01 | exact jcmp_lo | exact jcmp_hi | exact (jor_r _ _).1 | exact (jor_r _ _).2 | exact (jand_r _ _).1 | exact (jand_r _ _).2) only [x31_0, x31_1, x31_4, x31_5, x31_8, x31_10, x31_13, x31_14, x31_17, x31_18, x31_20, x31_21, kb_some, kb_none, clr_vi, clr_ref, clr_null, clr_none, va_rf_some, va_rf_none, hs, ha, hl, if_neg c1]
    exact hw
end
